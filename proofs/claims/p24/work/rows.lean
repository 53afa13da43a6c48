section
-- ===== PART A: goes FIRST, ahead of the names: the tables' words, and 'selects' of the private methods out of them =====
/-- a private method of a class that the tables say can be made, by its rows of tables_1 -/
def lw_okq (q : MethodName × Nat) : Prop := (q.1.cls ≠ "java/lang/invoke/MethodHandle" ∧ q.1.cls ≠ "java/lang/invoke/VarHandle") ∧ Cond.instantiable q.1.cls q.2 ∈ tables_1 ∧ Cond.privateMethod q.1 ∈ tables_1 ∧ Cond.instanceMethod q.1 ∈ tables_1
theorem lw_p0 : lw_okq (⟨"RoaringIndex$NumberSet", "settle", "(LRoaringIndex$Container;Z)I"⟩, 2) := ⟨⟨by decide +kernel, by decide +kernel⟩, List.mem_of_getElem? (i := 24) (by decide +kernel), List.mem_of_getElem? (i := 230) (by decide +kernel), List.mem_of_getElem? (i := 231) (by decide +kernel)⟩
theorem lw_p1 : lw_okq (⟨"RoaringIndex", "takeWork", "(I)Z"⟩, 6) := ⟨⟨by decide +kernel, by decide +kernel⟩, List.mem_of_getElem? (i := 15) (by decide +kernel), List.mem_of_getElem? (i := 283) (by decide +kernel), List.mem_of_getElem? (i := 284) (by decide +kernel)⟩
theorem lw_p2 : lw_okq (⟨"RoaringIndex$Pile", "joinUpperTwo", "(ILRoaringIndex$NumberSet;)Z"⟩, 2) := ⟨⟨by decide +kernel, by decide +kernel⟩, List.mem_of_getElem? (i := 78) (by decide +kernel), List.mem_of_getElem? (i := 355) (by decide +kernel), List.mem_of_getElem? (i := 356) (by decide +kernel)⟩
theorem lw_p3 : lw_okq (⟨"RoaringIndex$Container", "firstBit", "(IJ)I"⟩, 4) := ⟨⟨by decide +kernel, by decide +kernel⟩, List.mem_of_getElem? (i := 31) (by decide +kernel), List.mem_of_getElem? (i := 425) (by decide +kernel), List.mem_of_getElem? (i := 426) (by decide +kernel)⟩
theorem lw_p4 : lw_okq (⟨"RoaringIndex$Reader", "takeMark", "(LRoaringIndex$ByteRow;)Z"⟩, 10) := ⟨⟨by decide +kernel, by decide +kernel⟩, List.mem_of_getElem? (i := 111) (by decide +kernel), List.mem_of_getElem? (i := 535) (by decide +kernel), List.mem_of_getElem? (i := 536) (by decide +kernel)⟩
theorem lw_p5 : lw_okq (⟨"RoaringIndex$Reader", "isThere", "(I)Z"⟩, 10) := ⟨⟨by decide +kernel, by decide +kernel⟩, List.mem_of_getElem? (i := 111) (by decide +kernel), List.mem_of_getElem? (i := 539) (by decide +kernel), List.mem_of_getElem? (i := 540) (by decide +kernel)⟩
theorem lw_p6 : lw_okq (⟨"RoaringIndex$Reader", "tellFault", "(II)Z"⟩, 10) := ⟨⟨by decide +kernel, by decide +kernel⟩, List.mem_of_getElem? (i := 111) (by decide +kernel), List.mem_of_getElem? (i := 543) (by decide +kernel), List.mem_of_getElem? (i := 544) (by decide +kernel)⟩
theorem lw_p7 : lw_okq (⟨"RoaringIndex$Reader", "take", "(LRoaringIndex$ByteRow;I)J"⟩, 10) := ⟨⟨by decide +kernel, by decide +kernel⟩, List.mem_of_getElem? (i := 111) (by decide +kernel), List.mem_of_getElem? (i := 547) (by decide +kernel), List.mem_of_getElem? (i := 548) (by decide +kernel)⟩
theorem lw_p8 : lw_okq (⟨"RoaringIndex$Reader", "takePlainTotal", "(LRoaringIndex$ByteRow;)Z"⟩, 10) := ⟨⟨by decide +kernel, by decide +kernel⟩, List.mem_of_getElem? (i := 111) (by decide +kernel), List.mem_of_getElem? (i := 560) (by decide +kernel), List.mem_of_getElem? (i := 561) (by decide +kernel)⟩
theorem lw_p9 : lw_okq (⟨"RoaringIndex$Reader", "takeRunBits", "(LRoaringIndex$ByteRow;I)Z"⟩, 10) := ⟨⟨by decide +kernel, by decide +kernel⟩, List.mem_of_getElem? (i := 111) (by decide +kernel), List.mem_of_getElem? (i := 567) (by decide +kernel), List.mem_of_getElem? (i := 568) (by decide +kernel)⟩
theorem lw_p10 : lw_okq (⟨"RoaringIndex$Reader", "takeHeads", "(LRoaringIndex$ByteRow;)Z"⟩, 10) := ⟨⟨by decide +kernel, by decide +kernel⟩, List.mem_of_getElem? (i := 111) (by decide +kernel), List.mem_of_getElem? (i := 571) (by decide +kernel), List.mem_of_getElem? (i := 572) (by decide +kernel)⟩
theorem lw_p11 : lw_okq (⟨"RoaringIndex$Reader", "takePlaces", "()Z"⟩, 10) := ⟨⟨by decide +kernel, by decide +kernel⟩, List.mem_of_getElem? (i := 111) (by decide +kernel), List.mem_of_getElem? (i := 575) (by decide +kernel), List.mem_of_getElem? (i := 576) (by decide +kernel)⟩
theorem lw_p12 : lw_okq (⟨"RoaringIndex$Reader", "takeContainer", "(LRoaringIndex$ByteRow;LRoaringIndex$NumberSet;I)Z"⟩, 10) := ⟨⟨by decide +kernel, by decide +kernel⟩, List.mem_of_getElem? (i := 111) (by decide +kernel), List.mem_of_getElem? (i := 579) (by decide +kernel), List.mem_of_getElem? (i := 580) (by decide +kernel)⟩
theorem lw_p13 : lw_okq (⟨"RoaringIndex$Reader", "takeRuns", "(LRoaringIndex$ByteRow;LRoaringIndex$Container;I)Z"⟩, 10) := ⟨⟨by decide +kernel, by decide +kernel⟩, List.mem_of_getElem? (i := 111) (by decide +kernel), List.mem_of_getElem? (i := 584) (by decide +kernel), List.mem_of_getElem? (i := 585) (by decide +kernel)⟩
theorem lw_p14 : lw_okq (⟨"RoaringIndex$Reader", "takeArray", "(LRoaringIndex$ByteRow;LRoaringIndex$Container;I)Z"⟩, 10) := ⟨⟨by decide +kernel, by decide +kernel⟩, List.mem_of_getElem? (i := 111) (by decide +kernel), List.mem_of_getElem? (i := 590) (by decide +kernel), List.mem_of_getElem? (i := 591) (by decide +kernel)⟩
theorem lw_p15 : lw_okq (⟨"RoaringIndex$Reader", "takeBitmap", "(LRoaringIndex$ByteRow;LRoaringIndex$Container;I)Z"⟩, 10) := ⟨⟨by decide +kernel, by decide +kernel⟩, List.mem_of_getElem? (i := 111) (by decide +kernel), List.mem_of_getElem? (i := 594) (by decide +kernel), List.mem_of_getElem? (i := 595) (by decide +kernel)⟩
def lw_privs_1 : List (MethodName × Nat) := [(⟨"RoaringIndex$NumberSet", "settle", "(LRoaringIndex$Container;Z)I"⟩, 2), (⟨"RoaringIndex", "takeWork", "(I)Z"⟩, 6), (⟨"RoaringIndex$Pile", "joinUpperTwo", "(ILRoaringIndex$NumberSet;)Z"⟩, 2), (⟨"RoaringIndex$Container", "firstBit", "(IJ)I"⟩, 4), (⟨"RoaringIndex$Reader", "takeMark", "(LRoaringIndex$ByteRow;)Z"⟩, 10), (⟨"RoaringIndex$Reader", "isThere", "(I)Z"⟩, 10), (⟨"RoaringIndex$Reader", "tellFault", "(II)Z"⟩, 10), (⟨"RoaringIndex$Reader", "take", "(LRoaringIndex$ByteRow;I)J"⟩, 10), (⟨"RoaringIndex$Reader", "takePlainTotal", "(LRoaringIndex$ByteRow;)Z"⟩, 10), (⟨"RoaringIndex$Reader", "takeRunBits", "(LRoaringIndex$ByteRow;I)Z"⟩, 10), (⟨"RoaringIndex$Reader", "takeHeads", "(LRoaringIndex$ByteRow;)Z"⟩, 10), (⟨"RoaringIndex$Reader", "takePlaces", "()Z"⟩, 10), (⟨"RoaringIndex$Reader", "takeContainer", "(LRoaringIndex$ByteRow;LRoaringIndex$NumberSet;I)Z"⟩, 10), (⟨"RoaringIndex$Reader", "takeRuns", "(LRoaringIndex$ByteRow;LRoaringIndex$Container;I)Z"⟩, 10), (⟨"RoaringIndex$Reader", "takeArray", "(LRoaringIndex$ByteRow;LRoaringIndex$Container;I)Z"⟩, 10), (⟨"RoaringIndex$Reader", "takeBitmap", "(LRoaringIndex$ByteRow;LRoaringIndex$Container;I)Z"⟩, 10)]
theorem lw_r1 : ∀ q ∈ lw_privs_1, lw_okq q := List.forall_mem_cons.mpr ⟨lw_p0, List.forall_mem_cons.mpr ⟨lw_p1, List.forall_mem_cons.mpr ⟨lw_p2, List.forall_mem_cons.mpr ⟨lw_p3, List.forall_mem_cons.mpr ⟨lw_p4, List.forall_mem_cons.mpr ⟨lw_p5, List.forall_mem_cons.mpr ⟨lw_p6, List.forall_mem_cons.mpr ⟨lw_p7, List.forall_mem_cons.mpr ⟨lw_p8, List.forall_mem_cons.mpr ⟨lw_p9, List.forall_mem_cons.mpr ⟨lw_p10, List.forall_mem_cons.mpr ⟨lw_p11, List.forall_mem_cons.mpr ⟨lw_p12, List.forall_mem_cons.mpr ⟨lw_p13, List.forall_mem_cons.mpr ⟨lw_p14, List.forall_mem_cons.mpr ⟨lw_p15, fun _ h => absurd h List.not_mem_nil⟩⟩⟩⟩⟩⟩⟩⟩⟩⟩⟩⟩⟩⟩⟩⟩
theorem lw_p16 : lw_okq (⟨"RoaringIndexModel", "containerOf", "(II)I"⟩, 16) := ⟨⟨by decide +kernel, by decide +kernel⟩, List.mem_of_getElem? (i := 649) (by decide +kernel), List.mem_of_getElem? (i := 717) (by decide +kernel), List.mem_of_getElem? (i := 718) (by decide +kernel)⟩
theorem lw_p17 : lw_okq (⟨"RoaringIndexModel", "hasLow", "(II)Z"⟩, 16) := ⟨⟨by decide +kernel, by decide +kernel⟩, List.mem_of_getElem? (i := 649) (by decide +kernel), List.mem_of_getElem? (i := 722) (by decide +kernel), List.mem_of_getElem? (i := 723) (by decide +kernel)⟩
theorem lw_p18 : lw_okq (⟨"RoaringIndexModel", "made", "(II)I"⟩, 16) := ⟨⟨by decide +kernel, by decide +kernel⟩, List.mem_of_getElem? (i := 649) (by decide +kernel), List.mem_of_getElem? (i := 726) (by decide +kernel), List.mem_of_getElem? (i := 727) (by decide +kernel)⟩
theorem lw_p19 : lw_okq (⟨"RoaringIndexModel", "copy", "(II)V"⟩, 16) := ⟨⟨by decide +kernel, by decide +kernel⟩, List.mem_of_getElem? (i := 649) (by decide +kernel), List.mem_of_getElem? (i := 730) (by decide +kernel), List.mem_of_getElem? (i := 731) (by decide +kernel)⟩
theorem lw_p20 : lw_okq (⟨"RoaringIndexModel", "turn", "(II)V"⟩, 16) := ⟨⟨by decide +kernel, by decide +kernel⟩, List.mem_of_getElem? (i := 649) (by decide +kernel), List.mem_of_getElem? (i := 734) (by decide +kernel), List.mem_of_getElem? (i := 735) (by decide +kernel)⟩
theorem lw_p21 : lw_okq (⟨"RoaringIndexModel", "changed", "(II)V"⟩, 16) := ⟨⟨by decide +kernel, by decide +kernel⟩, List.mem_of_getElem? (i := 649) (by decide +kernel), List.mem_of_getElem? (i := 738) (by decide +kernel), List.mem_of_getElem? (i := 739) (by decide +kernel)⟩
theorem lw_p22 : lw_okq (⟨"RoaringIndexModel", "plainKind", "(I)I"⟩, 16) := ⟨⟨by decide +kernel, by decide +kernel⟩, List.mem_of_getElem? (i := 649) (by decide +kernel), List.mem_of_getElem? (i := 742) (by decide +kernel), List.mem_of_getElem? (i := 743) (by decide +kernel)⟩
theorem lw_p23 : lw_okq (⟨"RoaringIndexModel", "sweep", "(IIIIII)I"⟩, 16) := ⟨⟨by decide +kernel, by decide +kernel⟩, List.mem_of_getElem? (i := 649) (by decide +kernel), List.mem_of_getElem? (i := 759) (by decide +kernel), List.mem_of_getElem? (i := 760) (by decide +kernel)⟩
theorem lw_p24 : lw_okq (⟨"RoaringIndexModel", "all", "(I)I"⟩, 16) := ⟨⟨by decide +kernel, by decide +kernel⟩, List.mem_of_getElem? (i := 649) (by decide +kernel), List.mem_of_getElem? (i := 763) (by decide +kernel), List.mem_of_getElem? (i := 764) (by decide +kernel)⟩
theorem lw_p25 : lw_okq (⟨"RoaringIndexModel", "make", "(III)Z"⟩, 16) := ⟨⟨by decide +kernel, by decide +kernel⟩, List.mem_of_getElem? (i := 649) (by decide +kernel), List.mem_of_getElem? (i := 780) (by decide +kernel), List.mem_of_getElem? (i := 781) (by decide +kernel)⟩
theorem lw_p26 : lw_okq (⟨"RoaringIndexModel", "makeOne", "(IIII)Z"⟩, 16) := ⟨⟨by decide +kernel, by decide +kernel⟩, List.mem_of_getElem? (i := 649) (by decide +kernel), List.mem_of_getElem? (i := 785) (by decide +kernel), List.mem_of_getElem? (i := 786) (by decide +kernel)⟩
theorem lw_p27 : lw_okq (⟨"RoaringIndexModel", "isLike", "(II)Z"⟩, 16) := ⟨⟨by decide +kernel, by decide +kernel⟩, List.mem_of_getElem? (i := 649) (by decide +kernel), List.mem_of_getElem? (i := 796) (by decide +kernel), List.mem_of_getElem? (i := 797) (by decide +kernel)⟩
theorem lw_p28 : lw_okq (⟨"RoaringIndexModel", "copySet", "(II)V"⟩, 16) := ⟨⟨by decide +kernel, by decide +kernel⟩, List.mem_of_getElem? (i := 649) (by decide +kernel), List.mem_of_getElem? (i := 800) (by decide +kernel), List.mem_of_getElem? (i := 801) (by decide +kernel)⟩
theorem lw_p29 : lw_okq (⟨"RoaringIndexModel", "runsOf", "(I)I"⟩, 16) := ⟨⟨by decide +kernel, by decide +kernel⟩, List.mem_of_getElem? (i := 649) (by decide +kernel), List.mem_of_getElem? (i := 808) (by decide +kernel), List.mem_of_getElem? (i := 809) (by decide +kernel)⟩
theorem lw_p30 : lw_okq (⟨"RoaringIndexModel", "layAll", "(I)V"⟩, 16) := ⟨⟨by decide +kernel, by decide +kernel⟩, List.mem_of_getElem? (i := 649) (by decide +kernel), List.mem_of_getElem? (i := 823) (by decide +kernel), List.mem_of_getElem? (i := 824) (by decide +kernel)⟩
theorem lw_p31 : lw_okq (⟨"RoaringIndexModel", "numberOf", "(II)J"⟩, 16) := ⟨⟨by decide +kernel, by decide +kernel⟩, List.mem_of_getElem? (i := 649) (by decide +kernel), List.mem_of_getElem? (i := 840) (by decide +kernel), List.mem_of_getElem? (i := 841) (by decide +kernel)⟩
def lw_privs_2 : List (MethodName × Nat) := [(⟨"RoaringIndexModel", "containerOf", "(II)I"⟩, 16), (⟨"RoaringIndexModel", "hasLow", "(II)Z"⟩, 16), (⟨"RoaringIndexModel", "made", "(II)I"⟩, 16), (⟨"RoaringIndexModel", "copy", "(II)V"⟩, 16), (⟨"RoaringIndexModel", "turn", "(II)V"⟩, 16), (⟨"RoaringIndexModel", "changed", "(II)V"⟩, 16), (⟨"RoaringIndexModel", "plainKind", "(I)I"⟩, 16), (⟨"RoaringIndexModel", "sweep", "(IIIIII)I"⟩, 16), (⟨"RoaringIndexModel", "all", "(I)I"⟩, 16), (⟨"RoaringIndexModel", "make", "(III)Z"⟩, 16), (⟨"RoaringIndexModel", "makeOne", "(IIII)Z"⟩, 16), (⟨"RoaringIndexModel", "isLike", "(II)Z"⟩, 16), (⟨"RoaringIndexModel", "copySet", "(II)V"⟩, 16), (⟨"RoaringIndexModel", "runsOf", "(I)I"⟩, 16), (⟨"RoaringIndexModel", "layAll", "(I)V"⟩, 16), (⟨"RoaringIndexModel", "numberOf", "(II)J"⟩, 16)]
theorem lw_r2 : ∀ q ∈ lw_privs_2, lw_okq q := List.forall_mem_cons.mpr ⟨lw_p16, List.forall_mem_cons.mpr ⟨lw_p17, List.forall_mem_cons.mpr ⟨lw_p18, List.forall_mem_cons.mpr ⟨lw_p19, List.forall_mem_cons.mpr ⟨lw_p20, List.forall_mem_cons.mpr ⟨lw_p21, List.forall_mem_cons.mpr ⟨lw_p22, List.forall_mem_cons.mpr ⟨lw_p23, List.forall_mem_cons.mpr ⟨lw_p24, List.forall_mem_cons.mpr ⟨lw_p25, List.forall_mem_cons.mpr ⟨lw_p26, List.forall_mem_cons.mpr ⟨lw_p27, List.forall_mem_cons.mpr ⟨lw_p28, List.forall_mem_cons.mpr ⟨lw_p29, List.forall_mem_cons.mpr ⟨lw_p30, List.forall_mem_cons.mpr ⟨lw_p31, fun _ h => absurd h List.not_mem_nil⟩⟩⟩⟩⟩⟩⟩⟩⟩⟩⟩⟩⟩⟩⟩⟩
theorem lw_p32 : lw_okq (⟨"RoaringIndexModel", "both", "(II)I"⟩, 16) := ⟨⟨by decide +kernel, by decide +kernel⟩, List.mem_of_getElem? (i := 649) (by decide +kernel), List.mem_of_getElem? (i := 862) (by decide +kernel), List.mem_of_getElem? (i := 863) (by decide +kernel)⟩
theorem lw_p33 : lw_okq (⟨"RoaringIndexModel", "headOf", "(I)I"⟩, 16) := ⟨⟨by decide +kernel, by decide +kernel⟩, List.mem_of_getElem? (i := 649) (by decide +kernel), List.mem_of_getElem? (i := 870) (by decide +kernel), List.mem_of_getElem? (i := 871) (by decide +kernel)⟩
theorem lw_p34 : lw_okq (⟨"RoaringIndexModel", "hasRuns", "(I)Z"⟩, 16) := ⟨⟨by decide +kernel, by decide +kernel⟩, List.mem_of_getElem? (i := 649) (by decide +kernel), List.mem_of_getElem? (i := 874) (by decide +kernel), List.mem_of_getElem? (i := 875) (by decide +kernel)⟩
theorem lw_p35 : lw_okq (⟨"RoaringIndexModel", "lengthOf", "(I)I"⟩, 16) := ⟨⟨by decide +kernel, by decide +kernel⟩, List.mem_of_getElem? (i := 649) (by decide +kernel), List.mem_of_getElem? (i := 879) (by decide +kernel), List.mem_of_getElem? (i := 880) (by decide +kernel)⟩
theorem lw_p36 : lw_okq (⟨"RoaringIndexModel", "put", "(II)V"⟩, 16) := ⟨⟨by decide +kernel, by decide +kernel⟩, List.mem_of_getElem? (i := 649) (by decide +kernel), List.mem_of_getElem? (i := 883) (by decide +kernel), List.mem_of_getElem? (i := 884) (by decide +kernel)⟩
theorem lw_p37 : lw_okq (⟨"RoaringIndexModel", "writeOne", "(I)V"⟩, 16) := ⟨⟨by decide +kernel, by decide +kernel⟩, List.mem_of_getElem? (i := 649) (by decide +kernel), List.mem_of_getElem? (i := 887) (by decide +kernel), List.mem_of_getElem? (i := 888) (by decide +kernel)⟩
theorem lw_p38 : lw_okq (⟨"RoaringIndexModel", "readsAll", "()Z"⟩, 16) := ⟨⟨by decide +kernel, by decide +kernel⟩, List.mem_of_getElem? (i := 649) (by decide +kernel), List.mem_of_getElem? (i := 895) (by decide +kernel), List.mem_of_getElem? (i := 896) (by decide +kernel)⟩
theorem lw_p39 : lw_okq (⟨"RoaringIndexModel", "readsHead", "()Z"⟩, 16) := ⟨⟨by decide +kernel, by decide +kernel⟩, List.mem_of_getElem? (i := 649) (by decide +kernel), List.mem_of_getElem? (i := 899) (by decide +kernel), List.mem_of_getElem? (i := 900) (by decide +kernel)⟩
theorem lw_p40 : lw_okq (⟨"RoaringIndexModel", "are", "(I)Z"⟩, 16) := ⟨⟨by decide +kernel, by decide +kernel⟩, List.mem_of_getElem? (i := 649) (by decide +kernel), List.mem_of_getElem? (i := 903) (by decide +kernel), List.mem_of_getElem? (i := 904) (by decide +kernel)⟩
theorem lw_p41 : lw_okq (⟨"RoaringIndexModel", "fails", "(II)Z"⟩, 16) := ⟨⟨by decide +kernel, by decide +kernel⟩, List.mem_of_getElem? (i := 649) (by decide +kernel), List.mem_of_getElem? (i := 907) (by decide +kernel), List.mem_of_getElem? (i := 908) (by decide +kernel)⟩
theorem lw_p42 : lw_okq (⟨"RoaringIndexModel", "taken", "(I)J"⟩, 16) := ⟨⟨by decide +kernel, by decide +kernel⟩, List.mem_of_getElem? (i := 649) (by decide +kernel), List.mem_of_getElem? (i := 911) (by decide +kernel), List.mem_of_getElem? (i := 912) (by decide +kernel)⟩
theorem lw_p43 : lw_okq (⟨"RoaringIndexModel", "readsKeys", "(I)Z"⟩, 16) := ⟨⟨by decide +kernel, by decide +kernel⟩, List.mem_of_getElem? (i := 649) (by decide +kernel), List.mem_of_getElem? (i := 918) (by decide +kernel), List.mem_of_getElem? (i := 919) (by decide +kernel)⟩
theorem lw_p44 : lw_okq (⟨"RoaringIndexModel", "readsPlaces", "(IZ)Z"⟩, 16) := ⟨⟨by decide +kernel, by decide +kernel⟩, List.mem_of_getElem? (i := 649) (by decide +kernel), List.mem_of_getElem? (i := 922) (by decide +kernel), List.mem_of_getElem? (i := 923) (by decide +kernel)⟩
theorem lw_p45 : lw_okq (⟨"RoaringIndexModel", "readsRuns", "(II)Z"⟩, 16) := ⟨⟨by decide +kernel, by decide +kernel⟩, List.mem_of_getElem? (i := 649) (by decide +kernel), List.mem_of_getElem? (i := 926) (by decide +kernel), List.mem_of_getElem? (i := 927) (by decide +kernel)⟩
theorem lw_p46 : lw_okq (⟨"RoaringIndexModel", "readsArray", "(II)Z"⟩, 16) := ⟨⟨by decide +kernel, by decide +kernel⟩, List.mem_of_getElem? (i := 649) (by decide +kernel), List.mem_of_getElem? (i := 930) (by decide +kernel), List.mem_of_getElem? (i := 931) (by decide +kernel)⟩
theorem lw_p47 : lw_okq (⟨"RoaringIndexModel", "readsBitmap", "(II)Z"⟩, 16) := ⟨⟨by decide +kernel, by decide +kernel⟩, List.mem_of_getElem? (i := 649) (by decide +kernel), List.mem_of_getElem? (i := 934) (by decide +kernel), List.mem_of_getElem? (i := 935) (by decide +kernel)⟩
def lw_privs_3 : List (MethodName × Nat) := [(⟨"RoaringIndexModel", "both", "(II)I"⟩, 16), (⟨"RoaringIndexModel", "headOf", "(I)I"⟩, 16), (⟨"RoaringIndexModel", "hasRuns", "(I)Z"⟩, 16), (⟨"RoaringIndexModel", "lengthOf", "(I)I"⟩, 16), (⟨"RoaringIndexModel", "put", "(II)V"⟩, 16), (⟨"RoaringIndexModel", "writeOne", "(I)V"⟩, 16), (⟨"RoaringIndexModel", "readsAll", "()Z"⟩, 16), (⟨"RoaringIndexModel", "readsHead", "()Z"⟩, 16), (⟨"RoaringIndexModel", "are", "(I)Z"⟩, 16), (⟨"RoaringIndexModel", "fails", "(II)Z"⟩, 16), (⟨"RoaringIndexModel", "taken", "(I)J"⟩, 16), (⟨"RoaringIndexModel", "readsKeys", "(I)Z"⟩, 16), (⟨"RoaringIndexModel", "readsPlaces", "(IZ)Z"⟩, 16), (⟨"RoaringIndexModel", "readsRuns", "(II)Z"⟩, 16), (⟨"RoaringIndexModel", "readsArray", "(II)Z"⟩, 16), (⟨"RoaringIndexModel", "readsBitmap", "(II)Z"⟩, 16)]
theorem lw_r3 : ∀ q ∈ lw_privs_3, lw_okq q := List.forall_mem_cons.mpr ⟨lw_p32, List.forall_mem_cons.mpr ⟨lw_p33, List.forall_mem_cons.mpr ⟨lw_p34, List.forall_mem_cons.mpr ⟨lw_p35, List.forall_mem_cons.mpr ⟨lw_p36, List.forall_mem_cons.mpr ⟨lw_p37, List.forall_mem_cons.mpr ⟨lw_p38, List.forall_mem_cons.mpr ⟨lw_p39, List.forall_mem_cons.mpr ⟨lw_p40, List.forall_mem_cons.mpr ⟨lw_p41, List.forall_mem_cons.mpr ⟨lw_p42, List.forall_mem_cons.mpr ⟨lw_p43, List.forall_mem_cons.mpr ⟨lw_p44, List.forall_mem_cons.mpr ⟨lw_p45, List.forall_mem_cons.mpr ⟨lw_p46, List.forall_mem_cons.mpr ⟨lw_p47, fun _ h => absurd h List.not_mem_nil⟩⟩⟩⟩⟩⟩⟩⟩⟩⟩⟩⟩⟩⟩⟩⟩
def lw_privs : List (MethodName × Nat) := lw_privs_1 ++ (lw_privs_2 ++ (lw_privs_3))
def lw_tbl : List Cond := k2_sels lw_privs ++ tables_1
theorem lw_privs_ok : ∀ q ∈ lw_privs, lw_okq q := by
  show ∀ q ∈ lw_privs_1 ++ (lw_privs_2 ++ (lw_privs_3)), lw_okq q
  exact List.forall_mem_append.mpr ⟨lw_r1, List.forall_mem_append.mpr ⟨lw_r2, lw_r3⟩⟩
-- ===== end of PART A; then your names; then what follows =====
end
section
/-! ===== BEGIN words of one list among another's, by their places ===== -/
theorem goodIn_r {big : List Cond} (ws : List Cond) (ps : List Nat) (hp : ws = ps.filterMap (fun i => big[i]?)) (h : ws.all goodWord = true) : GoodIn big ws := by
  intro w hw
  have h1 := List.all_eq_true.mp h w hw
  rw [hp] at hw
  obtain ⟨i, -, hi⟩ := List.mem_filterMap.mp hw
  have hm : w ∈ big := by first | exact List.mem_of_getElem? hi | exact List.getElem?_mem hi
  exact ⟨hm, good_of_word h1⟩
theorem goodIn_app {big a b : List Cond} (ha : GoodIn big a) (hb : GoodIn big b) : GoodIn big (a ++ b) := fun w h => (List.mem_append.mp h).elim (ha w) (hb w)
theorem goodIn_ca {big a b : List Cond} {c : Cond} (ha : GoodIn big (c :: a)) (hb : GoodIn big b) : GoodIn big (c :: (a ++ b)) := fun w h => (List.mem_cons.mp h).elim (fun e => ha w (List.mem_cons.mpr (Or.inl e))) (fun h => (List.mem_append.mp h).elim (fun h => ha w (List.mem_cons.mpr (Or.inr h))) (hb w))
theorem goodIn_sub {big ws : List Cond} (hm : ∀ w ∈ ws, w ∈ big) (h : ws.all goodWord = true) : GoodIn big ws := fun w hw => ⟨hm w hw, good_of_word (List.all_eq_true.mp h w hw)⟩
/-! ===== END ===== -/

/-! ===== BEGIN printed: names, fields, word lists, decode rows ===== -/
def RX0 : String := "RoaringIndex$ByteRow"
def TX0 : u_T := fun k => match k with
  | 0 => ("RoaringIndex$ByteRow", "held", "[B", false)
  | _ => ("RoaringIndex$ByteRow", "used", "I", false)
def tyX0 : Nat → FieldType := fun k => match k with
  | 0 => .array .byte
  | _ => .int
abbrev wsX00 : List Cond := u_ws RX0 TX0 2
theorem nmX0 : ∀ a, a < 2 → ∀ b, b < 2 → a ≠ b → (TX0 a).2.1 ≠ (TX0 b).2.1 := by decide +kernel
theorem tyX0_ok : ∀ k, k < 2 → parseFieldDescriptor (TX0 k).2.2.1 = some (tyX0 k) := by decide +kernel
abbrev cX0_init : ByteArray := prog_2_method_1_code
def yX0_init : MethodName := ⟨RX0, "<init>", "()V"⟩
abbrev cX0_lacks : ByteArray := prog_2_method_2_code
def yX0_lacks : MethodName := ⟨RX0, "lacks", "(I)Z"⟩
abbrev cX0_byteAt : ByteArray := prog_2_method_3_code
def yX0_byteAt : MethodName := ⟨RX0, "byteAt", "(I)I"⟩
abbrev cX0_put : ByteArray := prog_2_method_4_code
def yX0_put : MethodName := ⟨RX0, "put", "(JI)V"⟩
abbrev cX0_numberAt : ByteArray := prog_2_method_5_code
def yX0_numberAt : MethodName := ⟨RX0, "numberAt", "(II)J"⟩
def RX1 : String := "RoaringIndex$Container"
def TX1 : u_T := fun k => match k with
  | 0 => ("RoaringIndex$Container", "key", "I", false)
  | 1 => ("RoaringIndex$Container", "kind", "I", false)
  | 2 => ("RoaringIndex$Container", "total", "I", false)
  | _ => ("RoaringIndex$Container", "words", "[J", false)
def tyX1 : Nat → FieldType := fun k => match k with
  | 0 => .int
  | 1 => .int
  | 2 => .int
  | _ => .array .long
abbrev wsX10 : List Cond := u_ws RX1 TX1 4
theorem nmX1 : ∀ a, a < 4 → ∀ b, b < 4 → a ≠ b → (TX1 a).2.1 ≠ (TX1 b).2.1 := by decide +kernel
theorem tyX1_ok : ∀ k, k < 4 → parseFieldDescriptor (TX1 k).2.2.1 = some (tyX1 k) := by decide +kernel
abbrev cX1_init : ByteArray := prog_3_method_1_code
def yX1_init : MethodName := ⟨RX1, "<init>", "()V"⟩
abbrev cX1_makeRoom : ByteArray := prog_3_method_2_code
def yX1_makeRoom : MethodName := ⟨RX1, "makeRoom", "()V"⟩
abbrev cX1_begin : ByteArray := prog_3_method_3_code
def yX1_begin : MethodName := ⟨RX1, "begin", "(I)V"⟩
abbrev cX1_copyLowsOf : ByteArray := prog_3_method_4_code
def yX1_copyLowsOf : MethodName := ⟨RX1, "copyLowsOf", "(LRoaringIndex$Container;)V"⟩
abbrev cX1_setPlainKind : ByteArray := prog_3_method_5_code
def yX1_setPlainKind : MethodName := ⟨RX1, "setPlainKind", "()V"⟩
abbrev cX1_setSmallestKind : ByteArray := prog_3_method_6_code
def yX1_setSmallestKind : MethodName := ⟨RX1, "setSmallestKind", "()V"⟩
abbrev cX1_holds : ByteArray := prog_3_method_7_code
def yX1_holds : MethodName := ⟨RX1, "holds", "(I)Z"⟩
abbrev cX1_changeLows : ByteArray := prog_3_method_8_code
def yX1_changeLows : MethodName := ⟨RX1, "changeLows", "(III)Z"⟩
abbrev cX1_putLowsBySteps : ByteArray := prog_3_method_9_code
def yX1_putLowsBySteps : MethodName := ⟨RX1, "putLowsBySteps", "(II)Z"⟩
abbrev cX1_becomeMix : ByteArray := prog_3_method_10_code
def yX1_becomeMix : MethodName := ⟨RX1, "becomeMix", "(ILRoaringIndex$Container;LRoaringIndex$Container;)V"⟩
abbrev cX1_hasLowsOf : ByteArray := prog_3_method_11_code
def yX1_hasLowsOf : MethodName := ⟨RX1, "hasLowsOf", "(LRoaringIndex$Container;)Z"⟩
abbrev cX1_hasNoLowBut : ByteArray := prog_3_method_12_code
def yX1_hasNoLowBut : MethodName := ⟨RX1, "hasNoLowBut", "(LRoaringIndex$Container;)Z"⟩
abbrev cX1_hasLowIn : ByteArray := prog_3_method_13_code
def yX1_hasLowIn : MethodName := ⟨RX1, "hasLowIn", "(LRoaringIndex$Container;)Z"⟩
abbrev cX1_totalRuns : ByteArray := prog_3_method_14_code
def yX1_totalRuns : MethodName := ⟨RX1, "totalRuns", "()I"⟩
abbrev cX1_lowsUpTo : ByteArray := prog_3_method_15_code
def yX1_lowsUpTo : MethodName := ⟨RX1, "lowsUpTo", "(I)I"⟩
abbrev cX1_lowAt : ByteArray := prog_3_method_16_code
def yX1_lowAt : MethodName := ⟨RX1, "lowAt", "(I)I"⟩
abbrev cX1_firstIn : ByteArray := prog_3_method_17_code
def yX1_firstIn : MethodName := ⟨RX1, "firstIn", "(I)I"⟩
abbrev cX1_firstOut : ByteArray := prog_3_method_18_code
def yX1_firstOut : MethodName := ⟨RX1, "firstOut", "(I)I"⟩
abbrev cX1_firstBit : ByteArray := prog_3_method_19_code
def yX1_firstBit : MethodName := ⟨RX1, "firstBit", "(IJ)I"⟩
abbrev cX1_digestFrom : ByteArray := prog_3_method_20_code
def yX1_digestFrom : MethodName := ⟨RX1, "digestFrom", "(J)J"⟩
abbrev cX1_mix : ByteArray := prog_3_method_21_code
def yX1_mix : MethodName := ⟨RX1, "mix", "(IJJ)J"⟩
abbrev cX1_upTo : ByteArray := prog_3_method_22_code
def yX1_upTo : MethodName := ⟨RX1, "upTo", "(I)J"⟩
def RX2 : String := "RoaringIndex$NumberSet"
def TX2 : u_T := fun k => match k with
  | 0 => ("RoaringIndex$NumberSet", "items", "[LRoaringIndex$Container;", false)
  | _ => ("RoaringIndex$NumberSet", "used", "I", false)
def tyX2 : Nat → FieldType := fun k => match k with
  | 0 => .array (.object "RoaringIndex$Container")
  | _ => .int
abbrev wsX20 : List Cond := u_ws RX2 TX2 2
theorem nmX2 : ∀ a, a < 2 → ∀ b, b < 2 → a ≠ b → (TX2 a).2.1 ≠ (TX2 b).2.1 := by decide +kernel
theorem tyX2_ok : ∀ k, k < 2 → parseFieldDescriptor (TX2 k).2.2.1 = some (tyX2 k) := by decide +kernel
abbrev cX2_init : ByteArray := prog_4_method_1_code
def yX2_init : MethodName := ⟨RX2, "<init>", "()V"⟩
abbrev cX2_exchange : ByteArray := prog_4_method_2_code
def yX2_exchange : MethodName := ⟨RX2, "exchange", "(LRoaringIndex$NumberSet;)V"⟩
abbrev cX2_copyFrom : ByteArray := prog_4_method_3_code
def yX2_copyFrom : MethodName := ⟨RX2, "copyFrom", "(LRoaringIndex$NumberSet;)V"⟩
abbrev cX2_keyAt : ByteArray := prog_4_method_4_code
def yX2_keyAt : MethodName := ⟨RX2, "keyAt", "(I)I"⟩
abbrev cX2_indexOf : ByteArray := prog_4_method_5_code
def yX2_indexOf : MethodName := ⟨RX2, "indexOf", "(I)I"⟩
abbrev cX2_find : ByteArray := prog_4_method_6_code
def yX2_find : MethodName := ⟨RX2, "find", "(I)LRoaringIndex$Container;"⟩
abbrev cX2_findOrMake : ByteArray := prog_4_method_7_code
def yX2_findOrMake : MethodName := ⟨RX2, "findOrMake", "(I)LRoaringIndex$Container;"⟩
abbrev cX2_leaveOut : ByteArray := prog_4_method_8_code
def yX2_leaveOut : MethodName := ⟨RX2, "leaveOut", "(I)V"⟩
abbrev cX2_changeSpan : ByteArray := prog_4_method_9_code
def yX2_changeSpan : MethodName := ⟨RX2, "changeSpan", "(IIII)I"⟩
abbrev cX2_putSteps : ByteArray := prog_4_method_10_code
def yX2_putSteps : MethodName := ⟨RX2, "putSteps", "(III)I"⟩
abbrev cX2_settle : ByteArray := prog_4_method_11_code
def yX2_settle : MethodName := ⟨RX2, "settle", "(LRoaringIndex$Container;Z)I"⟩
abbrev cX2_becomeJoin : ByteArray := prog_4_method_12_code
def yX2_becomeJoin : MethodName := ⟨RX2, "becomeJoin", "(ILRoaringIndex$NumberSet;LRoaringIndex$NumberSet;)Z"⟩
abbrev cX2_becomeAll : ByteArray := prog_4_method_13_code
def yX2_becomeAll : MethodName := ⟨RX2, "becomeAll", "()V"⟩
abbrev cX2_shrinkAll : ByteArray := prog_4_method_14_code
def yX2_shrinkAll : MethodName := ⟨RX2, "shrinkAll", "()V"⟩
abbrev cX2_total : ByteArray := prog_4_method_15_code
def yX2_total : MethodName := ⟨RX2, "total", "()I"⟩
abbrev cX2_totalOfKind : ByteArray := prog_4_method_16_code
def yX2_totalOfKind : MethodName := ⟨RX2, "totalOfKind", "(I)I"⟩
abbrev cX2_totalUpTo : ByteArray := prog_4_method_17_code
def yX2_totalUpTo : MethodName := ⟨RX2, "totalUpTo", "(II)I"⟩
abbrev cX2_numberAt : ByteArray := prog_4_method_18_code
def yX2_numberAt : MethodName := ⟨RX2, "numberAt", "(I)J"⟩
abbrev cX2_firstFrom : ByteArray := prog_4_method_19_code
def yX2_firstFrom : MethodName := ⟨RX2, "firstFrom", "(II)J"⟩
abbrev cX2_isInside : ByteArray := prog_4_method_20_code
def yX2_isInside : MethodName := ⟨RX2, "isInside", "(LRoaringIndex$NumberSet;)Z"⟩
abbrev cX2_meets : ByteArray := prog_4_method_21_code
def yX2_meets : MethodName := ⟨RX2, "meets", "(LRoaringIndex$NumberSet;)Z"⟩
abbrev cX2_digestSetFrom : ByteArray := prog_4_method_22_code
def yX2_digestSetFrom : MethodName := ⟨RX2, "digestSetFrom", "(J)J"⟩
abbrev cX2_numberOf : ByteArray := prog_4_method_23_code
def yX2_numberOf : MethodName := ⟨RX2, "numberOf", "(II)J"⟩
def RX3 : String := "RoaringIndex$Pile"
def TX3 : u_T := fun k => match k with
  | 0 => ("RoaringIndex$Pile", "levels", "[LRoaringIndex$NumberSet;", true)
  | _ => ("RoaringIndex$Pile", "depth", "I", false)
def tyX3 : Nat → FieldType := fun k => match k with
  | 0 => .array (.object "RoaringIndex$NumberSet")
  | _ => .int
abbrev wsX30 : List Cond := u_ws RX3 TX3 2
theorem nmX3 : ∀ a, a < 2 → ∀ b, b < 2 → a ≠ b → (TX3 a).2.1 ≠ (TX3 b).2.1 := by decide +kernel
theorem tyX3_ok : ∀ k, k < 2 → parseFieldDescriptor (TX3 k).2.2.1 = some (tyX3 k) := by decide +kernel
abbrev cX3_init : ByteArray := prog_5_method_1_code
def yX3_init : MethodName := ⟨RX3, "<init>", "()V"⟩
abbrev cX3_isSound : ByteArray := prog_5_method_2_code
def yX3_isSound : MethodName := ⟨RX3, "isSound", "(JI)Z"⟩
abbrev cX3_evaluate : ByteArray := prog_5_method_3_code
def yX3_evaluate : MethodName := ⟨RX3, "evaluate", "(JI[LRoaringIndex$NumberSet;LRoaringIndex$NumberSet;)Z"⟩
abbrev cX3_joinUpperTwo : ByteArray := prog_5_method_4_code
def yX3_joinUpperTwo : MethodName := ⟨RX3, "joinUpperTwo", "(ILRoaringIndex$NumberSet;)Z"⟩
abbrev cX3_signAt : ByteArray := prog_5_method_5_code
def yX3_signAt : MethodName := ⟨RX3, "signAt", "(JI)I"⟩
abbrev cX3_isJoin : ByteArray := prog_5_method_6_code
def yX3_isJoin : MethodName := ⟨RX3, "isJoin", "(I)Z"⟩
def RX4 : String := "RoaringIndex$Reader"
def TX4 : u_T := fun k => match k with
  | 0 => ("RoaringIndex$Reader", "faultNumber", "I", false)
  | 1 => ("RoaringIndex$Reader", "faultPlace", "I", false)
  | 2 => ("RoaringIndex$Reader", "place", "I", false)
  | 3 => ("RoaringIndex$Reader", "end", "I", false)
  | 4 => ("RoaringIndex$Reader", "n", "I", false)
  | 5 => ("RoaringIndex$Reader", "plainMark", "Z", false)
  | 6 => ("RoaringIndex$Reader", "runBits", "I", false)
  | 7 => ("RoaringIndex$Reader", "placesFrom", "I", false)
  | 8 => ("RoaringIndex$Reader", "keys", "[I", true)
  | _ => ("RoaringIndex$Reader", "totals", "[I", true)
def tyX4 : Nat → FieldType := fun k => match k with
  | 0 => .int
  | 1 => .int
  | 2 => .int
  | 3 => .int
  | 4 => .int
  | 5 => .boolean
  | 6 => .int
  | 7 => .int
  | 8 => .array .int
  | _ => .array .int
abbrev wsX40 : List Cond := u_ws RX4 TX4 10
theorem nmX4 : ∀ a, a < 10 → ∀ b, b < 10 → a ≠ b → (TX4 a).2.1 ≠ (TX4 b).2.1 := by decide +kernel
theorem tyX4_ok : ∀ k, k < 10 → parseFieldDescriptor (TX4 k).2.2.1 = some (tyX4 k) := by decide +kernel
abbrev cX4_init : ByteArray := prog_6_method_1_code
def yX4_init : MethodName := ⟨RX4, "<init>", "()V"⟩
abbrev cX4_takeSet : ByteArray := prog_6_method_2_code
def yX4_takeSet : MethodName := ⟨RX4, "takeSet", "(LRoaringIndex$ByteRow;LRoaringIndex$NumberSet;)Z"⟩
abbrev cX4_tellFault : ByteArray := prog_6_method_3_code
def yX4_tellFault : MethodName := ⟨RX4, "tellFault", "(II)Z"⟩
abbrev cX4_isThere : ByteArray := prog_6_method_4_code
def yX4_isThere : MethodName := ⟨RX4, "isThere", "(I)Z"⟩
abbrev cX4_take : ByteArray := prog_6_method_5_code
def yX4_take : MethodName := ⟨RX4, "take", "(LRoaringIndex$ByteRow;I)J"⟩
abbrev cX4_takeMark : ByteArray := prog_6_method_6_code
def yX4_takeMark : MethodName := ⟨RX4, "takeMark", "(LRoaringIndex$ByteRow;)Z"⟩
abbrev cX4_takePlainTotal : ByteArray := prog_6_method_7_code
def yX4_takePlainTotal : MethodName := ⟨RX4, "takePlainTotal", "(LRoaringIndex$ByteRow;)Z"⟩
abbrev cX4_takeRunBits : ByteArray := prog_6_method_8_code
def yX4_takeRunBits : MethodName := ⟨RX4, "takeRunBits", "(LRoaringIndex$ByteRow;I)Z"⟩
abbrev cX4_takeHeads : ByteArray := prog_6_method_9_code
def yX4_takeHeads : MethodName := ⟨RX4, "takeHeads", "(LRoaringIndex$ByteRow;)Z"⟩
abbrev cX4_takePlaces : ByteArray := prog_6_method_10_code
def yX4_takePlaces : MethodName := ⟨RX4, "takePlaces", "()Z"⟩
abbrev cX4_takeContainer : ByteArray := prog_6_method_11_code
def yX4_takeContainer : MethodName := ⟨RX4, "takeContainer", "(LRoaringIndex$ByteRow;LRoaringIndex$NumberSet;I)Z"⟩
abbrev cX4_takeArray : ByteArray := prog_6_method_12_code
def yX4_takeArray : MethodName := ⟨RX4, "takeArray", "(LRoaringIndex$ByteRow;LRoaringIndex$Container;I)Z"⟩
abbrev cX4_takeBitmap : ByteArray := prog_6_method_13_code
def yX4_takeBitmap : MethodName := ⟨RX4, "takeBitmap", "(LRoaringIndex$ByteRow;LRoaringIndex$Container;I)Z"⟩
abbrev cX4_takeRuns : ByteArray := prog_6_method_14_code
def yX4_takeRuns : MethodName := ⟨RX4, "takeRuns", "(LRoaringIndex$ByteRow;LRoaringIndex$Container;I)Z"⟩
def RX5 : String := "RoaringIndex$Writer"
def TX5 : u_T := fun k => match k with
  | _ => ("", "", "", false)
def tyX5 : Nat → FieldType := fun k => match k with
  | _ => .int
abbrev wsX50 : List Cond := u_ws RX5 TX5 0
theorem nmX5 : ∀ a, a < 0 → ∀ b, b < 0 → a ≠ b → (TX5 a).2.1 ≠ (TX5 b).2.1 := by decide +kernel
theorem tyX5_ok : ∀ k, k < 0 → parseFieldDescriptor (TX5 k).2.2.1 = some (tyX5 k) := by decide +kernel
abbrev cX5_bytesOf : ByteArray := prog_7_method_2_code
def yX5_bytesOf : MethodName := ⟨RX5, "bytesOf", "(LRoaringIndex$NumberSet;)I"⟩
abbrev cX5_putSet : ByteArray := prog_7_method_3_code
def yX5_putSet : MethodName := ⟨RX5, "putSet", "(LRoaringIndex$NumberSet;LRoaringIndex$ByteRow;)V"⟩
abbrev cX5_hasRuns : ByteArray := prog_7_method_4_code
def yX5_hasRuns : MethodName := ⟨RX5, "hasRuns", "(LRoaringIndex$NumberSet;)Z"⟩
abbrev cX5_hasPlaces : ByteArray := prog_7_method_5_code
def yX5_hasPlaces : MethodName := ⟨RX5, "hasPlaces", "(LRoaringIndex$NumberSet;)Z"⟩
abbrev cX5_headBytesOf : ByteArray := prog_7_method_6_code
def yX5_headBytesOf : MethodName := ⟨RX5, "headBytesOf", "(LRoaringIndex$NumberSet;)I"⟩
abbrev cX5_bodyBytesOf : ByteArray := prog_7_method_7_code
def yX5_bodyBytesOf : MethodName := ⟨RX5, "bodyBytesOf", "(LRoaringIndex$Container;)I"⟩
abbrev cX5_putMark : ByteArray := prog_7_method_8_code
def yX5_putMark : MethodName := ⟨RX5, "putMark", "(LRoaringIndex$NumberSet;LRoaringIndex$ByteRow;)V"⟩
abbrev cX5_putPlaces : ByteArray := prog_7_method_9_code
def yX5_putPlaces : MethodName := ⟨RX5, "putPlaces", "(LRoaringIndex$NumberSet;LRoaringIndex$ByteRow;)V"⟩
abbrev cX5_putBody : ByteArray := prog_7_method_10_code
def yX5_putBody : MethodName := ⟨RX5, "putBody", "(LRoaringIndex$Container;LRoaringIndex$ByteRow;)V"⟩
abbrev cX5_putArray : ByteArray := prog_7_method_11_code
def yX5_putArray : MethodName := ⟨RX5, "putArray", "(LRoaringIndex$Container;LRoaringIndex$ByteRow;)V"⟩
abbrev cX5_putBitmap : ByteArray := prog_7_method_12_code
def yX5_putBitmap : MethodName := ⟨RX5, "putBitmap", "(LRoaringIndex$Container;LRoaringIndex$ByteRow;)V"⟩
abbrev cX5_putRuns : ByteArray := prog_7_method_13_code
def yX5_putRuns : MethodName := ⟨RX5, "putRuns", "(LRoaringIndex$Container;LRoaringIndex$ByteRow;)V"⟩
def RX6 : String := "RoaringIndex"
def TX6 : u_T := fun k => match k with
  | 0 => ("RoaringIndex", "sets", "[LRoaringIndex$NumberSet;", true)
  | 1 => ("RoaringIndex", "spare", "LRoaringIndex$NumberSet;", true)
  | 2 => ("RoaringIndex", "pile", "LRoaringIndex$Pile;", true)
  | 3 => ("RoaringIndex", "bytes", "LRoaringIndex$ByteRow;", true)
  | 4 => ("RoaringIndex", "reader", "LRoaringIndex$Reader;", true)
  | _ => ("RoaringIndex", "workLeft", "I", false)
def tyX6 : Nat → FieldType := fun k => match k with
  | 0 => .array (.object "RoaringIndex$NumberSet")
  | 1 => .object "RoaringIndex$NumberSet"
  | 2 => .object "RoaringIndex$Pile"
  | 3 => .object "RoaringIndex$ByteRow"
  | 4 => .object "RoaringIndex$Reader"
  | _ => .int
abbrev wsX60 : List Cond := u_ws RX6 TX6 6
theorem nmX6 : ∀ a, a < 6 → ∀ b, b < 6 → a ≠ b → (TX6 a).2.1 ≠ (TX6 b).2.1 := by decide +kernel
theorem tyX6_ok : ∀ k, k < 6 → parseFieldDescriptor (TX6 k).2.2.1 = some (tyX6 k) := by decide +kernel
abbrev cX6_init : ByteArray := prog_1_method_1_code
def yX6_init : MethodName := ⟨RX6, "<init>", "()V"⟩
abbrev cX6_add : ByteArray := prog_1_method_2_code
def yX6_add : MethodName := ⟨RX6, "add", "(II)I"⟩
abbrev cX6_remove : ByteArray := prog_1_method_3_code
def yX6_remove : MethodName := ⟨RX6, "remove", "(II)I"⟩
abbrev cX6_range : ByteArray := prog_1_method_4_code
def yX6_range : MethodName := ⟨RX6, "range", "(IIIII)I"⟩
abbrev cX6_steps : ByteArray := prog_1_method_5_code
def yX6_steps : MethodName := ⟨RX6, "steps", "(IIII)I"⟩
abbrev cX6_clear : ByteArray := prog_1_method_6_code
def yX6_clear : MethodName := ⟨RX6, "clear", "(I)I"⟩
abbrev cX6_join : ByteArray := prog_1_method_7_code
def yX6_join : MethodName := ⟨RX6, "join", "(IIII)I"⟩
abbrev cX6_shrink : ByteArray := prog_1_method_8_code
def yX6_shrink : MethodName := ⟨RX6, "shrink", "(I)I"⟩
abbrev cX6_formula : ByteArray := prog_1_method_9_code
def yX6_formula : MethodName := ⟨RX6, "formula", "(IJI)I"⟩
abbrev cX6_has : ByteArray := prog_1_method_10_code
def yX6_has : MethodName := ⟨RX6, "has", "(II)I"⟩
abbrev cX6_rank : ByteArray := prog_1_method_11_code
def yX6_rank : MethodName := ⟨RX6, "rank", "(II)I"⟩
abbrev cX6_select : ByteArray := prog_1_method_12_code
def yX6_select : MethodName := ⟨RX6, "select", "(II)J"⟩
abbrev cX6_next : ByteArray := prog_1_method_13_code
def yX6_next : MethodName := ⟨RX6, "next", "(II)J"⟩
abbrev cX6_count : ByteArray := prog_1_method_14_code
def yX6_count : MethodName := ⟨RX6, "count", "(II)I"⟩
abbrev cX6_container : ByteArray := prog_1_method_15_code
def yX6_container : MethodName := ⟨RX6, "container", "(III)I"⟩
abbrev cX6_compare : ByteArray := prog_1_method_16_code
def yX6_compare : MethodName := ⟨RX6, "compare", "(II)I"⟩
abbrev cX6_write : ByteArray := prog_1_method_17_code
def yX6_write : MethodName := ⟨RX6, "write", "(I)I"⟩
abbrev cX6_read : ByteArray := prog_1_method_18_code
def yX6_read : MethodName := ⟨RX6, "read", "(I)I"⟩
abbrev cX6_fault : ByteArray := prog_1_method_19_code
def yX6_fault : MethodName := ⟨RX6, "fault", "()I"⟩
abbrev cX6_cut : ByteArray := prog_1_method_20_code
def yX6_cut : MethodName := ⟨RX6, "cut", "(I)I"⟩
abbrev cX6_type : ByteArray := prog_1_method_21_code
def yX6_type : MethodName := ⟨RX6, "type", "(JI)I"⟩
abbrev cX6_at : ByteArray := prog_1_method_22_code
def yX6_at : MethodName := ⟨RX6, "at", "(I)I"⟩
abbrev cX6_alter : ByteArray := prog_1_method_23_code
def yX6_alter : MethodName := ⟨RX6, "alter", "(II)I"⟩
abbrev cX6_work : ByteArray := prog_1_method_24_code
def yX6_work : MethodName := ⟨RX6, "work", "()I"⟩
abbrev cX6_size : ByteArray := prog_1_method_25_code
def yX6_size : MethodName := ⟨RX6, "size", "()I"⟩
abbrev cX6_digest : ByteArray := prog_1_method_26_code
def yX6_digest : MethodName := ⟨RX6, "digest", "()J"⟩
abbrev cX6_isNoSet : ByteArray := prog_1_method_27_code
def yX6_isNoSet : MethodName := ⟨RX6, "isNoSet", "(I)Z"⟩
abbrev cX6_isNoHalf : ByteArray := prog_1_method_28_code
def yX6_isNoHalf : MethodName := ⟨RX6, "isNoHalf", "(I)Z"⟩
abbrev cX6_keyOf : ByteArray := prog_1_method_29_code
def yX6_keyOf : MethodName := ⟨RX6, "keyOf", "(I)I"⟩
abbrev cX6_lowOf : ByteArray := prog_1_method_30_code
def yX6_lowOf : MethodName := ⟨RX6, "lowOf", "(I)I"⟩
abbrev cX6_takeWork : ByteArray := prog_1_method_31_code
def yX6_takeWork : MethodName := ⟨RX6, "takeWork", "(I)Z"⟩
def RX7 : String := "RoaringIndexModel"
def TX7 : u_T := fun k => match k with
  | 0 => ("RoaringIndexModel", "many", "[I", true)
  | 1 => ("RoaringIndexModel", "keys", "[I", true)
  | 2 => ("RoaringIndexModel", "kinds", "[I", true)
  | 3 => ("RoaringIndexModel", "sizes", "[I", true)
  | 4 => ("RoaringIndexModel", "words", "[J", true)
  | 5 => ("RoaringIndexModel", "work", "I", false)
  | 6 => ("RoaringIndexModel", "size", "I", false)
  | 7 => ("RoaringIndexModel", "bytes", "[I", true)
  | 8 => ("RoaringIndexModel", "out", "I", false)
  | 9 => ("RoaringIndexModel", "fault", "I", false)
  | 10 => ("RoaringIndexModel", "faultPlace", "I", false)
  | 11 => ("RoaringIndexModel", "at", "I", false)
  | 12 => ("RoaringIndexModel", "places", "[I", true)
  | 13 => ("RoaringIndexModel", "told", "[J", true)
  | 14 => ("RoaringIndexModel", "heads", "[I", true)
  | _ => ("RoaringIndexModel", "bits", "I", false)
def tyX7 : Nat → FieldType := fun k => match k with
  | 0 => .array .int
  | 1 => .array .int
  | 2 => .array .int
  | 3 => .array .int
  | 4 => .array .long
  | 5 => .int
  | 6 => .int
  | 7 => .array .int
  | 8 => .int
  | 9 => .int
  | 10 => .int
  | 11 => .int
  | 12 => .array .int
  | 13 => .array .long
  | 14 => .array .int
  | _ => .int
abbrev wsX70 : List Cond := u_ws RX7 TX7 16
theorem nmX7 : ∀ a, a < 16 → ∀ b, b < 16 → a ≠ b → (TX7 a).2.1 ≠ (TX7 b).2.1 := by decide +kernel
theorem tyX7_ok : ∀ k, k < 16 → parseFieldDescriptor (TX7 k).2.2.1 = some (tyX7 k) := by decide +kernel
abbrev cX7_init : ByteArray := prog_9_method_1_code
def yX7_init : MethodName := ⟨RX7, "<init>", "()V"⟩
abbrev cX7_in : ByteArray := prog_9_method_3_code
def yX7_in : MethodName := ⟨RX7, "in", "(JJJ)Z"⟩
abbrev cX7_isSet : ByteArray := prog_9_method_4_code
def yX7_isSet : MethodName := ⟨RX7, "isSet", "(I)Z"⟩
abbrev cX7_isLow : ByteArray := prog_9_method_5_code
def yX7_isLow : MethodName := ⟨RX7, "isLow", "(I)Z"⟩
abbrev cX7_bitsOf : ByteArray := prog_9_method_6_code
def yX7_bitsOf : MethodName := ⟨RX7, "bitsOf", "(J)I"⟩
abbrev cX7_hasLow : ByteArray := prog_9_method_7_code
def yX7_hasLow : MethodName := ⟨RX7, "hasLow", "(II)Z"⟩
abbrev cX7_turn : ByteArray := prog_9_method_8_code
def yX7_turn : MethodName := ⟨RX7, "turn", "(II)V"⟩
abbrev cX7_plainKind : ByteArray := prog_9_method_9_code
def yX7_plainKind : MethodName := ⟨RX7, "plainKind", "(I)I"⟩
abbrev cX7_runsOf : ByteArray := prog_9_method_10_code
def yX7_runsOf : MethodName := ⟨RX7, "runsOf", "(I)I"⟩
abbrev cX7_copy : ByteArray := prog_9_method_11_code
def yX7_copy : MethodName := ⟨RX7, "copy", "(II)V"⟩
abbrev cX7_copySet : ByteArray := prog_9_method_12_code
def yX7_copySet : MethodName := ⟨RX7, "copySet", "(II)V"⟩
abbrev cX7_containerOf : ByteArray := prog_9_method_13_code
def yX7_containerOf : MethodName := ⟨RX7, "containerOf", "(II)I"⟩
abbrev cX7_made : ByteArray := prog_9_method_14_code
def yX7_made : MethodName := ⟨RX7, "made", "(II)I"⟩
abbrev cX7_changed : ByteArray := prog_9_method_15_code
def yX7_changed : MethodName := ⟨RX7, "changed", "(II)V"⟩
abbrev cX7_all : ByteArray := prog_9_method_16_code
def yX7_all : MethodName := ⟨RX7, "all", "(I)I"⟩
abbrev cX7_add : ByteArray := prog_9_method_17_code
def yX7_add : MethodName := ⟨RX7, "add", "(II)I"⟩
abbrev cX7_remove : ByteArray := prog_9_method_18_code
def yX7_remove : MethodName := ⟨RX7, "remove", "(II)I"⟩
abbrev cX7_sweep : ByteArray := prog_9_method_19_code
def yX7_sweep : MethodName := ⟨RX7, "sweep", "(IIIIII)I"⟩
abbrev cX7_range : ByteArray := prog_9_method_20_code
def yX7_range : MethodName := ⟨RX7, "range", "(IIIII)I"⟩
abbrev cX7_steps : ByteArray := prog_9_method_21_code
def yX7_steps : MethodName := ⟨RX7, "steps", "(IIII)I"⟩
abbrev cX7_clear : ByteArray := prog_9_method_22_code
def yX7_clear : MethodName := ⟨RX7, "clear", "(I)I"⟩
abbrev cX7_isLike : ByteArray := prog_9_method_23_code
def yX7_isLike : MethodName := ⟨RX7, "isLike", "(II)Z"⟩
abbrev cX7_joined : ByteArray := prog_9_method_24_code
def yX7_joined : MethodName := ⟨RX7, "joined", "(IJJ)J"⟩
abbrev cX7_makeOne : ByteArray := prog_9_method_25_code
def yX7_makeOne : MethodName := ⟨RX7, "makeOne", "(IIII)Z"⟩
abbrev cX7_make : ByteArray := prog_9_method_26_code
def yX7_make : MethodName := ⟨RX7, "make", "(III)Z"⟩
abbrev cX7_join : ByteArray := prog_9_method_27_code
def yX7_join : MethodName := ⟨RX7, "join", "(IIII)I"⟩
abbrev cX7_shrink : ByteArray := prog_9_method_28_code
def yX7_shrink : MethodName := ⟨RX7, "shrink", "(I)I"⟩
abbrev cX7_isFormula : ByteArray := prog_9_method_29_code
def yX7_isFormula : MethodName := ⟨RX7, "isFormula", "(JI)Z"⟩
abbrev cX7_layAll : ByteArray := prog_9_method_30_code
def yX7_layAll : MethodName := ⟨RX7, "layAll", "(I)V"⟩
abbrev cX7_formula : ByteArray := prog_9_method_31_code
def yX7_formula : MethodName := ⟨RX7, "formula", "(IJI)I"⟩
abbrev cX7_has : ByteArray := prog_9_method_32_code
def yX7_has : MethodName := ⟨RX7, "has", "(II)I"⟩
abbrev cX7_rank : ByteArray := prog_9_method_33_code
def yX7_rank : MethodName := ⟨RX7, "rank", "(II)I"⟩
abbrev cX7_numberOf : ByteArray := prog_9_method_34_code
def yX7_numberOf : MethodName := ⟨RX7, "numberOf", "(II)J"⟩
abbrev cX7_select : ByteArray := prog_9_method_35_code
def yX7_select : MethodName := ⟨RX7, "select", "(II)J"⟩
abbrev cX7_next : ByteArray := prog_9_method_36_code
def yX7_next : MethodName := ⟨RX7, "next", "(II)J"⟩
abbrev cX7_count : ByteArray := prog_9_method_37_code
def yX7_count : MethodName := ⟨RX7, "count", "(II)I"⟩
abbrev cX7_container : ByteArray := prog_9_method_38_code
def yX7_container : MethodName := ⟨RX7, "container", "(III)I"⟩
abbrev cX7_both : ByteArray := prog_9_method_39_code
def yX7_both : MethodName := ⟨RX7, "both", "(II)I"⟩
abbrev cX7_compare : ByteArray := prog_9_method_40_code
def yX7_compare : MethodName := ⟨RX7, "compare", "(II)I"⟩
abbrev cX7_put : ByteArray := prog_9_method_41_code
def yX7_put : MethodName := ⟨RX7, "put", "(II)V"⟩
abbrev cX7_hasRuns : ByteArray := prog_9_method_42_code
def yX7_hasRuns : MethodName := ⟨RX7, "hasRuns", "(I)Z"⟩
abbrev cX7_lengthOf : ByteArray := prog_9_method_43_code
def yX7_lengthOf : MethodName := ⟨RX7, "lengthOf", "(I)I"⟩
abbrev cX7_headOf : ByteArray := prog_9_method_44_code
def yX7_headOf : MethodName := ⟨RX7, "headOf", "(I)I"⟩
abbrev cX7_write : ByteArray := prog_9_method_45_code
def yX7_write : MethodName := ⟨RX7, "write", "(I)I"⟩
abbrev cX7_writeOne : ByteArray := prog_9_method_46_code
def yX7_writeOne : MethodName := ⟨RX7, "writeOne", "(I)V"⟩
abbrev cX7_fails : ByteArray := prog_9_method_47_code
def yX7_fails : MethodName := ⟨RX7, "fails", "(II)Z"⟩
abbrev cX7_are : ByteArray := prog_9_method_48_code
def yX7_are : MethodName := ⟨RX7, "are", "(I)Z"⟩
abbrev cX7_taken : ByteArray := prog_9_method_49_code
def yX7_taken : MethodName := ⟨RX7, "taken", "(I)J"⟩
abbrev cX7_readsHead : ByteArray := prog_9_method_50_code
def yX7_readsHead : MethodName := ⟨RX7, "readsHead", "()Z"⟩
abbrev cX7_readsKeys : ByteArray := prog_9_method_51_code
def yX7_readsKeys : MethodName := ⟨RX7, "readsKeys", "(I)Z"⟩
abbrev cX7_readsPlaces : ByteArray := prog_9_method_52_code
def yX7_readsPlaces : MethodName := ⟨RX7, "readsPlaces", "(IZ)Z"⟩
abbrev cX7_readsArray : ByteArray := prog_9_method_53_code
def yX7_readsArray : MethodName := ⟨RX7, "readsArray", "(II)Z"⟩
abbrev cX7_readsBitmap : ByteArray := prog_9_method_54_code
def yX7_readsBitmap : MethodName := ⟨RX7, "readsBitmap", "(II)Z"⟩
abbrev cX7_readsRuns : ByteArray := prog_9_method_55_code
def yX7_readsRuns : MethodName := ⟨RX7, "readsRuns", "(II)Z"⟩
abbrev cX7_readsAll : ByteArray := prog_9_method_56_code
def yX7_readsAll : MethodName := ⟨RX7, "readsAll", "()Z"⟩
abbrev cX7_read : ByteArray := prog_9_method_57_code
def yX7_read : MethodName := ⟨RX7, "read", "(I)I"⟩
abbrev cX7_fault : ByteArray := prog_9_method_58_code
def yX7_fault : MethodName := ⟨RX7, "fault", "()I"⟩
abbrev cX7_cut : ByteArray := prog_9_method_59_code
def yX7_cut : MethodName := ⟨RX7, "cut", "(I)I"⟩
abbrev cX7_type : ByteArray := prog_9_method_60_code
def yX7_type : MethodName := ⟨RX7, "type", "(JI)I"⟩
abbrev cX7_at : ByteArray := prog_9_method_61_code
def yX7_at : MethodName := ⟨RX7, "at", "(I)I"⟩
abbrev cX7_alter : ByteArray := prog_9_method_62_code
def yX7_alter : MethodName := ⟨RX7, "alter", "(II)I"⟩
abbrev cX7_work : ByteArray := prog_9_method_63_code
def yX7_work : MethodName := ⟨RX7, "work", "()I"⟩
abbrev cX7_size : ByteArray := prog_9_method_64_code
def yX7_size : MethodName := ⟨RX7, "size", "()I"⟩
abbrev cX7_digest : ByteArray := prog_9_method_65_code
def yX7_digest : MethodName := ⟨RX7, "digest", "()J"⟩
def RJx8e188 : String := "java/lang/Cloneable"
def TJx8e188 : u_T := fun k => match k with
  | _ => ("", "", "", false)
def tyJx8e188 : Nat → FieldType := fun k => match k with
  | _ => .int
abbrev wsJx8e1880 : List Cond := u_ws RJx8e188 TJx8e188 0
theorem nmJx8e188 : ∀ a, a < 0 → ∀ b, b < 0 → a ≠ b → (TJx8e188 a).2.1 ≠ (TJx8e188 b).2.1 := by decide +kernel
theorem tyJx8e188_ok : ∀ k, k < 0 → parseFieldDescriptor (TJx8e188 k).2.2.1 = some (tyJx8e188 k) := by decide +kernel
def RJ6 : String := "java/lang/Integer"
def TJ6 : u_T := fun k => match k with
  | _ => ("", "", "", false)
def tyJ6 : Nat → FieldType := fun k => match k with
  | _ => .int
abbrev wsJ60 : List Cond := u_ws RJ6 TJ6 0
theorem nmJ6 : ∀ a, a < 0 → ∀ b, b < 0 → a ≠ b → (TJ6 a).2.1 ≠ (TJ6 b).2.1 := by decide +kernel
theorem tyJ6_ok : ∀ k, k < 0 → parseFieldDescriptor (TJ6 k).2.2.1 = some (tyJ6 k) := by decide +kernel
abbrev cJ6_numberOfTrailingZeros_0f7a4 : ByteArray := prog_11_method_48_code
def yJ6_numberOfTrailingZeros_0f7a4 : MethodName := ⟨RJ6, "numberOfTrailingZeros", "(I)I"⟩
def RJ13 : String := "java/lang/Long"
def TJ13 : u_T := fun k => match k with
  | _ => ("", "", "", false)
def tyJ13 : Nat → FieldType := fun k => match k with
  | _ => .int
abbrev wsJ130 : List Cond := u_ws RJ13 TJ13 0
theorem nmJ13 : ∀ a, a < 0 → ∀ b, b < 0 → a ≠ b → (TJ13 a).2.1 ≠ (TJ13 b).2.1 := by decide +kernel
theorem tyJ13_ok : ∀ k, k < 0 → parseFieldDescriptor (TJ13 k).2.2.1 = some (tyJ13 k) := by decide +kernel
abbrev cJ13_numberOfTrailingZeros_95d88 : ByteArray := prog_12_method_49_code
def yJ13_numberOfTrailingZeros_95d88 : MethodName := ⟨RJ13, "numberOfTrailingZeros", "(J)I"⟩
abbrev cJ13_bitCount_95d88 : ByteArray := prog_12_method_50_code
def yJ13_bitCount_95d88 : MethodName := ⟨RJ13, "bitCount", "(J)I"⟩
def RJ9 : String := "java/lang/Math"
def TJ9 : u_T := fun k => match k with
  | _ => ("", "", "", false)
def tyJ9 : Nat → FieldType := fun k => match k with
  | _ => .int
abbrev wsJ90 : List Cond := u_ws RJ9 TJ9 0
theorem nmJ9 : ∀ a, a < 0 → ∀ b, b < 0 → a ≠ b → (TJ9 a).2.1 ≠ (TJ9 b).2.1 := by decide +kernel
theorem tyJ9_ok : ∀ k, k < 0 → parseFieldDescriptor (TJ9 k).2.2.1 = some (tyJ9 k) := by decide +kernel
abbrev cJ9_min_7cf53 : ByteArray := prog_13_method_69_code
def yJ9_min_7cf53 : MethodName := ⟨RJ9, "min", "(II)I"⟩
def RJ10 : String := "java/lang/System"
def TJ10 : u_T := fun k => match k with
  | _ => ("", "", "", false)
def tyJ10 : Nat → FieldType := fun k => match k with
  | _ => .int
abbrev wsJ100 : List Cond := u_ws RJ10 TJ10 0
theorem nmJ10 : ∀ a, a < 0 → ∀ b, b < 0 → a ≠ b → (TJ10 a).2.1 ≠ (TJ10 b).2.1 := by decide +kernel
theorem tyJ10_ok : ∀ k, k < 0 → parseFieldDescriptor (TJ10 k).2.2.1 = some (tyJ10 k) := by decide +kernel
def RJ7 : String := "java/util/Arrays"
def TJ7 : u_T := fun k => match k with
  | _ => ("", "", "", false)
def tyJ7 : Nat → FieldType := fun k => match k with
  | _ => .int
abbrev wsJ70 : List Cond := u_ws RJ7 TJ7 0
theorem nmJ7 : ∀ a, a < 0 → ∀ b, b < 0 → a ≠ b → (TJ7 a).2.1 ≠ (TJ7 b).2.1 := by decide +kernel
theorem tyJ7_ok : ∀ k, k < 0 → parseFieldDescriptor (TJ7 k).2.2.1 = some (tyJ7 k) := by decide +kernel
abbrev cJ7_fill_d0a16 : ByteArray := prog_15_method_101_code
def yJ7_fill_d0a16 : MethodName := ⟨RJ7, "fill", "([JJ)V"⟩
abbrev cJ7_copyOf_9075b : ByteArray := prog_15_method_121_code
def yJ7_copyOf_9075b : MethodName := ⟨RJ7, "copyOf", "([BI)[B"⟩
def RL : String := "RoaringIndexLaw"
abbrev cL_law : ByteArray := code
def yL_law : MethodName := ⟨RL, "law", "([I)Z"⟩
def wsX0_init : List Cond := .code yX0_init cX0_init 1 none :: ([.methodLink RX0 3 objectInit, .instanceMethod objectInit, .code objectInit ⟨#[0xb1]⟩ 1 none, .arrayClass .byte, .fieldLink RX0 9 "RoaringIndex$ByteRow" "held" "[B"] ++ wsX00)
def wsX0_lacks : List Cond := .code yX0_lacks cX0_lacks 2 (some .boolean) :: ([.fieldLink RX0 15 "RoaringIndex$ByteRow" "used" "I"] ++ wsX00)
def wsX0_byteAt : List Cond := .code yX0_byteAt cX0_byteAt 2 (some .int) :: ([.fieldLink RX0 9 "RoaringIndex$ByteRow" "held" "[B"] ++ wsX00)
def wsJ7_copyOf_9075b : List Cond := .code yJ7_copyOf_9075b cJ7_copyOf_9075b 3 (some (.array .byte)) :: ([.methodLink RJ7 310 ⟨"[B", "clone", "()Ljava/lang/Object;"⟩, .sameMethod "[B" "java/lang/Object" "clone" "()Ljava/lang/Object;", .native ⟨"java/lang/Object", "clone", "()Ljava/lang/Object;"⟩, .instanceMethod ⟨"java/lang/Object", "clone", "()Ljava/lang/Object;"⟩, .selects "[B" ⟨"[B", "clone", "()Ljava/lang/Object;"⟩ ⟨"java/lang/Object", "clone", "()Ljava/lang/Object;"⟩, .classLink RJ7 311 "[B", .arrayClass .byte, .methodLink RJ7 304 Lib.Math.min.name, .static Lib.Math.min.name, .initialized "java/lang/Math", .code Lib.Math.min.name Lib.Math.min.code 2 (some .int), .methodLink RJ7 150 arraycopyName, .native arraycopyName, .static arraycopyName, .initialized "java/lang/System"])
def wsX0_put : List Cond := .code yX0_put cX0_put 5 none :: ([.fieldLink RX0 15 "RoaringIndex$ByteRow" "used" "I", .fieldLink RX0 9 "RoaringIndex$ByteRow" "held" "[B", .constant RX0 19 (60000), .methodLink RX0 20 yJ7_copyOf_9075b, .static yJ7_copyOf_9075b, .initialized RJ7, .code yJ7_copyOf_9075b cJ7_copyOf_9075b 3 (some (.array .byte)), .methodLink RJ7 310 ⟨"[B", "clone", "()Ljava/lang/Object;"⟩, .sameMethod "[B" "java/lang/Object" "clone" "()Ljava/lang/Object;", .native ⟨"java/lang/Object", "clone", "()Ljava/lang/Object;"⟩, .instanceMethod ⟨"java/lang/Object", "clone", "()Ljava/lang/Object;"⟩, .selects "[B" ⟨"[B", "clone", "()Ljava/lang/Object;"⟩ ⟨"java/lang/Object", "clone", "()Ljava/lang/Object;"⟩, .classLink RJ7 311 "[B", .arrayClass .byte, .methodLink RJ7 304 Lib.Math.min.name, .static Lib.Math.min.name, .initialized "java/lang/Math", .code Lib.Math.min.name Lib.Math.min.code 2 (some .int), .methodLink RJ7 150 arraycopyName, .native arraycopyName, .static arraycopyName, .initialized "java/lang/System"] ++ wsX00)
def wsX0_numberAt : List Cond := .code yX0_numberAt cX0_numberAt 6 (some .long) :: ([.methodLink RX0 26 yX0_byteAt, .instanceMethod yX0_byteAt, .selects RX0 yX0_byteAt yX0_byteAt, .initialized RX0, .code yX0_byteAt cX0_byteAt 2 (some .int), .fieldLink RX0 9 "RoaringIndex$ByteRow" "held" "[B"] ++ wsX00)
def wsX1_init : List Cond := .code yX1_init cX1_init 1 none :: ([.methodLink RX1 3 objectInit, .instanceMethod objectInit, .code objectInit ⟨#[0xb1]⟩ 1 none, .fieldLink RX1 13 "RoaringIndex$Container" "words" "[J"] ++ wsX10)
def wsX1_makeRoom : List Cond := .code yX1_makeRoom cX1_makeRoom 1 none :: ([.fieldLink RX1 13 "RoaringIndex$Container" "words" "[J", .arrayClass .long] ++ wsX10)
def wsJ7_fill_d0a16 : List Cond := .code yJ7_fill_d0a16 cJ7_fill_d0a16 5 none :: ([])
def wsX1_begin : List Cond := .code yX1_begin cX1_begin 2 none :: ([.fieldLink RX1 13 "RoaringIndex$Container" "words" "[J", .fieldLink RX1 27 "RoaringIndex$Container" "key" "I", .fieldLink RX1 31 "RoaringIndex$Container" "kind" "I", .fieldLink RX1 34 "RoaringIndex$Container" "total" "I", .methodLink RX1 18 yX1_makeRoom, .instanceMethod yX1_makeRoom, .selects RX1 yX1_makeRoom yX1_makeRoom, .initialized RX1, .code yX1_makeRoom cX1_makeRoom 1 none, .arrayClass .long, .methodLink RX1 21 yJ7_fill_d0a16, .static yJ7_fill_d0a16, .initialized RJ7, .code yJ7_fill_d0a16 cJ7_fill_d0a16 5 none] ++ wsX10)
def wsX1_copyLowsOf : List Cond := .code yX1_copyLowsOf cX1_copyLowsOf 2 none :: ([.fieldLink RX1 13 "RoaringIndex$Container" "words" "[J", .methodLink RX1 37 arraycopyName, .native arraycopyName, .static arraycopyName, .initialized "java/lang/System", .fieldLink RX1 27 "RoaringIndex$Container" "key" "I", .fieldLink RX1 31 "RoaringIndex$Container" "kind" "I", .fieldLink RX1 34 "RoaringIndex$Container" "total" "I", .methodLink RX1 18 yX1_makeRoom, .instanceMethod yX1_makeRoom, .selects RX1 yX1_makeRoom yX1_makeRoom, .initialized RX1, .code yX1_makeRoom cX1_makeRoom 1 none, .arrayClass .long] ++ wsX10)
def wsX1_setPlainKind : List Cond := .code yX1_setPlainKind cX1_setPlainKind 1 none :: ([.fieldLink RX1 34 "RoaringIndex$Container" "total" "I", .fieldLink RX1 31 "RoaringIndex$Container" "kind" "I"] ++ wsX10)
def wsJ13_bitCount_95d88 : List Cond := .code yJ13_bitCount_95d88 cJ13_bitCount_95d88 2 (some .int) :: ([.constantLong RJ13 314 (6148914691236517205), .constantLong RJ13 316 (3689348814741910323), .constantLong RJ13 318 (1085102592571150095)])
def wsX1_totalRuns : List Cond := .code yX1_totalRuns cX1_totalRuns 7 (some .int) :: ([.fieldLink RX1 13 "RoaringIndex$Container" "words" "[J", .constantLong RX1 50 (-1), .methodLink RX1 56 yJ13_bitCount_95d88, .static yJ13_bitCount_95d88, .initialized RJ13, .code yJ13_bitCount_95d88 cJ13_bitCount_95d88 2 (some .int), .constantLong RJ13 314 (6148914691236517205), .constantLong RJ13 316 (3689348814741910323), .constantLong RJ13 318 (1085102592571150095)] ++ wsX10)
def wsX1_setSmallestKind : List Cond := .code yX1_setSmallestKind cX1_setSmallestKind 2 none :: ([.fieldLink RX1 34 "RoaringIndex$Container" "total" "I", .fieldLink RX1 31 "RoaringIndex$Container" "kind" "I", .methodLink RX1 43 yX1_totalRuns, .instanceMethod yX1_totalRuns, .selects RX1 yX1_totalRuns yX1_totalRuns, .initialized RX1, .code yX1_totalRuns cX1_totalRuns 7 (some .int), .fieldLink RX1 13 "RoaringIndex$Container" "words" "[J", .constantLong RX1 50 (-1), .methodLink RX1 56 yJ13_bitCount_95d88, .static yJ13_bitCount_95d88, .initialized RJ13, .code yJ13_bitCount_95d88 cJ13_bitCount_95d88 2 (some .int), .constantLong RJ13 314 (6148914691236517205), .constantLong RJ13 316 (3689348814741910323), .constantLong RJ13 318 (1085102592571150095), .methodLink RX1 47 yX1_setPlainKind, .instanceMethod yX1_setPlainKind, .selects RX1 yX1_setPlainKind yX1_setPlainKind, .code yX1_setPlainKind cX1_setPlainKind 1 none] ++ wsX10)
def wsX1_holds : List Cond := .code yX1_holds cX1_holds 2 (some .boolean) :: ([.fieldLink RX1 13 "RoaringIndex$Container" "words" "[J"] ++ wsX10)
def wsX1_upTo : List Cond := .code yX1_upTo cX1_upTo 1 (some .long) :: ([.constantLong RX1 50 (-1)])
def wsX1_changeLows : List Cond := .code yX1_changeLows cX1_changeLows 14 (some .boolean) :: ([.constantLong RX1 50 (-1), .fieldLink RX1 13 "RoaringIndex$Container" "words" "[J", .fieldLink RX1 34 "RoaringIndex$Container" "total" "I", .methodLink RX1 52 yX1_upTo, .static yX1_upTo, .initialized RX1, .code yX1_upTo cX1_upTo 1 (some .long), .methodLink RX1 56 yJ13_bitCount_95d88, .static yJ13_bitCount_95d88, .initialized RJ13, .code yJ13_bitCount_95d88 cJ13_bitCount_95d88 2 (some .int), .constantLong RJ13 314 (6148914691236517205), .constantLong RJ13 316 (3689348814741910323), .constantLong RJ13 318 (1085102592571150095)] ++ wsX10)
def wsX1_putLowsBySteps : List Cond := .code yX1_putLowsBySteps cX1_putLowsBySteps 5 (some .boolean) :: ([.fieldLink RX1 34 "RoaringIndex$Container" "total" "I", .constant RX1 62 (65535), .fieldLink RX1 13 "RoaringIndex$Container" "words" "[J", .methodLink RX1 63 yX1_holds, .instanceMethod yX1_holds, .selects RX1 yX1_holds yX1_holds, .initialized RX1, .code yX1_holds cX1_holds 2 (some .boolean)] ++ wsX10)
def wsX1_mix : List Cond := .code yX1_mix cX1_mix 5 (some .long) :: ([.constantLong RX1 50 (-1)])
def wsX1_hasNoLowBut : List Cond := .code yX1_hasNoLowBut cX1_hasNoLowBut 3 (some .boolean) :: ([.fieldLink RX1 13 "RoaringIndex$Container" "words" "[J", .constantLong RX1 50 (-1)] ++ wsX10)
def wsX1_hasLowsOf : List Cond := .code yX1_hasLowsOf cX1_hasLowsOf 2 (some .boolean) :: ([.fieldLink RX1 34 "RoaringIndex$Container" "total" "I", .methodLink RX1 75 yX1_hasNoLowBut, .instanceMethod yX1_hasNoLowBut, .selects RX1 yX1_hasNoLowBut yX1_hasNoLowBut, .initialized RX1, .code yX1_hasNoLowBut cX1_hasNoLowBut 3 (some .boolean), .fieldLink RX1 13 "RoaringIndex$Container" "words" "[J", .constantLong RX1 50 (-1)] ++ wsX10)
def wsX1_becomeMix_r1 : List Cond := [Cond.fieldLink RX1 27 "RoaringIndex$Container" "key" "I", Cond.fieldLink RX1 34 "RoaringIndex$Container" "total" "I", Cond.fieldLink RX1 13 "RoaringIndex$Container" "words" "[J", Cond.fieldLink RX1 31 "RoaringIndex$Container" "kind" "I", Cond.methodLink RX1 18 yX1_makeRoom, Cond.instanceMethod yX1_makeRoom, Cond.selects RX1 yX1_makeRoom yX1_makeRoom, Cond.initialized RX1, Cond.code yX1_makeRoom cX1_makeRoom 1 none, Cond.arrayClass .long, Cond.methodLink RX1 67 yX1_mix, Cond.static yX1_mix, Cond.code yX1_mix cX1_mix 5 (some .long), Cond.constantLong RX1 50 (-1), Cond.methodLink RX1 56 yJ13_bitCount_95d88, Cond.static yJ13_bitCount_95d88, Cond.initialized RJ13, Cond.code yJ13_bitCount_95d88 cJ13_bitCount_95d88 2 (some .int), Cond.constantLong RJ13 314 (6148914691236517205), Cond.constantLong RJ13 316 (3689348814741910323), Cond.constantLong RJ13 318 (1085102592571150095), Cond.methodLink RX1 71 yX1_hasLowsOf, Cond.instanceMethod yX1_hasLowsOf, Cond.selects RX1 yX1_hasLowsOf yX1_hasLowsOf]
def wsX1_becomeMix_r2 : List Cond := [Cond.code yX1_hasLowsOf cX1_hasLowsOf 2 (some .boolean), Cond.methodLink RX1 75 yX1_hasNoLowBut, Cond.instanceMethod yX1_hasNoLowBut, Cond.selects RX1 yX1_hasNoLowBut yX1_hasNoLowBut, Cond.code yX1_hasNoLowBut cX1_hasNoLowBut 3 (some .boolean), Cond.methodLink RX1 47 yX1_setPlainKind, Cond.instanceMethod yX1_setPlainKind, Cond.selects RX1 yX1_setPlainKind yX1_setPlainKind, Cond.code yX1_setPlainKind cX1_setPlainKind 1 none]
def wsX1_becomeMix : List Cond := .code yX1_becomeMix cX1_becomeMix 7 none :: ((wsX1_becomeMix_r1 ++ wsX1_becomeMix_r2) ++ wsX10)
def wsX1_hasLowIn : List Cond := .code yX1_hasLowIn cX1_hasLowIn 3 (some .boolean) :: ([.fieldLink RX1 13 "RoaringIndex$Container" "words" "[J"] ++ wsX10)
def wsX1_lowsUpTo : List Cond := .code yX1_lowsUpTo cX1_lowsUpTo 5 (some .int) :: ([.fieldLink RX1 13 "RoaringIndex$Container" "words" "[J", .methodLink RX1 52 yX1_upTo, .static yX1_upTo, .initialized RX1, .code yX1_upTo cX1_upTo 1 (some .long), .constantLong RX1 50 (-1), .methodLink RX1 56 yJ13_bitCount_95d88, .static yJ13_bitCount_95d88, .initialized RJ13, .code yJ13_bitCount_95d88 cJ13_bitCount_95d88 2 (some .int), .constantLong RJ13 314 (6148914691236517205), .constantLong RJ13 316 (3689348814741910323), .constantLong RJ13 318 (1085102592571150095)] ++ wsX10)
def wsJ6_numberOfTrailingZeros_0f7a4 : List Cond := .code yJ6_numberOfTrailingZeros_0f7a4 cJ6_numberOfTrailingZeros_0f7a4 2 (some .int) :: ([.constant RJ6 264 (65536)])
def wsJ13_numberOfTrailingZeros_95d88 : List Cond := .code yJ13_numberOfTrailingZeros_95d88 cJ13_numberOfTrailingZeros_95d88 3 (some .int) :: ([.methodLink RJ13 311 yJ6_numberOfTrailingZeros_0f7a4, .static yJ6_numberOfTrailingZeros_0f7a4, .initialized RJ6, .code yJ6_numberOfTrailingZeros_0f7a4 cJ6_numberOfTrailingZeros_0f7a4 2 (some .int), .constant RJ6 264 (65536)])
def wsX1_lowAt : List Cond := .code yX1_lowAt cX1_lowAt 8 (some .int) :: ([.fieldLink RX1 13 "RoaringIndex$Container" "words" "[J", .methodLink RX1 56 yJ13_bitCount_95d88, .static yJ13_bitCount_95d88, .initialized RJ13, .code yJ13_bitCount_95d88 cJ13_bitCount_95d88 2 (some .int), .constantLong RJ13 314 (6148914691236517205), .constantLong RJ13 316 (3689348814741910323), .constantLong RJ13 318 (1085102592571150095), .methodLink RX1 78 yJ13_numberOfTrailingZeros_95d88, .static yJ13_numberOfTrailingZeros_95d88, .code yJ13_numberOfTrailingZeros_95d88 cJ13_numberOfTrailingZeros_95d88 3 (some .int), .methodLink RJ13 311 yJ6_numberOfTrailingZeros_0f7a4, .static yJ6_numberOfTrailingZeros_0f7a4, .initialized RJ6, .code yJ6_numberOfTrailingZeros_0f7a4 cJ6_numberOfTrailingZeros_0f7a4 2 (some .int), .constant RJ6 264 (65536)] ++ wsX10)
def wsX1_firstBit : List Cond := .code yX1_firstBit cX1_firstBit 8 (some .int) :: ([.fieldLink RX1 13 "RoaringIndex$Container" "words" "[J", .constantLong RX1 50 (-1), .constant RX1 85 (65536), .methodLink RX1 78 yJ13_numberOfTrailingZeros_95d88, .static yJ13_numberOfTrailingZeros_95d88, .initialized RJ13, .code yJ13_numberOfTrailingZeros_95d88 cJ13_numberOfTrailingZeros_95d88 3 (some .int), .methodLink RJ13 311 yJ6_numberOfTrailingZeros_0f7a4, .static yJ6_numberOfTrailingZeros_0f7a4, .initialized RJ6, .code yJ6_numberOfTrailingZeros_0f7a4 cJ6_numberOfTrailingZeros_0f7a4 2 (some .int), .constant RJ6 264 (65536)] ++ wsX10)
def wsX1_firstIn : List Cond := .code yX1_firstIn cX1_firstIn 2 (some .int) :: ([.methodLink RX1 81 yX1_firstBit, .instanceMethod yX1_firstBit, .selects RX1 yX1_firstBit yX1_firstBit, .initialized RX1, .code yX1_firstBit cX1_firstBit 8 (some .int), .fieldLink RX1 13 "RoaringIndex$Container" "words" "[J", .constantLong RX1 50 (-1), .constant RX1 85 (65536), .methodLink RX1 78 yJ13_numberOfTrailingZeros_95d88, .static yJ13_numberOfTrailingZeros_95d88, .initialized RJ13, .code yJ13_numberOfTrailingZeros_95d88 cJ13_numberOfTrailingZeros_95d88 3 (some .int), .methodLink RJ13 311 yJ6_numberOfTrailingZeros_0f7a4, .static yJ6_numberOfTrailingZeros_0f7a4, .initialized RJ6, .code yJ6_numberOfTrailingZeros_0f7a4 cJ6_numberOfTrailingZeros_0f7a4 2 (some .int), .constant RJ6 264 (65536)] ++ wsX10)
def wsX1_firstOut : List Cond := .code yX1_firstOut cX1_firstOut 2 (some .int) :: ([.constantLong RX1 50 (-1), .methodLink RX1 81 yX1_firstBit, .instanceMethod yX1_firstBit, .selects RX1 yX1_firstBit yX1_firstBit, .initialized RX1, .code yX1_firstBit cX1_firstBit 8 (some .int), .fieldLink RX1 13 "RoaringIndex$Container" "words" "[J", .constant RX1 85 (65536), .methodLink RX1 78 yJ13_numberOfTrailingZeros_95d88, .static yJ13_numberOfTrailingZeros_95d88, .initialized RJ13, .code yJ13_numberOfTrailingZeros_95d88 cJ13_numberOfTrailingZeros_95d88 3 (some .int), .methodLink RJ13 311 yJ6_numberOfTrailingZeros_0f7a4, .static yJ6_numberOfTrailingZeros_0f7a4, .initialized RJ6, .code yJ6_numberOfTrailingZeros_0f7a4 cJ6_numberOfTrailingZeros_0f7a4 2 (some .int), .constant RJ6 264 (65536)] ++ wsX10)
def wsX1_digestFrom : List Cond := .code yX1_digestFrom cX1_digestFrom 6 (some .long) :: ([.constantLong RX1 86 (31), .fieldLink RX1 27 "RoaringIndex$Container" "key" "I", .fieldLink RX1 31 "RoaringIndex$Container" "kind" "I", .fieldLink RX1 34 "RoaringIndex$Container" "total" "I", .fieldLink RX1 13 "RoaringIndex$Container" "words" "[J", .methodLink RX1 43 yX1_totalRuns, .instanceMethod yX1_totalRuns, .selects RX1 yX1_totalRuns yX1_totalRuns, .initialized RX1, .code yX1_totalRuns cX1_totalRuns 7 (some .int), .constantLong RX1 50 (-1), .methodLink RX1 56 yJ13_bitCount_95d88, .static yJ13_bitCount_95d88, .initialized RJ13, .code yJ13_bitCount_95d88 cJ13_bitCount_95d88 2 (some .int), .constantLong RJ13 314 (6148914691236517205), .constantLong RJ13 316 (3689348814741910323), .constantLong RJ13 318 (1085102592571150095)] ++ wsX10)
def wsX2_init : List Cond := .code yX2_init cX2_init 2 none :: ([.methodLink RX2 3 objectInit, .instanceMethod objectInit, .code objectInit ⟨#[0xb1]⟩ 1 none, .classLink RX2 9 RX1, .fieldLink RX2 11 "RoaringIndex$NumberSet" "items" "[LRoaringIndex$Container;", .instantiable RX1 4, .initialized RX1, .instanceMethod yX1_init, .code yX1_init cX1_init 1 none, .methodLink RX1 3 objectInit, .fieldLink RX1 13 "RoaringIndex$Container" "words" "[J"] ++ wsX20 ++ wsX10)
def wsX2_exchange : List Cond := .code yX2_exchange cX2_exchange 4 none :: ([.fieldLink RX2 11 "RoaringIndex$NumberSet" "items" "[LRoaringIndex$Container;", .fieldLink RX2 18 "RoaringIndex$NumberSet" "used" "I"] ++ wsX20)
def wsX2_copyFrom : List Cond := .code yX2_copyFrom cX2_copyFrom 3 none :: ([.fieldLink RX2 18 "RoaringIndex$NumberSet" "used" "I", .fieldLink RX2 11 "RoaringIndex$NumberSet" "items" "[LRoaringIndex$Container;", .methodLink RX2 22 yX1_copyLowsOf, .instanceMethod yX1_copyLowsOf, .selects RX1 yX1_copyLowsOf yX1_copyLowsOf, .initialized RX1, .code yX1_copyLowsOf cX1_copyLowsOf 2 none, .fieldLink RX1 13 "RoaringIndex$Container" "words" "[J", .methodLink RX1 37 arraycopyName, .native arraycopyName, .static arraycopyName, .initialized "java/lang/System", .fieldLink RX1 27 "RoaringIndex$Container" "key" "I", .fieldLink RX1 31 "RoaringIndex$Container" "kind" "I", .fieldLink RX1 34 "RoaringIndex$Container" "total" "I", .methodLink RX1 18 yX1_makeRoom, .instanceMethod yX1_makeRoom, .selects RX1 yX1_makeRoom yX1_makeRoom, .code yX1_makeRoom cX1_makeRoom 1 none, .arrayClass .long] ++ wsX20 ++ wsX10)
def wsX2_keyAt : List Cond := .code yX2_keyAt cX2_keyAt 2 (some .int) :: ([.fieldLink RX2 18 "RoaringIndex$NumberSet" "used" "I", .fieldLink RX2 11 "RoaringIndex$NumberSet" "items" "[LRoaringIndex$Container;", .fieldLink RX2 26 "RoaringIndex$Container" "key" "I", .constant RX2 29 (65536)] ++ wsX20 ++ wsX10)
def wsX2_indexOf : List Cond := .code yX2_indexOf cX2_indexOf 3 (some .int) :: ([.fieldLink RX2 18 "RoaringIndex$NumberSet" "used" "I", .fieldLink RX2 11 "RoaringIndex$NumberSet" "items" "[LRoaringIndex$Container;", .fieldLink RX2 26 "RoaringIndex$Container" "key" "I"] ++ wsX20 ++ wsX10)
def wsX2_find : List Cond := .code yX2_find cX2_find 3 (some (.object "RoaringIndex$Container")) :: ([.fieldLink RX2 11 "RoaringIndex$NumberSet" "items" "[LRoaringIndex$Container;", .methodLink RX2 30 yX2_indexOf, .instanceMethod yX2_indexOf, .selects RX2 yX2_indexOf yX2_indexOf, .initialized RX2, .code yX2_indexOf cX2_indexOf 3 (some .int), .fieldLink RX2 18 "RoaringIndex$NumberSet" "used" "I", .fieldLink RX2 26 "RoaringIndex$Container" "key" "I", .methodLink RX2 34 yX2_keyAt, .instanceMethod yX2_keyAt, .selects RX2 yX2_keyAt yX2_keyAt, .code yX2_keyAt cX2_keyAt 2 (some .int), .constant RX2 29 (65536)] ++ wsX20 ++ wsX10)
def wsX2_findOrMake_r1 : List Cond := [Cond.fieldLink RX2 11 "RoaringIndex$NumberSet" "items" "[LRoaringIndex$Container;", Cond.fieldLink RX2 18 "RoaringIndex$NumberSet" "used" "I", Cond.methodLink RX2 30 yX2_indexOf, Cond.instanceMethod yX2_indexOf, Cond.selects RX2 yX2_indexOf yX2_indexOf, Cond.initialized RX2, Cond.code yX2_indexOf cX2_indexOf 3 (some .int), Cond.fieldLink RX2 26 "RoaringIndex$Container" "key" "I", Cond.methodLink RX2 34 yX2_keyAt, Cond.instanceMethod yX2_keyAt, Cond.selects RX2 yX2_keyAt yX2_keyAt, Cond.code yX2_keyAt cX2_keyAt 2 (some .int), Cond.constant RX2 29 (65536), Cond.methodLink RX2 37 yX1_begin, Cond.instanceMethod yX1_begin, Cond.selects RX1 yX1_begin yX1_begin, Cond.initialized RX1, Cond.code yX1_begin cX1_begin 2 none, Cond.fieldLink RX1 13 "RoaringIndex$Container" "words" "[J", Cond.fieldLink RX1 27 "RoaringIndex$Container" "key" "I", Cond.fieldLink RX1 31 "RoaringIndex$Container" "kind" "I", Cond.fieldLink RX1 34 "RoaringIndex$Container" "total" "I", Cond.methodLink RX1 18 yX1_makeRoom, Cond.instanceMethod yX1_makeRoom]
def wsX2_findOrMake_r2 : List Cond := [Cond.selects RX1 yX1_makeRoom yX1_makeRoom, Cond.code yX1_makeRoom cX1_makeRoom 1 none, Cond.arrayClass .long, Cond.methodLink RX1 21 yJ7_fill_d0a16, Cond.static yJ7_fill_d0a16, Cond.initialized RJ7, Cond.code yJ7_fill_d0a16 cJ7_fill_d0a16 5 none]
def wsX2_findOrMake : List Cond := .code yX2_findOrMake cX2_findOrMake 5 (some (.object "RoaringIndex$Container")) :: ((wsX2_findOrMake_r1 ++ wsX2_findOrMake_r2) ++ wsX20 ++ wsX10)
def wsX2_leaveOut : List Cond := .code yX2_leaveOut cX2_leaveOut 5 none :: ([.fieldLink RX2 11 "RoaringIndex$NumberSet" "items" "[LRoaringIndex$Container;", .fieldLink RX2 18 "RoaringIndex$NumberSet" "used" "I", .methodLink RX2 30 yX2_indexOf, .instanceMethod yX2_indexOf, .selects RX2 yX2_indexOf yX2_indexOf, .initialized RX2, .code yX2_indexOf cX2_indexOf 3 (some .int), .fieldLink RX2 26 "RoaringIndex$Container" "key" "I", .methodLink RX2 34 yX2_keyAt, .instanceMethod yX2_keyAt, .selects RX2 yX2_keyAt yX2_keyAt, .code yX2_keyAt cX2_keyAt 2 (some .int), .constant RX2 29 (65536)] ++ wsX20 ++ wsX10)
def wsX2_settle_r1 : List Cond := [Cond.fieldLink RX2 63 "RoaringIndex$Container" "total" "I", Cond.fieldLink RX2 26 "RoaringIndex$Container" "key" "I", Cond.methodLink RX2 60 yX1_setPlainKind, Cond.instanceMethod yX1_setPlainKind, Cond.selects RX1 yX1_setPlainKind yX1_setPlainKind, Cond.initialized RX1, Cond.code yX1_setPlainKind cX1_setPlainKind 1 none, Cond.fieldLink RX1 34 "RoaringIndex$Container" "total" "I", Cond.fieldLink RX1 31 "RoaringIndex$Container" "kind" "I", Cond.methodLink RX2 66 yX2_leaveOut, Cond.instanceMethod yX2_leaveOut, Cond.selects RX2 yX2_leaveOut yX2_leaveOut, Cond.initialized RX2, Cond.code yX2_leaveOut cX2_leaveOut 5 none, Cond.fieldLink RX2 11 "RoaringIndex$NumberSet" "items" "[LRoaringIndex$Container;", Cond.fieldLink RX2 18 "RoaringIndex$NumberSet" "used" "I", Cond.methodLink RX2 30 yX2_indexOf, Cond.instanceMethod yX2_indexOf, Cond.selects RX2 yX2_indexOf yX2_indexOf, Cond.code yX2_indexOf cX2_indexOf 3 (some .int), Cond.methodLink RX2 34 yX2_keyAt, Cond.instanceMethod yX2_keyAt, Cond.selects RX2 yX2_keyAt yX2_keyAt, Cond.code yX2_keyAt cX2_keyAt 2 (some .int)]
def wsX2_settle_r2 : List Cond := [Cond.constant RX2 29 (65536)]
def wsX2_settle : List Cond := .code yX2_settle cX2_settle 3 (some .int) :: ((wsX2_settle_r1 ++ wsX2_settle_r2) ++ wsX10 ++ wsX20)
def wsX2_changeSpan_r1 : List Cond := [Cond.methodLink RX2 41 yX2_find, Cond.instanceMethod yX2_find, Cond.selects RX2 yX2_find yX2_find, Cond.initialized RX2, Cond.code yX2_find cX2_find 3 (some (.object "RoaringIndex$Container")), Cond.fieldLink RX2 11 "RoaringIndex$NumberSet" "items" "[LRoaringIndex$Container;", Cond.methodLink RX2 30 yX2_indexOf, Cond.instanceMethod yX2_indexOf, Cond.selects RX2 yX2_indexOf yX2_indexOf, Cond.code yX2_indexOf cX2_indexOf 3 (some .int), Cond.fieldLink RX2 18 "RoaringIndex$NumberSet" "used" "I", Cond.fieldLink RX2 26 "RoaringIndex$Container" "key" "I", Cond.methodLink RX2 34 yX2_keyAt, Cond.instanceMethod yX2_keyAt, Cond.selects RX2 yX2_keyAt yX2_keyAt, Cond.code yX2_keyAt cX2_keyAt 2 (some .int), Cond.constant RX2 29 (65536), Cond.methodLink RX2 45 yX2_findOrMake, Cond.instanceMethod yX2_findOrMake, Cond.selects RX2 yX2_findOrMake yX2_findOrMake, Cond.code yX2_findOrMake cX2_findOrMake 5 (some (.object "RoaringIndex$Container")), Cond.methodLink RX2 37 yX1_begin, Cond.instanceMethod yX1_begin, Cond.selects RX1 yX1_begin yX1_begin]
def wsX2_changeSpan_r2 : List Cond := [Cond.initialized RX1, Cond.code yX1_begin cX1_begin 2 none, Cond.fieldLink RX1 13 "RoaringIndex$Container" "words" "[J", Cond.fieldLink RX1 27 "RoaringIndex$Container" "key" "I", Cond.fieldLink RX1 31 "RoaringIndex$Container" "kind" "I", Cond.fieldLink RX1 34 "RoaringIndex$Container" "total" "I", Cond.methodLink RX1 18 yX1_makeRoom, Cond.instanceMethod yX1_makeRoom, Cond.selects RX1 yX1_makeRoom yX1_makeRoom, Cond.code yX1_makeRoom cX1_makeRoom 1 none, Cond.arrayClass .long, Cond.methodLink RX1 21 yJ7_fill_d0a16, Cond.static yJ7_fill_d0a16, Cond.initialized RJ7, Cond.code yJ7_fill_d0a16 cJ7_fill_d0a16 5 none, Cond.methodLink RX2 48 yX1_changeLows, Cond.instanceMethod yX1_changeLows, Cond.selects RX1 yX1_changeLows yX1_changeLows, Cond.code yX1_changeLows cX1_changeLows 14 (some .boolean), Cond.constantLong RX1 50 (-1), Cond.methodLink RX1 52 yX1_upTo, Cond.static yX1_upTo, Cond.code yX1_upTo cX1_upTo 1 (some .long), Cond.methodLink RX1 56 yJ13_bitCount_95d88]
def wsX2_changeSpan_r3 : List Cond := [Cond.static yJ13_bitCount_95d88, Cond.initialized RJ13, Cond.code yJ13_bitCount_95d88 cJ13_bitCount_95d88 2 (some .int), Cond.constantLong RJ13 314 (6148914691236517205), Cond.constantLong RJ13 316 (3689348814741910323), Cond.constantLong RJ13 318 (1085102592571150095), Cond.methodLink RX2 52 yX2_settle, Cond.instanceMethod yX2_settle, Cond.selects RX2 yX2_settle yX2_settle, Cond.code yX2_settle cX2_settle 3 (some .int), Cond.fieldLink RX2 63 "RoaringIndex$Container" "total" "I", Cond.methodLink RX2 60 yX1_setPlainKind, Cond.instanceMethod yX1_setPlainKind, Cond.selects RX1 yX1_setPlainKind yX1_setPlainKind, Cond.code yX1_setPlainKind cX1_setPlainKind 1 none, Cond.methodLink RX2 66 yX2_leaveOut, Cond.instanceMethod yX2_leaveOut, Cond.selects RX2 yX2_leaveOut yX2_leaveOut, Cond.code yX2_leaveOut cX2_leaveOut 5 none]
def wsX2_changeSpan : List Cond := .code yX2_changeSpan cX2_changeSpan 6 (some .int) :: ((wsX2_changeSpan_r1 ++ (wsX2_changeSpan_r2 ++ wsX2_changeSpan_r3)) ++ wsX20 ++ wsX10)
def wsX2_putSteps_r1 : List Cond := [Cond.methodLink RX2 45 yX2_findOrMake, Cond.instanceMethod yX2_findOrMake, Cond.selects RX2 yX2_findOrMake yX2_findOrMake, Cond.initialized RX2, Cond.code yX2_findOrMake cX2_findOrMake 5 (some (.object "RoaringIndex$Container")), Cond.fieldLink RX2 11 "RoaringIndex$NumberSet" "items" "[LRoaringIndex$Container;", Cond.fieldLink RX2 18 "RoaringIndex$NumberSet" "used" "I", Cond.methodLink RX2 30 yX2_indexOf, Cond.instanceMethod yX2_indexOf, Cond.selects RX2 yX2_indexOf yX2_indexOf, Cond.code yX2_indexOf cX2_indexOf 3 (some .int), Cond.fieldLink RX2 26 "RoaringIndex$Container" "key" "I", Cond.methodLink RX2 34 yX2_keyAt, Cond.instanceMethod yX2_keyAt, Cond.selects RX2 yX2_keyAt yX2_keyAt, Cond.code yX2_keyAt cX2_keyAt 2 (some .int), Cond.constant RX2 29 (65536), Cond.methodLink RX2 37 yX1_begin, Cond.instanceMethod yX1_begin, Cond.selects RX1 yX1_begin yX1_begin, Cond.initialized RX1, Cond.code yX1_begin cX1_begin 2 none, Cond.fieldLink RX1 13 "RoaringIndex$Container" "words" "[J", Cond.fieldLink RX1 27 "RoaringIndex$Container" "key" "I"]
def wsX2_putSteps_r2 : List Cond := [Cond.fieldLink RX1 31 "RoaringIndex$Container" "kind" "I", Cond.fieldLink RX1 34 "RoaringIndex$Container" "total" "I", Cond.methodLink RX1 18 yX1_makeRoom, Cond.instanceMethod yX1_makeRoom, Cond.selects RX1 yX1_makeRoom yX1_makeRoom, Cond.code yX1_makeRoom cX1_makeRoom 1 none, Cond.arrayClass .long, Cond.methodLink RX1 21 yJ7_fill_d0a16, Cond.static yJ7_fill_d0a16, Cond.initialized RJ7, Cond.code yJ7_fill_d0a16 cJ7_fill_d0a16 5 none, Cond.methodLink RX2 56 yX1_putLowsBySteps, Cond.instanceMethod yX1_putLowsBySteps, Cond.selects RX1 yX1_putLowsBySteps yX1_putLowsBySteps, Cond.code yX1_putLowsBySteps cX1_putLowsBySteps 5 (some .boolean), Cond.constant RX1 62 (65535), Cond.methodLink RX1 63 yX1_holds, Cond.instanceMethod yX1_holds, Cond.selects RX1 yX1_holds yX1_holds, Cond.code yX1_holds cX1_holds 2 (some .boolean), Cond.methodLink RX2 52 yX2_settle, Cond.instanceMethod yX2_settle, Cond.selects RX2 yX2_settle yX2_settle, Cond.code yX2_settle cX2_settle 3 (some .int)]
def wsX2_putSteps_r3 : List Cond := [Cond.fieldLink RX2 63 "RoaringIndex$Container" "total" "I", Cond.methodLink RX2 60 yX1_setPlainKind, Cond.instanceMethod yX1_setPlainKind, Cond.selects RX1 yX1_setPlainKind yX1_setPlainKind, Cond.code yX1_setPlainKind cX1_setPlainKind 1 none, Cond.methodLink RX2 66 yX2_leaveOut, Cond.instanceMethod yX2_leaveOut, Cond.selects RX2 yX2_leaveOut yX2_leaveOut, Cond.code yX2_leaveOut cX2_leaveOut 5 none]
def wsX2_putSteps : List Cond := .code yX2_putSteps cX2_putSteps 5 (some .int) :: ((wsX2_putSteps_r1 ++ (wsX2_putSteps_r2 ++ wsX2_putSteps_r3)) ++ wsX20 ++ wsX10)
def wsX2_becomeJoin_r1 : List Cond := [Cond.fieldLink RX2 18 "RoaringIndex$NumberSet" "used" "I", Cond.constant RX2 29 (65536), Cond.fieldLink RX2 11 "RoaringIndex$NumberSet" "items" "[LRoaringIndex$Container;", Cond.fieldLink RX2 63 "RoaringIndex$Container" "total" "I", Cond.methodLink RX2 34 yX2_keyAt, Cond.instanceMethod yX2_keyAt, Cond.selects RX2 yX2_keyAt yX2_keyAt, Cond.initialized RX2, Cond.code yX2_keyAt cX2_keyAt 2 (some .int), Cond.fieldLink RX2 26 "RoaringIndex$Container" "key" "I", Cond.methodLink RX2 22 yX1_copyLowsOf, Cond.instanceMethod yX1_copyLowsOf, Cond.selects RX1 yX1_copyLowsOf yX1_copyLowsOf, Cond.initialized RX1, Cond.code yX1_copyLowsOf cX1_copyLowsOf 2 none, Cond.fieldLink RX1 13 "RoaringIndex$Container" "words" "[J", Cond.methodLink RX1 37 arraycopyName, Cond.native arraycopyName, Cond.static arraycopyName, Cond.initialized "java/lang/System", Cond.fieldLink RX1 27 "RoaringIndex$Container" "key" "I", Cond.fieldLink RX1 31 "RoaringIndex$Container" "kind" "I", Cond.fieldLink RX1 34 "RoaringIndex$Container" "total" "I", Cond.methodLink RX1 18 yX1_makeRoom]
def wsX2_becomeJoin_r2 : List Cond := [Cond.instanceMethod yX1_makeRoom, Cond.selects RX1 yX1_makeRoom yX1_makeRoom, Cond.code yX1_makeRoom cX1_makeRoom 1 none, Cond.arrayClass .long, Cond.methodLink RX2 69 yX1_becomeMix, Cond.instanceMethod yX1_becomeMix, Cond.selects RX1 yX1_becomeMix yX1_becomeMix, Cond.code yX1_becomeMix cX1_becomeMix 7 none, Cond.methodLink RX1 67 yX1_mix, Cond.static yX1_mix, Cond.code yX1_mix cX1_mix 5 (some .long), Cond.constantLong RX1 50 (-1), Cond.methodLink RX1 56 yJ13_bitCount_95d88, Cond.static yJ13_bitCount_95d88, Cond.initialized RJ13, Cond.code yJ13_bitCount_95d88 cJ13_bitCount_95d88 2 (some .int), Cond.constantLong RJ13 314 (6148914691236517205), Cond.constantLong RJ13 316 (3689348814741910323), Cond.constantLong RJ13 318 (1085102592571150095), Cond.methodLink RX1 71 yX1_hasLowsOf, Cond.instanceMethod yX1_hasLowsOf, Cond.selects RX1 yX1_hasLowsOf yX1_hasLowsOf, Cond.code yX1_hasLowsOf cX1_hasLowsOf 2 (some .boolean), Cond.methodLink RX1 75 yX1_hasNoLowBut]
def wsX2_becomeJoin_r3 : List Cond := [Cond.instanceMethod yX1_hasNoLowBut, Cond.selects RX1 yX1_hasNoLowBut yX1_hasNoLowBut, Cond.code yX1_hasNoLowBut cX1_hasNoLowBut 3 (some .boolean), Cond.methodLink RX1 47 yX1_setPlainKind, Cond.instanceMethod yX1_setPlainKind, Cond.selects RX1 yX1_setPlainKind yX1_setPlainKind, Cond.code yX1_setPlainKind cX1_setPlainKind 1 none]
def wsX2_becomeJoin : List Cond := .code yX2_becomeJoin cX2_becomeJoin 9 (some .boolean) :: ((wsX2_becomeJoin_r1 ++ (wsX2_becomeJoin_r2 ++ wsX2_becomeJoin_r3)) ++ wsX20 ++ wsX10)
def wsX2_becomeAll_r1 : List Cond := [Cond.fieldLink RX2 18 "RoaringIndex$NumberSet" "used" "I", Cond.constant RX2 73 (65535), Cond.methodLink RX2 74 yX2_changeSpan, Cond.instanceMethod yX2_changeSpan, Cond.selects RX2 yX2_changeSpan yX2_changeSpan, Cond.initialized RX2, Cond.code yX2_changeSpan cX2_changeSpan 6 (some .int), Cond.methodLink RX2 41 yX2_find, Cond.instanceMethod yX2_find, Cond.selects RX2 yX2_find yX2_find, Cond.code yX2_find cX2_find 3 (some (.object "RoaringIndex$Container")), Cond.fieldLink RX2 11 "RoaringIndex$NumberSet" "items" "[LRoaringIndex$Container;", Cond.methodLink RX2 30 yX2_indexOf, Cond.instanceMethod yX2_indexOf, Cond.selects RX2 yX2_indexOf yX2_indexOf, Cond.code yX2_indexOf cX2_indexOf 3 (some .int), Cond.fieldLink RX2 26 "RoaringIndex$Container" "key" "I", Cond.methodLink RX2 34 yX2_keyAt, Cond.instanceMethod yX2_keyAt, Cond.selects RX2 yX2_keyAt yX2_keyAt, Cond.code yX2_keyAt cX2_keyAt 2 (some .int), Cond.constant RX2 29 (65536), Cond.methodLink RX2 45 yX2_findOrMake, Cond.instanceMethod yX2_findOrMake]
def wsX2_becomeAll_r2 : List Cond := [Cond.selects RX2 yX2_findOrMake yX2_findOrMake, Cond.code yX2_findOrMake cX2_findOrMake 5 (some (.object "RoaringIndex$Container")), Cond.methodLink RX2 37 yX1_begin, Cond.instanceMethod yX1_begin, Cond.selects RX1 yX1_begin yX1_begin, Cond.initialized RX1, Cond.code yX1_begin cX1_begin 2 none, Cond.fieldLink RX1 13 "RoaringIndex$Container" "words" "[J", Cond.fieldLink RX1 27 "RoaringIndex$Container" "key" "I", Cond.fieldLink RX1 31 "RoaringIndex$Container" "kind" "I", Cond.fieldLink RX1 34 "RoaringIndex$Container" "total" "I", Cond.methodLink RX1 18 yX1_makeRoom, Cond.instanceMethod yX1_makeRoom, Cond.selects RX1 yX1_makeRoom yX1_makeRoom, Cond.code yX1_makeRoom cX1_makeRoom 1 none, Cond.arrayClass .long, Cond.methodLink RX1 21 yJ7_fill_d0a16, Cond.static yJ7_fill_d0a16, Cond.initialized RJ7, Cond.code yJ7_fill_d0a16 cJ7_fill_d0a16 5 none, Cond.methodLink RX2 48 yX1_changeLows, Cond.instanceMethod yX1_changeLows, Cond.selects RX1 yX1_changeLows yX1_changeLows, Cond.code yX1_changeLows cX1_changeLows 14 (some .boolean)]
def wsX2_becomeAll_r3 : List Cond := [Cond.constantLong RX1 50 (-1), Cond.methodLink RX1 52 yX1_upTo, Cond.static yX1_upTo, Cond.code yX1_upTo cX1_upTo 1 (some .long), Cond.methodLink RX1 56 yJ13_bitCount_95d88, Cond.static yJ13_bitCount_95d88, Cond.initialized RJ13, Cond.code yJ13_bitCount_95d88 cJ13_bitCount_95d88 2 (some .int), Cond.constantLong RJ13 314 (6148914691236517205), Cond.constantLong RJ13 316 (3689348814741910323), Cond.constantLong RJ13 318 (1085102592571150095), Cond.methodLink RX2 52 yX2_settle, Cond.instanceMethod yX2_settle, Cond.selects RX2 yX2_settle yX2_settle, Cond.code yX2_settle cX2_settle 3 (some .int), Cond.fieldLink RX2 63 "RoaringIndex$Container" "total" "I", Cond.methodLink RX2 60 yX1_setPlainKind, Cond.instanceMethod yX1_setPlainKind, Cond.selects RX1 yX1_setPlainKind yX1_setPlainKind, Cond.code yX1_setPlainKind cX1_setPlainKind 1 none, Cond.methodLink RX2 66 yX2_leaveOut, Cond.instanceMethod yX2_leaveOut, Cond.selects RX2 yX2_leaveOut yX2_leaveOut, Cond.code yX2_leaveOut cX2_leaveOut 5 none]
def wsX2_becomeAll : List Cond := .code yX2_becomeAll cX2_becomeAll 1 none :: ((wsX2_becomeAll_r1 ++ (wsX2_becomeAll_r2 ++ wsX2_becomeAll_r3)) ++ wsX20 ++ wsX10)
def wsX2_shrinkAll_r1 : List Cond := [Cond.fieldLink RX2 18 "RoaringIndex$NumberSet" "used" "I", Cond.fieldLink RX2 11 "RoaringIndex$NumberSet" "items" "[LRoaringIndex$Container;", Cond.methodLink RX2 78 yX1_setSmallestKind, Cond.instanceMethod yX1_setSmallestKind, Cond.selects RX1 yX1_setSmallestKind yX1_setSmallestKind, Cond.initialized RX1, Cond.code yX1_setSmallestKind cX1_setSmallestKind 2 none, Cond.fieldLink RX1 34 "RoaringIndex$Container" "total" "I", Cond.fieldLink RX1 31 "RoaringIndex$Container" "kind" "I", Cond.methodLink RX1 43 yX1_totalRuns, Cond.instanceMethod yX1_totalRuns, Cond.selects RX1 yX1_totalRuns yX1_totalRuns, Cond.code yX1_totalRuns cX1_totalRuns 7 (some .int), Cond.fieldLink RX1 13 "RoaringIndex$Container" "words" "[J", Cond.constantLong RX1 50 (-1), Cond.methodLink RX1 56 yJ13_bitCount_95d88, Cond.static yJ13_bitCount_95d88, Cond.initialized RJ13, Cond.code yJ13_bitCount_95d88 cJ13_bitCount_95d88 2 (some .int), Cond.constantLong RJ13 314 (6148914691236517205), Cond.constantLong RJ13 316 (3689348814741910323), Cond.constantLong RJ13 318 (1085102592571150095), Cond.methodLink RX1 47 yX1_setPlainKind, Cond.instanceMethod yX1_setPlainKind]
def wsX2_shrinkAll_r2 : List Cond := [Cond.selects RX1 yX1_setPlainKind yX1_setPlainKind, Cond.code yX1_setPlainKind cX1_setPlainKind 1 none]
def wsX2_shrinkAll : List Cond := .code yX2_shrinkAll cX2_shrinkAll 2 none :: ((wsX2_shrinkAll_r1 ++ wsX2_shrinkAll_r2) ++ wsX20 ++ wsX10)
def wsX2_total : List Cond := .code yX2_total cX2_total 3 (some .int) :: ([.fieldLink RX2 18 "RoaringIndex$NumberSet" "used" "I", .fieldLink RX2 11 "RoaringIndex$NumberSet" "items" "[LRoaringIndex$Container;", .fieldLink RX2 63 "RoaringIndex$Container" "total" "I"] ++ wsX20 ++ wsX10)
def wsX2_totalOfKind : List Cond := .code yX2_totalOfKind cX2_totalOfKind 4 (some .int) :: ([.fieldLink RX2 18 "RoaringIndex$NumberSet" "used" "I", .fieldLink RX2 11 "RoaringIndex$NumberSet" "items" "[LRoaringIndex$Container;", .fieldLink RX2 81 "RoaringIndex$Container" "kind" "I"] ++ wsX20 ++ wsX10)
def wsX2_totalUpTo : List Cond := .code yX2_totalUpTo cX2_totalUpTo 5 (some .int) :: ([.fieldLink RX2 18 "RoaringIndex$NumberSet" "used" "I", .fieldLink RX2 11 "RoaringIndex$NumberSet" "items" "[LRoaringIndex$Container;", .fieldLink RX2 26 "RoaringIndex$Container" "key" "I", .fieldLink RX2 63 "RoaringIndex$Container" "total" "I", .methodLink RX2 84 yX1_lowsUpTo, .instanceMethod yX1_lowsUpTo, .selects RX1 yX1_lowsUpTo yX1_lowsUpTo, .initialized RX1, .code yX1_lowsUpTo cX1_lowsUpTo 5 (some .int), .fieldLink RX1 13 "RoaringIndex$Container" "words" "[J", .methodLink RX1 52 yX1_upTo, .static yX1_upTo, .code yX1_upTo cX1_upTo 1 (some .long), .constantLong RX1 50 (-1), .methodLink RX1 56 yJ13_bitCount_95d88, .static yJ13_bitCount_95d88, .initialized RJ13, .code yJ13_bitCount_95d88 cJ13_bitCount_95d88 2 (some .int), .constantLong RJ13 314 (6148914691236517205), .constantLong RJ13 316 (3689348814741910323), .constantLong RJ13 318 (1085102592571150095)] ++ wsX20 ++ wsX10)
def wsX2_numberOf : List Cond := .code yX2_numberOf cX2_numberOf 2 (some .long) :: ([])
def wsX2_numberAt_r1 : List Cond := [Cond.fieldLink RX2 18 "RoaringIndex$NumberSet" "used" "I", Cond.fieldLink RX2 11 "RoaringIndex$NumberSet" "items" "[LRoaringIndex$Container;", Cond.fieldLink RX2 63 "RoaringIndex$Container" "total" "I", Cond.fieldLink RX2 26 "RoaringIndex$Container" "key" "I", Cond.constantLong RX2 94 (-1), Cond.methodLink RX2 87 yX1_lowAt, Cond.instanceMethod yX1_lowAt, Cond.selects RX1 yX1_lowAt yX1_lowAt, Cond.initialized RX1, Cond.code yX1_lowAt cX1_lowAt 8 (some .int), Cond.fieldLink RX1 13 "RoaringIndex$Container" "words" "[J", Cond.methodLink RX1 56 yJ13_bitCount_95d88, Cond.static yJ13_bitCount_95d88, Cond.initialized RJ13, Cond.code yJ13_bitCount_95d88 cJ13_bitCount_95d88 2 (some .int), Cond.constantLong RJ13 314 (6148914691236517205), Cond.constantLong RJ13 316 (3689348814741910323), Cond.constantLong RJ13 318 (1085102592571150095), Cond.methodLink RX1 78 yJ13_numberOfTrailingZeros_95d88, Cond.static yJ13_numberOfTrailingZeros_95d88, Cond.code yJ13_numberOfTrailingZeros_95d88 cJ13_numberOfTrailingZeros_95d88 3 (some .int), Cond.methodLink RJ13 311 yJ6_numberOfTrailingZeros_0f7a4, Cond.static yJ6_numberOfTrailingZeros_0f7a4, Cond.initialized RJ6]
def wsX2_numberAt_r2 : List Cond := [Cond.code yJ6_numberOfTrailingZeros_0f7a4 cJ6_numberOfTrailingZeros_0f7a4 2 (some .int), Cond.constant RJ6 264 (65536), Cond.methodLink RX2 90 yX2_numberOf, Cond.static yX2_numberOf, Cond.initialized RX2, Cond.code yX2_numberOf cX2_numberOf 2 (some .long)]
def wsX2_numberAt : List Cond := .code yX2_numberAt cX2_numberAt 4 (some .long) :: ((wsX2_numberAt_r1 ++ wsX2_numberAt_r2) ++ wsX20 ++ wsX10)
def wsX2_firstFrom_r1 : List Cond := [Cond.fieldLink RX2 18 "RoaringIndex$NumberSet" "used" "I", Cond.fieldLink RX2 11 "RoaringIndex$NumberSet" "items" "[LRoaringIndex$Container;", Cond.fieldLink RX2 26 "RoaringIndex$Container" "key" "I", Cond.constant RX2 29 (65536), Cond.constantLong RX2 94 (-1), Cond.methodLink RX2 30 yX2_indexOf, Cond.instanceMethod yX2_indexOf, Cond.selects RX2 yX2_indexOf yX2_indexOf, Cond.initialized RX2, Cond.code yX2_indexOf cX2_indexOf 3 (some .int), Cond.methodLink RX2 96 yX1_firstIn, Cond.instanceMethod yX1_firstIn, Cond.selects RX1 yX1_firstIn yX1_firstIn, Cond.initialized RX1, Cond.code yX1_firstIn cX1_firstIn 2 (some .int), Cond.methodLink RX1 81 yX1_firstBit, Cond.instanceMethod yX1_firstBit, Cond.selects RX1 yX1_firstBit yX1_firstBit, Cond.code yX1_firstBit cX1_firstBit 8 (some .int), Cond.fieldLink RX1 13 "RoaringIndex$Container" "words" "[J", Cond.constantLong RX1 50 (-1), Cond.constant RX1 85 (65536), Cond.methodLink RX1 78 yJ13_numberOfTrailingZeros_95d88, Cond.static yJ13_numberOfTrailingZeros_95d88]
def wsX2_firstFrom_r2 : List Cond := [Cond.initialized RJ13, Cond.code yJ13_numberOfTrailingZeros_95d88 cJ13_numberOfTrailingZeros_95d88 3 (some .int), Cond.methodLink RJ13 311 yJ6_numberOfTrailingZeros_0f7a4, Cond.static yJ6_numberOfTrailingZeros_0f7a4, Cond.initialized RJ6, Cond.code yJ6_numberOfTrailingZeros_0f7a4 cJ6_numberOfTrailingZeros_0f7a4 2 (some .int), Cond.constant RJ6 264 (65536), Cond.methodLink RX2 90 yX2_numberOf, Cond.static yX2_numberOf, Cond.code yX2_numberOf cX2_numberOf 2 (some .long)]
def wsX2_firstFrom : List Cond := .code yX2_firstFrom cX2_firstFrom 5 (some .long) :: ((wsX2_firstFrom_r1 ++ wsX2_firstFrom_r2) ++ wsX20 ++ wsX10)
def wsX2_isInside : List Cond := .code yX2_isInside cX2_isInside 4 (some .boolean) :: ([.fieldLink RX2 18 "RoaringIndex$NumberSet" "used" "I", .fieldLink RX2 11 "RoaringIndex$NumberSet" "items" "[LRoaringIndex$Container;", .fieldLink RX2 26 "RoaringIndex$Container" "key" "I", .methodLink RX2 41 yX2_find, .instanceMethod yX2_find, .selects RX2 yX2_find yX2_find, .initialized RX2, .code yX2_find cX2_find 3 (some (.object "RoaringIndex$Container")), .methodLink RX2 30 yX2_indexOf, .instanceMethod yX2_indexOf, .selects RX2 yX2_indexOf yX2_indexOf, .code yX2_indexOf cX2_indexOf 3 (some .int), .methodLink RX2 34 yX2_keyAt, .instanceMethod yX2_keyAt, .selects RX2 yX2_keyAt yX2_keyAt, .code yX2_keyAt cX2_keyAt 2 (some .int), .constant RX2 29 (65536), .methodLink RX2 99 yX1_hasNoLowBut, .instanceMethod yX1_hasNoLowBut, .selects RX1 yX1_hasNoLowBut yX1_hasNoLowBut, .initialized RX1, .code yX1_hasNoLowBut cX1_hasNoLowBut 3 (some .boolean), .fieldLink RX1 13 "RoaringIndex$Container" "words" "[J", .constantLong RX1 50 (-1)] ++ wsX20 ++ wsX10)
def wsX2_meets : List Cond := .code yX2_meets cX2_meets 4 (some .boolean) :: ([.fieldLink RX2 18 "RoaringIndex$NumberSet" "used" "I", .fieldLink RX2 11 "RoaringIndex$NumberSet" "items" "[LRoaringIndex$Container;", .fieldLink RX2 26 "RoaringIndex$Container" "key" "I", .methodLink RX2 41 yX2_find, .instanceMethod yX2_find, .selects RX2 yX2_find yX2_find, .initialized RX2, .code yX2_find cX2_find 3 (some (.object "RoaringIndex$Container")), .methodLink RX2 30 yX2_indexOf, .instanceMethod yX2_indexOf, .selects RX2 yX2_indexOf yX2_indexOf, .code yX2_indexOf cX2_indexOf 3 (some .int), .methodLink RX2 34 yX2_keyAt, .instanceMethod yX2_keyAt, .selects RX2 yX2_keyAt yX2_keyAt, .code yX2_keyAt cX2_keyAt 2 (some .int), .constant RX2 29 (65536), .methodLink RX2 103 yX1_hasLowIn, .instanceMethod yX1_hasLowIn, .selects RX1 yX1_hasLowIn yX1_hasLowIn, .initialized RX1, .code yX1_hasLowIn cX1_hasLowIn 3 (some .boolean), .fieldLink RX1 13 "RoaringIndex$Container" "words" "[J"] ++ wsX20 ++ wsX10)
def wsX2_digestSetFrom_r1 : List Cond := [Cond.constantLong RX2 106 (31), Cond.fieldLink RX2 18 "RoaringIndex$NumberSet" "used" "I", Cond.fieldLink RX2 11 "RoaringIndex$NumberSet" "items" "[LRoaringIndex$Container;", Cond.methodLink RX2 108 yX2_total, Cond.instanceMethod yX2_total, Cond.selects RX2 yX2_total yX2_total, Cond.initialized RX2, Cond.code yX2_total cX2_total 3 (some .int), Cond.fieldLink RX2 63 "RoaringIndex$Container" "total" "I", Cond.methodLink RX2 111 yX1_digestFrom, Cond.instanceMethod yX1_digestFrom, Cond.selects RX1 yX1_digestFrom yX1_digestFrom, Cond.initialized RX1, Cond.code yX1_digestFrom cX1_digestFrom 6 (some .long), Cond.constantLong RX1 86 (31), Cond.fieldLink RX1 27 "RoaringIndex$Container" "key" "I", Cond.fieldLink RX1 31 "RoaringIndex$Container" "kind" "I", Cond.fieldLink RX1 34 "RoaringIndex$Container" "total" "I", Cond.fieldLink RX1 13 "RoaringIndex$Container" "words" "[J", Cond.methodLink RX1 43 yX1_totalRuns, Cond.instanceMethod yX1_totalRuns, Cond.selects RX1 yX1_totalRuns yX1_totalRuns, Cond.code yX1_totalRuns cX1_totalRuns 7 (some .int), Cond.constantLong RX1 50 (-1)]
def wsX2_digestSetFrom_r2 : List Cond := [Cond.methodLink RX1 56 yJ13_bitCount_95d88, Cond.static yJ13_bitCount_95d88, Cond.initialized RJ13, Cond.code yJ13_bitCount_95d88 cJ13_bitCount_95d88 2 (some .int), Cond.constantLong RJ13 314 (6148914691236517205), Cond.constantLong RJ13 316 (3689348814741910323), Cond.constantLong RJ13 318 (1085102592571150095)]
def wsX2_digestSetFrom : List Cond := .code yX2_digestSetFrom cX2_digestSetFrom 6 (some .long) :: ((wsX2_digestSetFrom_r1 ++ wsX2_digestSetFrom_r2) ++ wsX20 ++ wsX10)
def wsX3_init : List Cond := .code yX3_init cX3_init 2 none :: ([.methodLink RX3 3 objectInit, .instanceMethod objectInit, .code objectInit ⟨#[0xb1]⟩ 1 none, .classLink RX3 9 RX2, .fieldLink RX3 11 "RoaringIndex$Pile" "levels" "[LRoaringIndex$NumberSet;", .instantiable RX2 2, .initialized RX2, .methodLink RX3 17 yX2_init, .instanceMethod yX2_init, .code yX2_init cX2_init 2 none, .methodLink RX2 3 objectInit, .classLink RX2 9 RX1, .fieldLink RX2 11 "RoaringIndex$NumberSet" "items" "[LRoaringIndex$Container;", .instantiable RX1 4, .initialized RX1, .instanceMethod yX1_init, .code yX1_init cX1_init 1 none, .methodLink RX1 3 objectInit, .fieldLink RX1 13 "RoaringIndex$Container" "words" "[J"] ++ wsX30 ++ wsX20 ++ wsX10)
def wsX3_signAt : List Cond := .code yX3_signAt cX3_signAt 3 (some .int) :: ([])
def wsX3_isJoin : List Cond := .code yX3_isJoin cX3_isJoin 1 (some .boolean) :: ([])
def wsX3_isSound : List Cond := .code yX3_isSound cX3_isSound 6 (some .boolean) :: ([.methodLink RX3 18 yX3_signAt, .static yX3_signAt, .initialized RX3, .code yX3_signAt cX3_signAt 3 (some .int), .methodLink RX3 22 yX3_isJoin, .static yX3_isJoin, .code yX3_isJoin cX3_isJoin 1 (some .boolean)])
def wsX3_joinUpperTwo_r1 : List Cond := [Cond.fieldLink RX3 26 "RoaringIndex$Pile" "depth" "I", Cond.fieldLink RX3 11 "RoaringIndex$Pile" "levels" "[LRoaringIndex$NumberSet;", Cond.methodLink RX3 41 yX2_becomeJoin, Cond.instanceMethod yX2_becomeJoin, Cond.selects RX2 yX2_becomeJoin yX2_becomeJoin, Cond.initialized RX2, Cond.code yX2_becomeJoin cX2_becomeJoin 9 (some .boolean), Cond.fieldLink RX2 18 "RoaringIndex$NumberSet" "used" "I", Cond.constant RX2 29 (65536), Cond.fieldLink RX2 11 "RoaringIndex$NumberSet" "items" "[LRoaringIndex$Container;", Cond.fieldLink RX2 63 "RoaringIndex$Container" "total" "I", Cond.methodLink RX2 34 yX2_keyAt, Cond.instanceMethod yX2_keyAt, Cond.selects RX2 yX2_keyAt yX2_keyAt, Cond.code yX2_keyAt cX2_keyAt 2 (some .int), Cond.fieldLink RX2 26 "RoaringIndex$Container" "key" "I", Cond.methodLink RX2 22 yX1_copyLowsOf, Cond.instanceMethod yX1_copyLowsOf, Cond.selects RX1 yX1_copyLowsOf yX1_copyLowsOf, Cond.initialized RX1, Cond.code yX1_copyLowsOf cX1_copyLowsOf 2 none, Cond.fieldLink RX1 13 "RoaringIndex$Container" "words" "[J", Cond.methodLink RX1 37 arraycopyName, Cond.native arraycopyName]
def wsX3_joinUpperTwo_r2 : List Cond := [Cond.static arraycopyName, Cond.initialized "java/lang/System", Cond.fieldLink RX1 27 "RoaringIndex$Container" "key" "I", Cond.fieldLink RX1 31 "RoaringIndex$Container" "kind" "I", Cond.fieldLink RX1 34 "RoaringIndex$Container" "total" "I", Cond.methodLink RX1 18 yX1_makeRoom, Cond.instanceMethod yX1_makeRoom, Cond.selects RX1 yX1_makeRoom yX1_makeRoom, Cond.code yX1_makeRoom cX1_makeRoom 1 none, Cond.arrayClass .long, Cond.methodLink RX2 69 yX1_becomeMix, Cond.instanceMethod yX1_becomeMix, Cond.selects RX1 yX1_becomeMix yX1_becomeMix, Cond.code yX1_becomeMix cX1_becomeMix 7 none, Cond.methodLink RX1 67 yX1_mix, Cond.static yX1_mix, Cond.code yX1_mix cX1_mix 5 (some .long), Cond.constantLong RX1 50 (-1), Cond.methodLink RX1 56 yJ13_bitCount_95d88, Cond.static yJ13_bitCount_95d88, Cond.initialized RJ13, Cond.code yJ13_bitCount_95d88 cJ13_bitCount_95d88 2 (some .int), Cond.constantLong RJ13 314 (6148914691236517205), Cond.constantLong RJ13 316 (3689348814741910323)]
def wsX3_joinUpperTwo_r3 : List Cond := [Cond.constantLong RJ13 318 (1085102592571150095), Cond.methodLink RX1 71 yX1_hasLowsOf, Cond.instanceMethod yX1_hasLowsOf, Cond.selects RX1 yX1_hasLowsOf yX1_hasLowsOf, Cond.code yX1_hasLowsOf cX1_hasLowsOf 2 (some .boolean), Cond.methodLink RX1 75 yX1_hasNoLowBut, Cond.instanceMethod yX1_hasNoLowBut, Cond.selects RX1 yX1_hasNoLowBut yX1_hasNoLowBut, Cond.code yX1_hasNoLowBut cX1_hasNoLowBut 3 (some .boolean), Cond.methodLink RX1 47 yX1_setPlainKind, Cond.instanceMethod yX1_setPlainKind, Cond.selects RX1 yX1_setPlainKind yX1_setPlainKind, Cond.code yX1_setPlainKind cX1_setPlainKind 1 none, Cond.methodLink RX3 45 yX2_exchange, Cond.instanceMethod yX2_exchange, Cond.selects RX2 yX2_exchange yX2_exchange, Cond.code yX2_exchange cX2_exchange 4 none]
def wsX3_joinUpperTwo : List Cond := .code yX3_joinUpperTwo cX3_joinUpperTwo 3 (some .boolean) :: ((wsX3_joinUpperTwo_r1 ++ (wsX3_joinUpperTwo_r2 ++ wsX3_joinUpperTwo_r3)) ++ wsX30 ++ wsX20 ++ wsX10)
def wsX3_evaluate_r1 : List Cond := [Cond.fieldLink RX3 26 "RoaringIndex$Pile" "depth" "I", Cond.fieldLink RX3 11 "RoaringIndex$Pile" "levels" "[LRoaringIndex$NumberSet;", Cond.methodLink RX3 18 yX3_signAt, Cond.static yX3_signAt, Cond.initialized RX3, Cond.code yX3_signAt cX3_signAt 3 (some .int), Cond.methodLink RX3 22 yX3_isJoin, Cond.static yX3_isJoin, Cond.code yX3_isJoin cX3_isJoin 1 (some .boolean), Cond.methodLink RX3 30 yX3_joinUpperTwo, Cond.instanceMethod yX3_joinUpperTwo, Cond.selects RX3 yX3_joinUpperTwo yX3_joinUpperTwo, Cond.code yX3_joinUpperTwo cX3_joinUpperTwo 3 (some .boolean), Cond.methodLink RX3 41 yX2_becomeJoin, Cond.instanceMethod yX2_becomeJoin, Cond.selects RX2 yX2_becomeJoin yX2_becomeJoin, Cond.initialized RX2, Cond.code yX2_becomeJoin cX2_becomeJoin 9 (some .boolean), Cond.fieldLink RX2 18 "RoaringIndex$NumberSet" "used" "I", Cond.constant RX2 29 (65536), Cond.fieldLink RX2 11 "RoaringIndex$NumberSet" "items" "[LRoaringIndex$Container;", Cond.fieldLink RX2 63 "RoaringIndex$Container" "total" "I", Cond.methodLink RX2 34 yX2_keyAt, Cond.instanceMethod yX2_keyAt]
def wsX3_evaluate_r2 : List Cond := [Cond.selects RX2 yX2_keyAt yX2_keyAt, Cond.code yX2_keyAt cX2_keyAt 2 (some .int), Cond.fieldLink RX2 26 "RoaringIndex$Container" "key" "I", Cond.methodLink RX2 22 yX1_copyLowsOf, Cond.instanceMethod yX1_copyLowsOf, Cond.selects RX1 yX1_copyLowsOf yX1_copyLowsOf, Cond.initialized RX1, Cond.code yX1_copyLowsOf cX1_copyLowsOf 2 none, Cond.fieldLink RX1 13 "RoaringIndex$Container" "words" "[J", Cond.methodLink RX1 37 arraycopyName, Cond.native arraycopyName, Cond.static arraycopyName, Cond.initialized "java/lang/System", Cond.fieldLink RX1 27 "RoaringIndex$Container" "key" "I", Cond.fieldLink RX1 31 "RoaringIndex$Container" "kind" "I", Cond.fieldLink RX1 34 "RoaringIndex$Container" "total" "I", Cond.methodLink RX1 18 yX1_makeRoom, Cond.instanceMethod yX1_makeRoom, Cond.selects RX1 yX1_makeRoom yX1_makeRoom, Cond.code yX1_makeRoom cX1_makeRoom 1 none, Cond.arrayClass .long, Cond.methodLink RX2 69 yX1_becomeMix, Cond.instanceMethod yX1_becomeMix, Cond.selects RX1 yX1_becomeMix yX1_becomeMix]
def wsX3_evaluate_r3 : List Cond := [Cond.code yX1_becomeMix cX1_becomeMix 7 none, Cond.methodLink RX1 67 yX1_mix, Cond.static yX1_mix, Cond.code yX1_mix cX1_mix 5 (some .long), Cond.constantLong RX1 50 (-1), Cond.methodLink RX1 56 yJ13_bitCount_95d88, Cond.static yJ13_bitCount_95d88, Cond.initialized RJ13, Cond.code yJ13_bitCount_95d88 cJ13_bitCount_95d88 2 (some .int), Cond.constantLong RJ13 314 (6148914691236517205), Cond.constantLong RJ13 316 (3689348814741910323), Cond.constantLong RJ13 318 (1085102592571150095), Cond.methodLink RX1 71 yX1_hasLowsOf, Cond.instanceMethod yX1_hasLowsOf, Cond.selects RX1 yX1_hasLowsOf yX1_hasLowsOf, Cond.code yX1_hasLowsOf cX1_hasLowsOf 2 (some .boolean), Cond.methodLink RX1 75 yX1_hasNoLowBut, Cond.instanceMethod yX1_hasNoLowBut, Cond.selects RX1 yX1_hasNoLowBut yX1_hasNoLowBut, Cond.code yX1_hasNoLowBut cX1_hasNoLowBut 3 (some .boolean), Cond.methodLink RX1 47 yX1_setPlainKind, Cond.instanceMethod yX1_setPlainKind, Cond.selects RX1 yX1_setPlainKind yX1_setPlainKind, Cond.code yX1_setPlainKind cX1_setPlainKind 1 none]
def wsX3_evaluate_r4 : List Cond := [Cond.methodLink RX3 45 yX2_exchange, Cond.instanceMethod yX2_exchange, Cond.selects RX2 yX2_exchange yX2_exchange, Cond.code yX2_exchange cX2_exchange 4 none, Cond.methodLink RX3 34 yX2_becomeAll, Cond.instanceMethod yX2_becomeAll, Cond.selects RX2 yX2_becomeAll yX2_becomeAll, Cond.code yX2_becomeAll cX2_becomeAll 1 none, Cond.constant RX2 73 (65535), Cond.methodLink RX2 74 yX2_changeSpan, Cond.instanceMethod yX2_changeSpan, Cond.selects RX2 yX2_changeSpan yX2_changeSpan, Cond.code yX2_changeSpan cX2_changeSpan 6 (some .int), Cond.methodLink RX2 41 yX2_find, Cond.instanceMethod yX2_find, Cond.selects RX2 yX2_find yX2_find, Cond.code yX2_find cX2_find 3 (some (.object "RoaringIndex$Container")), Cond.methodLink RX2 30 yX2_indexOf, Cond.instanceMethod yX2_indexOf, Cond.selects RX2 yX2_indexOf yX2_indexOf, Cond.code yX2_indexOf cX2_indexOf 3 (some .int), Cond.methodLink RX2 45 yX2_findOrMake, Cond.instanceMethod yX2_findOrMake, Cond.selects RX2 yX2_findOrMake yX2_findOrMake]
def wsX3_evaluate_r5 : List Cond := [Cond.code yX2_findOrMake cX2_findOrMake 5 (some (.object "RoaringIndex$Container")), Cond.methodLink RX2 37 yX1_begin, Cond.instanceMethod yX1_begin, Cond.selects RX1 yX1_begin yX1_begin, Cond.code yX1_begin cX1_begin 2 none, Cond.methodLink RX1 21 yJ7_fill_d0a16, Cond.static yJ7_fill_d0a16, Cond.initialized RJ7, Cond.code yJ7_fill_d0a16 cJ7_fill_d0a16 5 none, Cond.methodLink RX2 48 yX1_changeLows, Cond.instanceMethod yX1_changeLows, Cond.selects RX1 yX1_changeLows yX1_changeLows, Cond.code yX1_changeLows cX1_changeLows 14 (some .boolean), Cond.methodLink RX1 52 yX1_upTo, Cond.static yX1_upTo, Cond.code yX1_upTo cX1_upTo 1 (some .long), Cond.methodLink RX2 52 yX2_settle, Cond.instanceMethod yX2_settle, Cond.selects RX2 yX2_settle yX2_settle, Cond.code yX2_settle cX2_settle 3 (some .int), Cond.methodLink RX2 60 yX1_setPlainKind, Cond.methodLink RX2 66 yX2_leaveOut, Cond.instanceMethod yX2_leaveOut, Cond.selects RX2 yX2_leaveOut yX2_leaveOut]
def wsX3_evaluate_r6 : List Cond := [Cond.code yX2_leaveOut cX2_leaveOut 5 none, Cond.methodLink RX3 37 yX2_copyFrom, Cond.instanceMethod yX2_copyFrom, Cond.selects RX2 yX2_copyFrom yX2_copyFrom, Cond.code yX2_copyFrom cX2_copyFrom 3 none]
def wsX3_evaluate : List Cond := .code yX3_evaluate cX3_evaluate 8 (some .boolean) :: ((wsX3_evaluate_r1 ++ (wsX3_evaluate_r2 ++ (wsX3_evaluate_r3 ++ (wsX3_evaluate_r4 ++ (wsX3_evaluate_r5 ++ wsX3_evaluate_r6))))) ++ wsX30 ++ wsX20 ++ wsX10)
def wsX4_init : List Cond := .code yX4_init cX4_init 1 none :: ([.methodLink RX4 3 objectInit, .instanceMethod objectInit, .code objectInit ⟨#[0xb1]⟩ 1 none, .arrayClass .int, .fieldLink RX4 9 "RoaringIndex$Reader" "keys" "[I", .fieldLink RX4 15 "RoaringIndex$Reader" "totals" "[I"] ++ wsX40)
def wsX4_tellFault : List Cond := .code yX4_tellFault cX4_tellFault 3 (some .boolean) :: ([.fieldLink RX4 18 "RoaringIndex$Reader" "faultNumber" "I", .fieldLink RX4 22 "RoaringIndex$Reader" "faultPlace" "I"] ++ wsX40)
def wsX4_isThere : List Cond := .code yX4_isThere cX4_isThere 2 (some .boolean) :: ([.fieldLink RX4 33 "RoaringIndex$Reader" "end" "I", .fieldLink RX4 25 "RoaringIndex$Reader" "place" "I", .methodLink RX4 67 yX4_tellFault, .instanceMethod yX4_tellFault, .selects RX4 yX4_tellFault yX4_tellFault, .initialized RX4, .code yX4_tellFault cX4_tellFault 3 (some .boolean), .fieldLink RX4 18 "RoaringIndex$Reader" "faultNumber" "I", .fieldLink RX4 22 "RoaringIndex$Reader" "faultPlace" "I"] ++ wsX40)
def wsX4_take : List Cond := .code yX4_take cX4_take 5 (some .long) :: ([.fieldLink RX4 25 "RoaringIndex$Reader" "place" "I", .methodLink RX4 71 yX0_numberAt, .instanceMethod yX0_numberAt, .selects RX0 yX0_numberAt yX0_numberAt, .initialized RX0, .code yX0_numberAt cX0_numberAt 6 (some .long), .methodLink RX0 26 yX0_byteAt, .instanceMethod yX0_byteAt, .selects RX0 yX0_byteAt yX0_byteAt, .code yX0_byteAt cX0_byteAt 2 (some .int), .fieldLink RX0 9 "RoaringIndex$ByteRow" "held" "[B"] ++ wsX40 ++ wsX00)
def wsX4_takePlainTotal_r1 : List Cond := [Cond.constantLong RX4 96 (6), Cond.fieldLink RX4 36 "RoaringIndex$Reader" "n" "I", Cond.fieldLink RX4 39 "RoaringIndex$Reader" "plainMark" "Z", Cond.methodLink RX4 75 yX4_isThere, Cond.instanceMethod yX4_isThere, Cond.selects RX4 yX4_isThere yX4_isThere, Cond.initialized RX4, Cond.code yX4_isThere cX4_isThere 2 (some .boolean), Cond.fieldLink RX4 33 "RoaringIndex$Reader" "end" "I", Cond.fieldLink RX4 25 "RoaringIndex$Reader" "place" "I", Cond.methodLink RX4 67 yX4_tellFault, Cond.instanceMethod yX4_tellFault, Cond.selects RX4 yX4_tellFault yX4_tellFault, Cond.code yX4_tellFault cX4_tellFault 3 (some .boolean), Cond.fieldLink RX4 18 "RoaringIndex$Reader" "faultNumber" "I", Cond.fieldLink RX4 22 "RoaringIndex$Reader" "faultPlace" "I", Cond.methodLink RX4 79 yX4_take, Cond.instanceMethod yX4_take, Cond.selects RX4 yX4_take yX4_take, Cond.code yX4_take cX4_take 5 (some .long), Cond.methodLink RX4 71 yX0_numberAt, Cond.instanceMethod yX0_numberAt, Cond.selects RX0 yX0_numberAt yX0_numberAt, Cond.initialized RX0]
def wsX4_takePlainTotal_r2 : List Cond := [Cond.code yX0_numberAt cX0_numberAt 6 (some .long), Cond.methodLink RX0 26 yX0_byteAt, Cond.instanceMethod yX0_byteAt, Cond.selects RX0 yX0_byteAt yX0_byteAt, Cond.code yX0_byteAt cX0_byteAt 2 (some .int), Cond.fieldLink RX0 9 "RoaringIndex$ByteRow" "held" "[B"]
def wsX4_takePlainTotal : List Cond := .code yX4_takePlainTotal cX4_takePlainTotal 4 (some .boolean) :: ((wsX4_takePlainTotal_r1 ++ wsX4_takePlainTotal_r2) ++ wsX40 ++ wsX00)
def wsX4_takeRunBits_r1 : List Cond := [Cond.fieldLink RX4 36 "RoaringIndex$Reader" "n" "I", Cond.fieldLink RX4 43 "RoaringIndex$Reader" "runBits" "I", Cond.fieldLink RX4 25 "RoaringIndex$Reader" "place" "I", Cond.methodLink RX4 67 yX4_tellFault, Cond.instanceMethod yX4_tellFault, Cond.selects RX4 yX4_tellFault yX4_tellFault, Cond.initialized RX4, Cond.code yX4_tellFault cX4_tellFault 3 (some .boolean), Cond.fieldLink RX4 18 "RoaringIndex$Reader" "faultNumber" "I", Cond.fieldLink RX4 22 "RoaringIndex$Reader" "faultPlace" "I", Cond.methodLink RX4 75 yX4_isThere, Cond.instanceMethod yX4_isThere, Cond.selects RX4 yX4_isThere yX4_isThere, Cond.code yX4_isThere cX4_isThere 2 (some .boolean), Cond.fieldLink RX4 33 "RoaringIndex$Reader" "end" "I", Cond.methodLink RX4 79 yX4_take, Cond.instanceMethod yX4_take, Cond.selects RX4 yX4_take yX4_take, Cond.code yX4_take cX4_take 5 (some .long), Cond.methodLink RX4 71 yX0_numberAt, Cond.instanceMethod yX0_numberAt, Cond.selects RX0 yX0_numberAt yX0_numberAt, Cond.initialized RX0, Cond.code yX0_numberAt cX0_numberAt 6 (some .long)]
def wsX4_takeRunBits_r2 : List Cond := [Cond.methodLink RX0 26 yX0_byteAt, Cond.instanceMethod yX0_byteAt, Cond.selects RX0 yX0_byteAt yX0_byteAt, Cond.code yX0_byteAt cX0_byteAt 2 (some .int), Cond.fieldLink RX0 9 "RoaringIndex$ByteRow" "held" "[B"]
def wsX4_takeRunBits : List Cond := .code yX4_takeRunBits cX4_takeRunBits 3 (some .boolean) :: ((wsX4_takeRunBits_r1 ++ wsX4_takeRunBits_r2) ++ wsX40 ++ wsX00)
def wsX4_takeMark_r1 : List Cond := [Cond.constantLong RX4 83 (12346), Cond.constantLong RX4 88 (65535), Cond.constantLong RX4 90 (12347), Cond.methodLink RX4 75 yX4_isThere, Cond.instanceMethod yX4_isThere, Cond.selects RX4 yX4_isThere yX4_isThere, Cond.initialized RX4, Cond.code yX4_isThere cX4_isThere 2 (some .boolean), Cond.fieldLink RX4 33 "RoaringIndex$Reader" "end" "I", Cond.fieldLink RX4 25 "RoaringIndex$Reader" "place" "I", Cond.methodLink RX4 67 yX4_tellFault, Cond.instanceMethod yX4_tellFault, Cond.selects RX4 yX4_tellFault yX4_tellFault, Cond.code yX4_tellFault cX4_tellFault 3 (some .boolean), Cond.fieldLink RX4 18 "RoaringIndex$Reader" "faultNumber" "I", Cond.fieldLink RX4 22 "RoaringIndex$Reader" "faultPlace" "I", Cond.methodLink RX4 79 yX4_take, Cond.instanceMethod yX4_take, Cond.selects RX4 yX4_take yX4_take, Cond.code yX4_take cX4_take 5 (some .long), Cond.methodLink RX4 71 yX0_numberAt, Cond.instanceMethod yX0_numberAt, Cond.selects RX0 yX0_numberAt yX0_numberAt, Cond.initialized RX0]
def wsX4_takeMark_r2 : List Cond := [Cond.code yX0_numberAt cX0_numberAt 6 (some .long), Cond.methodLink RX0 26 yX0_byteAt, Cond.instanceMethod yX0_byteAt, Cond.selects RX0 yX0_byteAt yX0_byteAt, Cond.code yX0_byteAt cX0_byteAt 2 (some .int), Cond.fieldLink RX0 9 "RoaringIndex$ByteRow" "held" "[B", Cond.methodLink RX4 85 yX4_takePlainTotal, Cond.instanceMethod yX4_takePlainTotal, Cond.selects RX4 yX4_takePlainTotal yX4_takePlainTotal, Cond.code yX4_takePlainTotal cX4_takePlainTotal 4 (some .boolean), Cond.constantLong RX4 96 (6), Cond.fieldLink RX4 36 "RoaringIndex$Reader" "n" "I", Cond.fieldLink RX4 39 "RoaringIndex$Reader" "plainMark" "Z", Cond.methodLink RX4 92 yX4_takeRunBits, Cond.instanceMethod yX4_takeRunBits, Cond.selects RX4 yX4_takeRunBits yX4_takeRunBits, Cond.code yX4_takeRunBits cX4_takeRunBits 3 (some .boolean), Cond.fieldLink RX4 43 "RoaringIndex$Reader" "runBits" "I"]
def wsX4_takeMark : List Cond := .code yX4_takeMark cX4_takeMark 4 (some .boolean) :: ((wsX4_takeMark_r1 ++ wsX4_takeMark_r2) ++ wsX40 ++ wsX00)
def wsX4_takeHeads_r1 : List Cond := [Cond.fieldLink RX4 36 "RoaringIndex$Reader" "n" "I", Cond.fieldLink RX4 9 "RoaringIndex$Reader" "keys" "[I", Cond.fieldLink RX4 25 "RoaringIndex$Reader" "place" "I", Cond.fieldLink RX4 15 "RoaringIndex$Reader" "totals" "[I", Cond.methodLink RX4 75 yX4_isThere, Cond.instanceMethod yX4_isThere, Cond.selects RX4 yX4_isThere yX4_isThere, Cond.initialized RX4, Cond.code yX4_isThere cX4_isThere 2 (some .boolean), Cond.fieldLink RX4 33 "RoaringIndex$Reader" "end" "I", Cond.methodLink RX4 67 yX4_tellFault, Cond.instanceMethod yX4_tellFault, Cond.selects RX4 yX4_tellFault yX4_tellFault, Cond.code yX4_tellFault cX4_tellFault 3 (some .boolean), Cond.fieldLink RX4 18 "RoaringIndex$Reader" "faultNumber" "I", Cond.fieldLink RX4 22 "RoaringIndex$Reader" "faultPlace" "I", Cond.methodLink RX4 79 yX4_take, Cond.instanceMethod yX4_take, Cond.selects RX4 yX4_take yX4_take, Cond.code yX4_take cX4_take 5 (some .long), Cond.methodLink RX4 71 yX0_numberAt, Cond.instanceMethod yX0_numberAt, Cond.selects RX0 yX0_numberAt yX0_numberAt, Cond.initialized RX0]
def wsX4_takeHeads_r2 : List Cond := [Cond.code yX0_numberAt cX0_numberAt 6 (some .long), Cond.methodLink RX0 26 yX0_byteAt, Cond.instanceMethod yX0_byteAt, Cond.selects RX0 yX0_byteAt yX0_byteAt, Cond.code yX0_byteAt cX0_byteAt 2 (some .int), Cond.fieldLink RX0 9 "RoaringIndex$ByteRow" "held" "[B"]
def wsX4_takeHeads : List Cond := .code yX4_takeHeads cX4_takeHeads 3 (some .boolean) :: ((wsX4_takeHeads_r1 ++ wsX4_takeHeads_r2) ++ wsX40 ++ wsX00)
def wsX4_takePlaces : List Cond := .code yX4_takePlaces cX4_takePlaces 1 (some .boolean) :: ([.fieldLink RX4 39 "RoaringIndex$Reader" "plainMark" "Z", .fieldLink RX4 36 "RoaringIndex$Reader" "n" "I", .fieldLink RX4 25 "RoaringIndex$Reader" "place" "I", .fieldLink RX4 46 "RoaringIndex$Reader" "placesFrom" "I", .methodLink RX4 75 yX4_isThere, .instanceMethod yX4_isThere, .selects RX4 yX4_isThere yX4_isThere, .initialized RX4, .code yX4_isThere cX4_isThere 2 (some .boolean), .fieldLink RX4 33 "RoaringIndex$Reader" "end" "I", .methodLink RX4 67 yX4_tellFault, .instanceMethod yX4_tellFault, .selects RX4 yX4_tellFault yX4_tellFault, .code yX4_tellFault cX4_tellFault 3 (some .boolean), .fieldLink RX4 18 "RoaringIndex$Reader" "faultNumber" "I", .fieldLink RX4 22 "RoaringIndex$Reader" "faultPlace" "I"] ++ wsX40)
def wsX4_takeRuns_r1 : List Cond := [Cond.constant RX4 138 (65535), Cond.fieldLink RX4 25 "RoaringIndex$Reader" "place" "I", Cond.fieldLink RX4 129 "RoaringIndex$Container" "total" "I", Cond.methodLink RX4 75 yX4_isThere, Cond.instanceMethod yX4_isThere, Cond.selects RX4 yX4_isThere yX4_isThere, Cond.initialized RX4, Cond.code yX4_isThere cX4_isThere 2 (some .boolean), Cond.fieldLink RX4 33 "RoaringIndex$Reader" "end" "I", Cond.methodLink RX4 67 yX4_tellFault, Cond.instanceMethod yX4_tellFault, Cond.selects RX4 yX4_tellFault yX4_tellFault, Cond.code yX4_tellFault cX4_tellFault 3 (some .boolean), Cond.fieldLink RX4 18 "RoaringIndex$Reader" "faultNumber" "I", Cond.fieldLink RX4 22 "RoaringIndex$Reader" "faultPlace" "I", Cond.methodLink RX4 79 yX4_take, Cond.instanceMethod yX4_take, Cond.selects RX4 yX4_take yX4_take, Cond.code yX4_take cX4_take 5 (some .long), Cond.methodLink RX4 71 yX0_numberAt, Cond.instanceMethod yX0_numberAt, Cond.selects RX0 yX0_numberAt yX0_numberAt, Cond.initialized RX0, Cond.code yX0_numberAt cX0_numberAt 6 (some .long)]
def wsX4_takeRuns_r2 : List Cond := [Cond.methodLink RX0 26 yX0_byteAt, Cond.instanceMethod yX0_byteAt, Cond.selects RX0 yX0_byteAt yX0_byteAt, Cond.code yX0_byteAt cX0_byteAt 2 (some .int), Cond.fieldLink RX0 9 "RoaringIndex$ByteRow" "held" "[B", Cond.methodLink RX4 121 yX1_changeLows, Cond.instanceMethod yX1_changeLows, Cond.selects RX1 yX1_changeLows yX1_changeLows, Cond.initialized RX1, Cond.code yX1_changeLows cX1_changeLows 14 (some .boolean), Cond.constantLong RX1 50 (-1), Cond.fieldLink RX1 13 "RoaringIndex$Container" "words" "[J", Cond.fieldLink RX1 34 "RoaringIndex$Container" "total" "I", Cond.methodLink RX1 52 yX1_upTo, Cond.static yX1_upTo, Cond.code yX1_upTo cX1_upTo 1 (some .long), Cond.methodLink RX1 56 yJ13_bitCount_95d88, Cond.static yJ13_bitCount_95d88, Cond.initialized RJ13, Cond.code yJ13_bitCount_95d88 cJ13_bitCount_95d88 2 (some .int), Cond.constantLong RJ13 314 (6148914691236517205), Cond.constantLong RJ13 316 (3689348814741910323), Cond.constantLong RJ13 318 (1085102592571150095)]
def wsX4_takeRuns : List Cond := .code yX4_takeRuns cX4_takeRuns 9 (some .boolean) :: ((wsX4_takeRuns_r1 ++ wsX4_takeRuns_r2) ++ wsX40 ++ wsX10 ++ wsX00)
def wsX4_takeArray_r1 : List Cond := [Cond.fieldLink RX4 25 "RoaringIndex$Reader" "place" "I", Cond.methodLink RX4 75 yX4_isThere, Cond.instanceMethod yX4_isThere, Cond.selects RX4 yX4_isThere yX4_isThere, Cond.initialized RX4, Cond.code yX4_isThere cX4_isThere 2 (some .boolean), Cond.fieldLink RX4 33 "RoaringIndex$Reader" "end" "I", Cond.methodLink RX4 67 yX4_tellFault, Cond.instanceMethod yX4_tellFault, Cond.selects RX4 yX4_tellFault yX4_tellFault, Cond.code yX4_tellFault cX4_tellFault 3 (some .boolean), Cond.fieldLink RX4 18 "RoaringIndex$Reader" "faultNumber" "I", Cond.fieldLink RX4 22 "RoaringIndex$Reader" "faultPlace" "I", Cond.methodLink RX4 79 yX4_take, Cond.instanceMethod yX4_take, Cond.selects RX4 yX4_take yX4_take, Cond.code yX4_take cX4_take 5 (some .long), Cond.methodLink RX4 71 yX0_numberAt, Cond.instanceMethod yX0_numberAt, Cond.selects RX0 yX0_numberAt yX0_numberAt, Cond.initialized RX0, Cond.code yX0_numberAt cX0_numberAt 6 (some .long), Cond.methodLink RX0 26 yX0_byteAt, Cond.instanceMethod yX0_byteAt]
def wsX4_takeArray_r2 : List Cond := [Cond.selects RX0 yX0_byteAt yX0_byteAt, Cond.code yX0_byteAt cX0_byteAt 2 (some .int), Cond.fieldLink RX0 9 "RoaringIndex$ByteRow" "held" "[B", Cond.methodLink RX4 121 yX1_changeLows, Cond.instanceMethod yX1_changeLows, Cond.selects RX1 yX1_changeLows yX1_changeLows, Cond.initialized RX1, Cond.code yX1_changeLows cX1_changeLows 14 (some .boolean), Cond.constantLong RX1 50 (-1), Cond.fieldLink RX1 13 "RoaringIndex$Container" "words" "[J", Cond.fieldLink RX1 34 "RoaringIndex$Container" "total" "I", Cond.methodLink RX1 52 yX1_upTo, Cond.static yX1_upTo, Cond.code yX1_upTo cX1_upTo 1 (some .long), Cond.methodLink RX1 56 yJ13_bitCount_95d88, Cond.static yJ13_bitCount_95d88, Cond.initialized RJ13, Cond.code yJ13_bitCount_95d88 cJ13_bitCount_95d88 2 (some .int), Cond.constantLong RJ13 314 (6148914691236517205), Cond.constantLong RJ13 316 (3689348814741910323), Cond.constantLong RJ13 318 (1085102592571150095)]
def wsX4_takeArray : List Cond := .code yX4_takeArray cX4_takeArray 7 (some .boolean) :: ((wsX4_takeArray_r1 ++ wsX4_takeArray_r2) ++ wsX40 ++ wsX00 ++ wsX10)
def wsX4_takeBitmap_r1 : List Cond := [Cond.fieldLink RX4 125 "RoaringIndex$Container" "words" "[J", Cond.fieldLink RX4 129 "RoaringIndex$Container" "total" "I", Cond.fieldLink RX4 25 "RoaringIndex$Reader" "place" "I", Cond.methodLink RX4 75 yX4_isThere, Cond.instanceMethod yX4_isThere, Cond.selects RX4 yX4_isThere yX4_isThere, Cond.initialized RX4, Cond.code yX4_isThere cX4_isThere 2 (some .boolean), Cond.fieldLink RX4 33 "RoaringIndex$Reader" "end" "I", Cond.methodLink RX4 67 yX4_tellFault, Cond.instanceMethod yX4_tellFault, Cond.selects RX4 yX4_tellFault yX4_tellFault, Cond.code yX4_tellFault cX4_tellFault 3 (some .boolean), Cond.fieldLink RX4 18 "RoaringIndex$Reader" "faultNumber" "I", Cond.fieldLink RX4 22 "RoaringIndex$Reader" "faultPlace" "I", Cond.methodLink RX4 79 yX4_take, Cond.instanceMethod yX4_take, Cond.selects RX4 yX4_take yX4_take, Cond.code yX4_take cX4_take 5 (some .long), Cond.methodLink RX4 71 yX0_numberAt, Cond.instanceMethod yX0_numberAt, Cond.selects RX0 yX0_numberAt yX0_numberAt, Cond.initialized RX0, Cond.code yX0_numberAt cX0_numberAt 6 (some .long)]
def wsX4_takeBitmap_r2 : List Cond := [Cond.methodLink RX0 26 yX0_byteAt, Cond.instanceMethod yX0_byteAt, Cond.selects RX0 yX0_byteAt yX0_byteAt, Cond.code yX0_byteAt cX0_byteAt 2 (some .int), Cond.fieldLink RX0 9 "RoaringIndex$ByteRow" "held" "[B", Cond.methodLink RX4 132 yJ13_bitCount_95d88, Cond.static yJ13_bitCount_95d88, Cond.initialized RJ13, Cond.code yJ13_bitCount_95d88 cJ13_bitCount_95d88 2 (some .int), Cond.constantLong RJ13 314 (6148914691236517205), Cond.constantLong RJ13 316 (3689348814741910323), Cond.constantLong RJ13 318 (1085102592571150095)]
def wsX4_takeBitmap : List Cond := .code yX4_takeBitmap cX4_takeBitmap 5 (some .boolean) :: ((wsX4_takeBitmap_r1 ++ wsX4_takeBitmap_r2) ++ wsX10 ++ wsX40 ++ wsX00)
def wsX4_takeContainer_r1 : List Cond := [Cond.fieldLink RX4 46 "RoaringIndex$Reader" "placesFrom" "I", Cond.fieldLink RX4 25 "RoaringIndex$Reader" "place" "I", Cond.fieldLink RX4 98 "RoaringIndex$NumberSet" "items" "[LRoaringIndex$Container;", Cond.fieldLink RX4 9 "RoaringIndex$Reader" "keys" "[I", Cond.fieldLink RX4 49 "RoaringIndex$NumberSet" "used" "I", Cond.fieldLink RX4 43 "RoaringIndex$Reader" "runBits" "I", Cond.fieldLink RX4 108 "RoaringIndex$Container" "kind" "I", Cond.fieldLink RX4 15 "RoaringIndex$Reader" "totals" "[I", Cond.methodLink RX4 71 yX0_numberAt, Cond.instanceMethod yX0_numberAt, Cond.selects RX0 yX0_numberAt yX0_numberAt, Cond.initialized RX0, Cond.code yX0_numberAt cX0_numberAt 6 (some .long), Cond.methodLink RX0 26 yX0_byteAt, Cond.instanceMethod yX0_byteAt, Cond.selects RX0 yX0_byteAt yX0_byteAt, Cond.code yX0_byteAt cX0_byteAt 2 (some .int), Cond.fieldLink RX0 9 "RoaringIndex$ByteRow" "held" "[B", Cond.methodLink RX4 67 yX4_tellFault, Cond.instanceMethod yX4_tellFault, Cond.selects RX4 yX4_tellFault yX4_tellFault, Cond.initialized RX4, Cond.code yX4_tellFault cX4_tellFault 3 (some .boolean), Cond.fieldLink RX4 18 "RoaringIndex$Reader" "faultNumber" "I"]
def wsX4_takeContainer_r2 : List Cond := [Cond.fieldLink RX4 22 "RoaringIndex$Reader" "faultPlace" "I", Cond.methodLink RX4 102 yX1_begin, Cond.instanceMethod yX1_begin, Cond.selects RX1 yX1_begin yX1_begin, Cond.initialized RX1, Cond.code yX1_begin cX1_begin 2 none, Cond.fieldLink RX1 13 "RoaringIndex$Container" "words" "[J", Cond.fieldLink RX1 27 "RoaringIndex$Container" "key" "I", Cond.fieldLink RX1 31 "RoaringIndex$Container" "kind" "I", Cond.fieldLink RX1 34 "RoaringIndex$Container" "total" "I", Cond.methodLink RX1 18 yX1_makeRoom, Cond.instanceMethod yX1_makeRoom, Cond.selects RX1 yX1_makeRoom yX1_makeRoom, Cond.code yX1_makeRoom cX1_makeRoom 1 none, Cond.arrayClass .long, Cond.methodLink RX1 21 yJ7_fill_d0a16, Cond.static yJ7_fill_d0a16, Cond.initialized RJ7, Cond.code yJ7_fill_d0a16 cJ7_fill_d0a16 5 none, Cond.methodLink RX4 111 yX4_takeRuns, Cond.instanceMethod yX4_takeRuns, Cond.selects RX4 yX4_takeRuns yX4_takeRuns, Cond.code yX4_takeRuns cX4_takeRuns 9 (some .boolean), Cond.constant RX4 138 (65535)]
def wsX4_takeContainer_r3 : List Cond := [Cond.fieldLink RX4 129 "RoaringIndex$Container" "total" "I", Cond.methodLink RX4 75 yX4_isThere, Cond.instanceMethod yX4_isThere, Cond.selects RX4 yX4_isThere yX4_isThere, Cond.code yX4_isThere cX4_isThere 2 (some .boolean), Cond.fieldLink RX4 33 "RoaringIndex$Reader" "end" "I", Cond.methodLink RX4 79 yX4_take, Cond.instanceMethod yX4_take, Cond.selects RX4 yX4_take yX4_take, Cond.code yX4_take cX4_take 5 (some .long), Cond.methodLink RX4 121 yX1_changeLows, Cond.instanceMethod yX1_changeLows, Cond.selects RX1 yX1_changeLows yX1_changeLows, Cond.code yX1_changeLows cX1_changeLows 14 (some .boolean), Cond.constantLong RX1 50 (-1), Cond.methodLink RX1 52 yX1_upTo, Cond.static yX1_upTo, Cond.code yX1_upTo cX1_upTo 1 (some .long), Cond.methodLink RX1 56 yJ13_bitCount_95d88, Cond.static yJ13_bitCount_95d88, Cond.initialized RJ13, Cond.code yJ13_bitCount_95d88 cJ13_bitCount_95d88 2 (some .int), Cond.constantLong RJ13 314 (6148914691236517205), Cond.constantLong RJ13 316 (3689348814741910323)]
def wsX4_takeContainer_r4 : List Cond := [Cond.constantLong RJ13 318 (1085102592571150095), Cond.methodLink RX4 115 yX4_takeArray, Cond.instanceMethod yX4_takeArray, Cond.selects RX4 yX4_takeArray yX4_takeArray, Cond.code yX4_takeArray cX4_takeArray 7 (some .boolean), Cond.methodLink RX4 118 yX4_takeBitmap, Cond.instanceMethod yX4_takeBitmap, Cond.selects RX4 yX4_takeBitmap yX4_takeBitmap, Cond.code yX4_takeBitmap cX4_takeBitmap 5 (some .boolean), Cond.fieldLink RX4 125 "RoaringIndex$Container" "words" "[J", Cond.methodLink RX4 132 yJ13_bitCount_95d88]
def wsX4_takeContainer : List Cond := .code yX4_takeContainer cX4_takeContainer 5 (some .boolean) :: ((wsX4_takeContainer_r1 ++ (wsX4_takeContainer_r2 ++ (wsX4_takeContainer_r3 ++ wsX4_takeContainer_r4))) ++ wsX40 ++ wsX20 ++ wsX10 ++ wsX00)
def wsX4_takeSet_r1 : List Cond := [Cond.fieldLink RX4 18 "RoaringIndex$Reader" "faultNumber" "I", Cond.fieldLink RX4 22 "RoaringIndex$Reader" "faultPlace" "I", Cond.fieldLink RX4 25 "RoaringIndex$Reader" "place" "I", Cond.fieldLink RX4 28 "RoaringIndex$ByteRow" "used" "I", Cond.fieldLink RX4 33 "RoaringIndex$Reader" "end" "I", Cond.fieldLink RX4 36 "RoaringIndex$Reader" "n" "I", Cond.fieldLink RX4 39 "RoaringIndex$Reader" "plainMark" "Z", Cond.fieldLink RX4 43 "RoaringIndex$Reader" "runBits" "I", Cond.fieldLink RX4 46 "RoaringIndex$Reader" "placesFrom" "I", Cond.fieldLink RX4 49 "RoaringIndex$NumberSet" "used" "I", Cond.methodLink RX4 52 yX4_takeMark, Cond.instanceMethod yX4_takeMark, Cond.selects RX4 yX4_takeMark yX4_takeMark, Cond.initialized RX4, Cond.code yX4_takeMark cX4_takeMark 4 (some .boolean), Cond.constantLong RX4 83 (12346), Cond.constantLong RX4 88 (65535), Cond.constantLong RX4 90 (12347), Cond.methodLink RX4 75 yX4_isThere, Cond.instanceMethod yX4_isThere, Cond.selects RX4 yX4_isThere yX4_isThere, Cond.code yX4_isThere cX4_isThere 2 (some .boolean), Cond.methodLink RX4 67 yX4_tellFault, Cond.instanceMethod yX4_tellFault]
def wsX4_takeSet_r2 : List Cond := [Cond.selects RX4 yX4_tellFault yX4_tellFault, Cond.code yX4_tellFault cX4_tellFault 3 (some .boolean), Cond.methodLink RX4 79 yX4_take, Cond.instanceMethod yX4_take, Cond.selects RX4 yX4_take yX4_take, Cond.code yX4_take cX4_take 5 (some .long), Cond.methodLink RX4 71 yX0_numberAt, Cond.instanceMethod yX0_numberAt, Cond.selects RX0 yX0_numberAt yX0_numberAt, Cond.initialized RX0, Cond.code yX0_numberAt cX0_numberAt 6 (some .long), Cond.methodLink RX0 26 yX0_byteAt, Cond.instanceMethod yX0_byteAt, Cond.selects RX0 yX0_byteAt yX0_byteAt, Cond.code yX0_byteAt cX0_byteAt 2 (some .int), Cond.fieldLink RX0 9 "RoaringIndex$ByteRow" "held" "[B", Cond.methodLink RX4 85 yX4_takePlainTotal, Cond.instanceMethod yX4_takePlainTotal, Cond.selects RX4 yX4_takePlainTotal yX4_takePlainTotal, Cond.code yX4_takePlainTotal cX4_takePlainTotal 4 (some .boolean), Cond.constantLong RX4 96 (6), Cond.methodLink RX4 92 yX4_takeRunBits, Cond.instanceMethod yX4_takeRunBits, Cond.selects RX4 yX4_takeRunBits yX4_takeRunBits]
def wsX4_takeSet_r3 : List Cond := [Cond.code yX4_takeRunBits cX4_takeRunBits 3 (some .boolean), Cond.methodLink RX4 56 yX4_takeHeads, Cond.instanceMethod yX4_takeHeads, Cond.selects RX4 yX4_takeHeads yX4_takeHeads, Cond.code yX4_takeHeads cX4_takeHeads 3 (some .boolean), Cond.fieldLink RX4 9 "RoaringIndex$Reader" "keys" "[I", Cond.fieldLink RX4 15 "RoaringIndex$Reader" "totals" "[I", Cond.methodLink RX4 59 yX4_takePlaces, Cond.instanceMethod yX4_takePlaces, Cond.selects RX4 yX4_takePlaces yX4_takePlaces, Cond.code yX4_takePlaces cX4_takePlaces 1 (some .boolean), Cond.methodLink RX4 63 yX4_takeContainer, Cond.instanceMethod yX4_takeContainer, Cond.selects RX4 yX4_takeContainer yX4_takeContainer, Cond.code yX4_takeContainer cX4_takeContainer 5 (some .boolean), Cond.fieldLink RX4 98 "RoaringIndex$NumberSet" "items" "[LRoaringIndex$Container;", Cond.fieldLink RX4 108 "RoaringIndex$Container" "kind" "I", Cond.methodLink RX4 102 yX1_begin, Cond.instanceMethod yX1_begin, Cond.selects RX1 yX1_begin yX1_begin, Cond.initialized RX1, Cond.code yX1_begin cX1_begin 2 none, Cond.fieldLink RX1 13 "RoaringIndex$Container" "words" "[J", Cond.fieldLink RX1 27 "RoaringIndex$Container" "key" "I"]
def wsX4_takeSet_r4 : List Cond := [Cond.fieldLink RX1 31 "RoaringIndex$Container" "kind" "I", Cond.fieldLink RX1 34 "RoaringIndex$Container" "total" "I", Cond.methodLink RX1 18 yX1_makeRoom, Cond.instanceMethod yX1_makeRoom, Cond.selects RX1 yX1_makeRoom yX1_makeRoom, Cond.code yX1_makeRoom cX1_makeRoom 1 none, Cond.arrayClass .long, Cond.methodLink RX1 21 yJ7_fill_d0a16, Cond.static yJ7_fill_d0a16, Cond.initialized RJ7, Cond.code yJ7_fill_d0a16 cJ7_fill_d0a16 5 none, Cond.methodLink RX4 111 yX4_takeRuns, Cond.instanceMethod yX4_takeRuns, Cond.selects RX4 yX4_takeRuns yX4_takeRuns, Cond.code yX4_takeRuns cX4_takeRuns 9 (some .boolean), Cond.constant RX4 138 (65535), Cond.fieldLink RX4 129 "RoaringIndex$Container" "total" "I", Cond.methodLink RX4 121 yX1_changeLows, Cond.instanceMethod yX1_changeLows, Cond.selects RX1 yX1_changeLows yX1_changeLows, Cond.code yX1_changeLows cX1_changeLows 14 (some .boolean), Cond.constantLong RX1 50 (-1), Cond.methodLink RX1 52 yX1_upTo, Cond.static yX1_upTo]
def wsX4_takeSet_r5 : List Cond := [Cond.code yX1_upTo cX1_upTo 1 (some .long), Cond.methodLink RX1 56 yJ13_bitCount_95d88, Cond.static yJ13_bitCount_95d88, Cond.initialized RJ13, Cond.code yJ13_bitCount_95d88 cJ13_bitCount_95d88 2 (some .int), Cond.constantLong RJ13 314 (6148914691236517205), Cond.constantLong RJ13 316 (3689348814741910323), Cond.constantLong RJ13 318 (1085102592571150095), Cond.methodLink RX4 115 yX4_takeArray, Cond.instanceMethod yX4_takeArray, Cond.selects RX4 yX4_takeArray yX4_takeArray, Cond.code yX4_takeArray cX4_takeArray 7 (some .boolean), Cond.methodLink RX4 118 yX4_takeBitmap, Cond.instanceMethod yX4_takeBitmap, Cond.selects RX4 yX4_takeBitmap yX4_takeBitmap, Cond.code yX4_takeBitmap cX4_takeBitmap 5 (some .boolean), Cond.fieldLink RX4 125 "RoaringIndex$Container" "words" "[J", Cond.methodLink RX4 132 yJ13_bitCount_95d88]
def wsX4_takeSet : List Cond := .code yX4_takeSet cX4_takeSet 4 (some .boolean) :: ((wsX4_takeSet_r1 ++ (wsX4_takeSet_r2 ++ (wsX4_takeSet_r3 ++ (wsX4_takeSet_r4 ++ wsX4_takeSet_r5)))) ++ wsX40 ++ wsX00 ++ wsX20 ++ wsX10)
def wsX5_hasRuns : List Cond := .code yX5_hasRuns cX5_hasRuns 1 (some .boolean) :: ([.methodLink RX5 58 yX2_totalOfKind, .instanceMethod yX2_totalOfKind, .selects RX2 yX2_totalOfKind yX2_totalOfKind, .initialized RX2, .code yX2_totalOfKind cX2_totalOfKind 4 (some .int), .fieldLink RX2 18 "RoaringIndex$NumberSet" "used" "I", .fieldLink RX2 11 "RoaringIndex$NumberSet" "items" "[LRoaringIndex$Container;", .fieldLink RX2 81 "RoaringIndex$Container" "kind" "I"] ++ wsX20 ++ wsX10)
def wsX5_hasPlaces : List Cond := .code yX5_hasPlaces cX5_hasPlaces 1 (some .boolean) :: ([.fieldLink RX5 15 "RoaringIndex$NumberSet" "used" "I", .methodLink RX5 62 yX5_hasRuns, .static yX5_hasRuns, .initialized RX5, .code yX5_hasRuns cX5_hasRuns 1 (some .boolean), .methodLink RX5 58 yX2_totalOfKind, .instanceMethod yX2_totalOfKind, .selects RX2 yX2_totalOfKind yX2_totalOfKind, .initialized RX2, .code yX2_totalOfKind cX2_totalOfKind 4 (some .int), .fieldLink RX2 18 "RoaringIndex$NumberSet" "used" "I", .fieldLink RX2 11 "RoaringIndex$NumberSet" "items" "[LRoaringIndex$Container;", .fieldLink RX2 81 "RoaringIndex$Container" "kind" "I"] ++ wsX20 ++ wsX10)
def wsX5_headBytesOf : List Cond := .code yX5_headBytesOf cX5_headBytesOf 2 (some .int) :: ([.fieldLink RX5 15 "RoaringIndex$NumberSet" "used" "I", .methodLink RX5 62 yX5_hasRuns, .static yX5_hasRuns, .initialized RX5, .code yX5_hasRuns cX5_hasRuns 1 (some .boolean), .methodLink RX5 58 yX2_totalOfKind, .instanceMethod yX2_totalOfKind, .selects RX2 yX2_totalOfKind yX2_totalOfKind, .initialized RX2, .code yX2_totalOfKind cX2_totalOfKind 4 (some .int), .fieldLink RX2 18 "RoaringIndex$NumberSet" "used" "I", .fieldLink RX2 11 "RoaringIndex$NumberSet" "items" "[LRoaringIndex$Container;", .fieldLink RX2 81 "RoaringIndex$Container" "kind" "I", .methodLink RX5 47 yX5_hasPlaces, .static yX5_hasPlaces, .code yX5_hasPlaces cX5_hasPlaces 1 (some .boolean)] ++ wsX20 ++ wsX10)
def wsX5_bodyBytesOf : List Cond := .code yX5_bodyBytesOf cX5_bodyBytesOf 1 (some .int) :: ([.fieldLink RX5 65 "RoaringIndex$Container" "kind" "I", .fieldLink RX5 44 "RoaringIndex$Container" "total" "I", .methodLink RX5 68 yX1_totalRuns, .instanceMethod yX1_totalRuns, .selects RX1 yX1_totalRuns yX1_totalRuns, .initialized RX1, .code yX1_totalRuns cX1_totalRuns 7 (some .int), .fieldLink RX1 13 "RoaringIndex$Container" "words" "[J", .constantLong RX1 50 (-1), .methodLink RX1 56 yJ13_bitCount_95d88, .static yJ13_bitCount_95d88, .initialized RJ13, .code yJ13_bitCount_95d88 cJ13_bitCount_95d88 2 (some .int), .constantLong RJ13 314 (6148914691236517205), .constantLong RJ13 316 (3689348814741910323), .constantLong RJ13 318 (1085102592571150095)] ++ wsX10)
def wsX5_bytesOf_r1 : List Cond := [Cond.fieldLink RX5 15 "RoaringIndex$NumberSet" "used" "I", Cond.fieldLink RX5 21 "RoaringIndex$NumberSet" "items" "[LRoaringIndex$Container;", Cond.methodLink RX5 9 yX5_headBytesOf, Cond.static yX5_headBytesOf, Cond.initialized RX5, Cond.code yX5_headBytesOf cX5_headBytesOf 2 (some .int), Cond.methodLink RX5 62 yX5_hasRuns, Cond.static yX5_hasRuns, Cond.code yX5_hasRuns cX5_hasRuns 1 (some .boolean), Cond.methodLink RX5 58 yX2_totalOfKind, Cond.instanceMethod yX2_totalOfKind, Cond.selects RX2 yX2_totalOfKind yX2_totalOfKind, Cond.initialized RX2, Cond.code yX2_totalOfKind cX2_totalOfKind 4 (some .int), Cond.fieldLink RX2 18 "RoaringIndex$NumberSet" "used" "I", Cond.fieldLink RX2 11 "RoaringIndex$NumberSet" "items" "[LRoaringIndex$Container;", Cond.fieldLink RX2 81 "RoaringIndex$Container" "kind" "I", Cond.methodLink RX5 47 yX5_hasPlaces, Cond.static yX5_hasPlaces, Cond.code yX5_hasPlaces cX5_hasPlaces 1 (some .boolean), Cond.methodLink RX5 25 yX5_bodyBytesOf, Cond.static yX5_bodyBytesOf, Cond.code yX5_bodyBytesOf cX5_bodyBytesOf 1 (some .int), Cond.fieldLink RX5 65 "RoaringIndex$Container" "kind" "I"]
def wsX5_bytesOf_r2 : List Cond := [Cond.fieldLink RX5 44 "RoaringIndex$Container" "total" "I", Cond.methodLink RX5 68 yX1_totalRuns, Cond.instanceMethod yX1_totalRuns, Cond.selects RX1 yX1_totalRuns yX1_totalRuns, Cond.initialized RX1, Cond.code yX1_totalRuns cX1_totalRuns 7 (some .int), Cond.fieldLink RX1 13 "RoaringIndex$Container" "words" "[J", Cond.constantLong RX1 50 (-1), Cond.methodLink RX1 56 yJ13_bitCount_95d88, Cond.static yJ13_bitCount_95d88, Cond.initialized RJ13, Cond.code yJ13_bitCount_95d88 cJ13_bitCount_95d88 2 (some .int), Cond.constantLong RJ13 314 (6148914691236517205), Cond.constantLong RJ13 316 (3689348814741910323), Cond.constantLong RJ13 318 (1085102592571150095)]
def wsX5_bytesOf : List Cond := .code yX5_bytesOf cX5_bytesOf 3 (some .int) :: ((wsX5_bytesOf_r1 ++ wsX5_bytesOf_r2) ++ wsX20 ++ wsX10)
def wsX5_putMark_r1 : List Cond := [Cond.constantLong RX5 72 (12346), Cond.fieldLink RX5 15 "RoaringIndex$NumberSet" "used" "I", Cond.fieldLink RX5 21 "RoaringIndex$NumberSet" "items" "[LRoaringIndex$Container;", Cond.fieldLink RX5 65 "RoaringIndex$Container" "kind" "I", Cond.constantLong RX5 74 (12347), Cond.methodLink RX5 62 yX5_hasRuns, Cond.static yX5_hasRuns, Cond.initialized RX5, Cond.code yX5_hasRuns cX5_hasRuns 1 (some .boolean), Cond.methodLink RX5 58 yX2_totalOfKind, Cond.instanceMethod yX2_totalOfKind, Cond.selects RX2 yX2_totalOfKind yX2_totalOfKind, Cond.initialized RX2, Cond.code yX2_totalOfKind cX2_totalOfKind 4 (some .int), Cond.fieldLink RX2 18 "RoaringIndex$NumberSet" "used" "I", Cond.fieldLink RX2 11 "RoaringIndex$NumberSet" "items" "[LRoaringIndex$Container;", Cond.fieldLink RX2 81 "RoaringIndex$Container" "kind" "I", Cond.methodLink RX5 38 yX0_put, Cond.instanceMethod yX0_put, Cond.selects RX0 yX0_put yX0_put, Cond.initialized RX0, Cond.code yX0_put cX0_put 5 none, Cond.fieldLink RX0 15 "RoaringIndex$ByteRow" "used" "I", Cond.fieldLink RX0 9 "RoaringIndex$ByteRow" "held" "[B"]
def wsX5_putMark_r2 : List Cond := [Cond.constant RX0 19 (60000), Cond.methodLink RX0 20 yJ7_copyOf_9075b, Cond.static yJ7_copyOf_9075b, Cond.initialized RJ7, Cond.code yJ7_copyOf_9075b cJ7_copyOf_9075b 3 (some (.array .byte)), Cond.methodLink RJ7 310 ⟨"[B", "clone", "()Ljava/lang/Object;"⟩, Cond.sameMethod "[B" "java/lang/Object" "clone" "()Ljava/lang/Object;", Cond.native ⟨"java/lang/Object", "clone", "()Ljava/lang/Object;"⟩, Cond.instanceMethod ⟨"java/lang/Object", "clone", "()Ljava/lang/Object;"⟩, Cond.selects "[B" ⟨"[B", "clone", "()Ljava/lang/Object;"⟩ ⟨"java/lang/Object", "clone", "()Ljava/lang/Object;"⟩, Cond.classLink RJ7 311 "[B", Cond.arrayClass .byte, Cond.methodLink RJ7 304 Lib.Math.min.name, Cond.static Lib.Math.min.name, Cond.initialized "java/lang/Math", Cond.code Lib.Math.min.name Lib.Math.min.code 2 (some .int), Cond.methodLink RJ7 150 arraycopyName, Cond.native arraycopyName, Cond.static arraycopyName, Cond.initialized "java/lang/System"]
def wsX5_putMark : List Cond := .code yX5_putMark cX5_putMark 5 none :: ((wsX5_putMark_r1 ++ wsX5_putMark_r2) ++ wsX20 ++ wsX10 ++ wsX00)
def wsX5_putPlaces_r1 : List Cond := [Cond.fieldLink RX5 15 "RoaringIndex$NumberSet" "used" "I", Cond.fieldLink RX5 21 "RoaringIndex$NumberSet" "items" "[LRoaringIndex$Container;", Cond.methodLink RX5 9 yX5_headBytesOf, Cond.static yX5_headBytesOf, Cond.initialized RX5, Cond.code yX5_headBytesOf cX5_headBytesOf 2 (some .int), Cond.methodLink RX5 62 yX5_hasRuns, Cond.static yX5_hasRuns, Cond.code yX5_hasRuns cX5_hasRuns 1 (some .boolean), Cond.methodLink RX5 58 yX2_totalOfKind, Cond.instanceMethod yX2_totalOfKind, Cond.selects RX2 yX2_totalOfKind yX2_totalOfKind, Cond.initialized RX2, Cond.code yX2_totalOfKind cX2_totalOfKind 4 (some .int), Cond.fieldLink RX2 18 "RoaringIndex$NumberSet" "used" "I", Cond.fieldLink RX2 11 "RoaringIndex$NumberSet" "items" "[LRoaringIndex$Container;", Cond.fieldLink RX2 81 "RoaringIndex$Container" "kind" "I", Cond.methodLink RX5 47 yX5_hasPlaces, Cond.static yX5_hasPlaces, Cond.code yX5_hasPlaces cX5_hasPlaces 1 (some .boolean), Cond.methodLink RX5 38 yX0_put, Cond.instanceMethod yX0_put, Cond.selects RX0 yX0_put yX0_put, Cond.initialized RX0]
def wsX5_putPlaces_r2 : List Cond := [Cond.code yX0_put cX0_put 5 none, Cond.fieldLink RX0 15 "RoaringIndex$ByteRow" "used" "I", Cond.fieldLink RX0 9 "RoaringIndex$ByteRow" "held" "[B", Cond.constant RX0 19 (60000), Cond.methodLink RX0 20 yJ7_copyOf_9075b, Cond.static yJ7_copyOf_9075b, Cond.initialized RJ7, Cond.code yJ7_copyOf_9075b cJ7_copyOf_9075b 3 (some (.array .byte)), Cond.methodLink RJ7 310 ⟨"[B", "clone", "()Ljava/lang/Object;"⟩, Cond.sameMethod "[B" "java/lang/Object" "clone" "()Ljava/lang/Object;", Cond.native ⟨"java/lang/Object", "clone", "()Ljava/lang/Object;"⟩, Cond.instanceMethod ⟨"java/lang/Object", "clone", "()Ljava/lang/Object;"⟩, Cond.selects "[B" ⟨"[B", "clone", "()Ljava/lang/Object;"⟩ ⟨"java/lang/Object", "clone", "()Ljava/lang/Object;"⟩, Cond.classLink RJ7 311 "[B", Cond.arrayClass .byte, Cond.methodLink RJ7 304 Lib.Math.min.name, Cond.static Lib.Math.min.name, Cond.initialized "java/lang/Math", Cond.code Lib.Math.min.name Lib.Math.min.code 2 (some .int), Cond.methodLink RJ7 150 arraycopyName, Cond.native arraycopyName, Cond.static arraycopyName, Cond.initialized "java/lang/System", Cond.methodLink RX5 25 yX5_bodyBytesOf]
def wsX5_putPlaces_r3 : List Cond := [Cond.static yX5_bodyBytesOf, Cond.code yX5_bodyBytesOf cX5_bodyBytesOf 1 (some .int), Cond.fieldLink RX5 65 "RoaringIndex$Container" "kind" "I", Cond.fieldLink RX5 44 "RoaringIndex$Container" "total" "I", Cond.methodLink RX5 68 yX1_totalRuns, Cond.instanceMethod yX1_totalRuns, Cond.selects RX1 yX1_totalRuns yX1_totalRuns, Cond.initialized RX1, Cond.code yX1_totalRuns cX1_totalRuns 7 (some .int), Cond.fieldLink RX1 13 "RoaringIndex$Container" "words" "[J", Cond.constantLong RX1 50 (-1), Cond.methodLink RX1 56 yJ13_bitCount_95d88, Cond.static yJ13_bitCount_95d88, Cond.initialized RJ13, Cond.code yJ13_bitCount_95d88 cJ13_bitCount_95d88 2 (some .int), Cond.constantLong RJ13 314 (6148914691236517205), Cond.constantLong RJ13 316 (3689348814741910323), Cond.constantLong RJ13 318 (1085102592571150095)]
def wsX5_putPlaces : List Cond := .code yX5_putPlaces cX5_putPlaces 4 none :: ((wsX5_putPlaces_r1 ++ (wsX5_putPlaces_r2 ++ wsX5_putPlaces_r3)) ++ wsX20 ++ wsX10 ++ wsX00)
def wsX5_putArray_r1 : List Cond := [Cond.fieldLink RX5 85 "RoaringIndex$Container" "words" "[J", Cond.methodLink RX5 89 yJ13_bitCount_95d88, Cond.static yJ13_bitCount_95d88, Cond.initialized RJ13, Cond.code yJ13_bitCount_95d88 cJ13_bitCount_95d88 2 (some .int), Cond.constantLong RJ13 314 (6148914691236517205), Cond.constantLong RJ13 316 (3689348814741910323), Cond.constantLong RJ13 318 (1085102592571150095), Cond.methodLink RX5 95 yJ13_numberOfTrailingZeros_95d88, Cond.static yJ13_numberOfTrailingZeros_95d88, Cond.code yJ13_numberOfTrailingZeros_95d88 cJ13_numberOfTrailingZeros_95d88 3 (some .int), Cond.methodLink RJ13 311 yJ6_numberOfTrailingZeros_0f7a4, Cond.static yJ6_numberOfTrailingZeros_0f7a4, Cond.initialized RJ6, Cond.code yJ6_numberOfTrailingZeros_0f7a4 cJ6_numberOfTrailingZeros_0f7a4 2 (some .int), Cond.constant RJ6 264 (65536), Cond.methodLink RX5 38 yX0_put, Cond.instanceMethod yX0_put, Cond.selects RX0 yX0_put yX0_put, Cond.initialized RX0, Cond.code yX0_put cX0_put 5 none, Cond.fieldLink RX0 15 "RoaringIndex$ByteRow" "used" "I", Cond.fieldLink RX0 9 "RoaringIndex$ByteRow" "held" "[B", Cond.constant RX0 19 (60000)]
def wsX5_putArray_r2 : List Cond := [Cond.methodLink RX0 20 yJ7_copyOf_9075b, Cond.static yJ7_copyOf_9075b, Cond.initialized RJ7, Cond.code yJ7_copyOf_9075b cJ7_copyOf_9075b 3 (some (.array .byte)), Cond.methodLink RJ7 310 ⟨"[B", "clone", "()Ljava/lang/Object;"⟩, Cond.sameMethod "[B" "java/lang/Object" "clone" "()Ljava/lang/Object;", Cond.native ⟨"java/lang/Object", "clone", "()Ljava/lang/Object;"⟩, Cond.instanceMethod ⟨"java/lang/Object", "clone", "()Ljava/lang/Object;"⟩, Cond.selects "[B" ⟨"[B", "clone", "()Ljava/lang/Object;"⟩ ⟨"java/lang/Object", "clone", "()Ljava/lang/Object;"⟩, Cond.classLink RJ7 311 "[B", Cond.arrayClass .byte, Cond.methodLink RJ7 304 Lib.Math.min.name, Cond.static Lib.Math.min.name, Cond.initialized "java/lang/Math", Cond.code Lib.Math.min.name Lib.Math.min.code 2 (some .int), Cond.methodLink RJ7 150 arraycopyName, Cond.native arraycopyName, Cond.static arraycopyName, Cond.initialized "java/lang/System"]
def wsX5_putArray : List Cond := .code yX5_putArray cX5_putArray 7 none :: ((wsX5_putArray_r1 ++ wsX5_putArray_r2) ++ wsX10 ++ wsX00)
def wsX5_putBitmap_r1 : List Cond := [Cond.fieldLink RX5 85 "RoaringIndex$Container" "words" "[J", Cond.methodLink RX5 38 yX0_put, Cond.instanceMethod yX0_put, Cond.selects RX0 yX0_put yX0_put, Cond.initialized RX0, Cond.code yX0_put cX0_put 5 none, Cond.fieldLink RX0 15 "RoaringIndex$ByteRow" "used" "I", Cond.fieldLink RX0 9 "RoaringIndex$ByteRow" "held" "[B", Cond.constant RX0 19 (60000), Cond.methodLink RX0 20 yJ7_copyOf_9075b, Cond.static yJ7_copyOf_9075b, Cond.initialized RJ7, Cond.code yJ7_copyOf_9075b cJ7_copyOf_9075b 3 (some (.array .byte)), Cond.methodLink RJ7 310 ⟨"[B", "clone", "()Ljava/lang/Object;"⟩, Cond.sameMethod "[B" "java/lang/Object" "clone" "()Ljava/lang/Object;", Cond.native ⟨"java/lang/Object", "clone", "()Ljava/lang/Object;"⟩, Cond.instanceMethod ⟨"java/lang/Object", "clone", "()Ljava/lang/Object;"⟩, Cond.selects "[B" ⟨"[B", "clone", "()Ljava/lang/Object;"⟩ ⟨"java/lang/Object", "clone", "()Ljava/lang/Object;"⟩, Cond.classLink RJ7 311 "[B", Cond.arrayClass .byte, Cond.methodLink RJ7 304 Lib.Math.min.name, Cond.static Lib.Math.min.name, Cond.initialized "java/lang/Math", Cond.code Lib.Math.min.name Lib.Math.min.code 2 (some .int)]
def wsX5_putBitmap_r2 : List Cond := [Cond.methodLink RJ7 150 arraycopyName, Cond.native arraycopyName, Cond.static arraycopyName, Cond.initialized "java/lang/System"]
def wsX5_putBitmap : List Cond := .code yX5_putBitmap cX5_putBitmap 3 none :: ((wsX5_putBitmap_r1 ++ wsX5_putBitmap_r2) ++ wsX10 ++ wsX00)
def wsX5_putRuns_r1 : List Cond := [Cond.methodLink RX5 68 yX1_totalRuns, Cond.instanceMethod yX1_totalRuns, Cond.selects RX1 yX1_totalRuns yX1_totalRuns, Cond.initialized RX1, Cond.code yX1_totalRuns cX1_totalRuns 7 (some .int), Cond.fieldLink RX1 13 "RoaringIndex$Container" "words" "[J", Cond.constantLong RX1 50 (-1), Cond.methodLink RX1 56 yJ13_bitCount_95d88, Cond.static yJ13_bitCount_95d88, Cond.initialized RJ13, Cond.code yJ13_bitCount_95d88 cJ13_bitCount_95d88 2 (some .int), Cond.constantLong RJ13 314 (6148914691236517205), Cond.constantLong RJ13 316 (3689348814741910323), Cond.constantLong RJ13 318 (1085102592571150095), Cond.methodLink RX5 38 yX0_put, Cond.instanceMethod yX0_put, Cond.selects RX0 yX0_put yX0_put, Cond.initialized RX0, Cond.code yX0_put cX0_put 5 none, Cond.fieldLink RX0 15 "RoaringIndex$ByteRow" "used" "I", Cond.fieldLink RX0 9 "RoaringIndex$ByteRow" "held" "[B", Cond.constant RX0 19 (60000), Cond.methodLink RX0 20 yJ7_copyOf_9075b, Cond.static yJ7_copyOf_9075b]
def wsX5_putRuns_r2 : List Cond := [Cond.initialized RJ7, Cond.code yJ7_copyOf_9075b cJ7_copyOf_9075b 3 (some (.array .byte)), Cond.methodLink RJ7 310 ⟨"[B", "clone", "()Ljava/lang/Object;"⟩, Cond.sameMethod "[B" "java/lang/Object" "clone" "()Ljava/lang/Object;", Cond.native ⟨"java/lang/Object", "clone", "()Ljava/lang/Object;"⟩, Cond.instanceMethod ⟨"java/lang/Object", "clone", "()Ljava/lang/Object;"⟩, Cond.selects "[B" ⟨"[B", "clone", "()Ljava/lang/Object;"⟩ ⟨"java/lang/Object", "clone", "()Ljava/lang/Object;"⟩, Cond.classLink RJ7 311 "[B", Cond.arrayClass .byte, Cond.methodLink RJ7 304 Lib.Math.min.name, Cond.static Lib.Math.min.name, Cond.initialized "java/lang/Math", Cond.code Lib.Math.min.name Lib.Math.min.code 2 (some .int), Cond.methodLink RJ7 150 arraycopyName, Cond.native arraycopyName, Cond.static arraycopyName, Cond.initialized "java/lang/System", Cond.methodLink RX5 98 yX1_firstIn, Cond.instanceMethod yX1_firstIn, Cond.selects RX1 yX1_firstIn yX1_firstIn, Cond.code yX1_firstIn cX1_firstIn 2 (some .int), Cond.methodLink RX1 81 yX1_firstBit, Cond.instanceMethod yX1_firstBit, Cond.selects RX1 yX1_firstBit yX1_firstBit]
def wsX5_putRuns_r3 : List Cond := [Cond.code yX1_firstBit cX1_firstBit 8 (some .int), Cond.constant RX1 85 (65536), Cond.methodLink RX1 78 yJ13_numberOfTrailingZeros_95d88, Cond.static yJ13_numberOfTrailingZeros_95d88, Cond.code yJ13_numberOfTrailingZeros_95d88 cJ13_numberOfTrailingZeros_95d88 3 (some .int), Cond.methodLink RJ13 311 yJ6_numberOfTrailingZeros_0f7a4, Cond.static yJ6_numberOfTrailingZeros_0f7a4, Cond.initialized RJ6, Cond.code yJ6_numberOfTrailingZeros_0f7a4 cJ6_numberOfTrailingZeros_0f7a4 2 (some .int), Cond.constant RJ6 264 (65536), Cond.methodLink RX5 101 yX1_firstOut, Cond.instanceMethod yX1_firstOut, Cond.selects RX1 yX1_firstOut yX1_firstOut, Cond.code yX1_firstOut cX1_firstOut 2 (some .int)]
def wsX5_putRuns : List Cond := .code yX5_putRuns cX5_putRuns 6 none :: ((wsX5_putRuns_r1 ++ (wsX5_putRuns_r2 ++ wsX5_putRuns_r3)) ++ wsX10 ++ wsX00)
def wsX5_putBody_r1 : List Cond := [Cond.fieldLink RX5 65 "RoaringIndex$Container" "kind" "I", Cond.methodLink RX5 76 yX5_putArray, Cond.static yX5_putArray, Cond.initialized RX5, Cond.code yX5_putArray cX5_putArray 7 none, Cond.fieldLink RX5 85 "RoaringIndex$Container" "words" "[J", Cond.methodLink RX5 89 yJ13_bitCount_95d88, Cond.static yJ13_bitCount_95d88, Cond.initialized RJ13, Cond.code yJ13_bitCount_95d88 cJ13_bitCount_95d88 2 (some .int), Cond.constantLong RJ13 314 (6148914691236517205), Cond.constantLong RJ13 316 (3689348814741910323), Cond.constantLong RJ13 318 (1085102592571150095), Cond.methodLink RX5 95 yJ13_numberOfTrailingZeros_95d88, Cond.static yJ13_numberOfTrailingZeros_95d88, Cond.code yJ13_numberOfTrailingZeros_95d88 cJ13_numberOfTrailingZeros_95d88 3 (some .int), Cond.methodLink RJ13 311 yJ6_numberOfTrailingZeros_0f7a4, Cond.static yJ6_numberOfTrailingZeros_0f7a4, Cond.initialized RJ6, Cond.code yJ6_numberOfTrailingZeros_0f7a4 cJ6_numberOfTrailingZeros_0f7a4 2 (some .int), Cond.constant RJ6 264 (65536), Cond.methodLink RX5 38 yX0_put, Cond.instanceMethod yX0_put, Cond.selects RX0 yX0_put yX0_put]
def wsX5_putBody_r2 : List Cond := [Cond.initialized RX0, Cond.code yX0_put cX0_put 5 none, Cond.fieldLink RX0 15 "RoaringIndex$ByteRow" "used" "I", Cond.fieldLink RX0 9 "RoaringIndex$ByteRow" "held" "[B", Cond.constant RX0 19 (60000), Cond.methodLink RX0 20 yJ7_copyOf_9075b, Cond.static yJ7_copyOf_9075b, Cond.initialized RJ7, Cond.code yJ7_copyOf_9075b cJ7_copyOf_9075b 3 (some (.array .byte)), Cond.methodLink RJ7 310 ⟨"[B", "clone", "()Ljava/lang/Object;"⟩, Cond.sameMethod "[B" "java/lang/Object" "clone" "()Ljava/lang/Object;", Cond.native ⟨"java/lang/Object", "clone", "()Ljava/lang/Object;"⟩, Cond.instanceMethod ⟨"java/lang/Object", "clone", "()Ljava/lang/Object;"⟩, Cond.selects "[B" ⟨"[B", "clone", "()Ljava/lang/Object;"⟩ ⟨"java/lang/Object", "clone", "()Ljava/lang/Object;"⟩, Cond.classLink RJ7 311 "[B", Cond.arrayClass .byte, Cond.methodLink RJ7 304 Lib.Math.min.name, Cond.static Lib.Math.min.name, Cond.initialized "java/lang/Math", Cond.code Lib.Math.min.name Lib.Math.min.code 2 (some .int), Cond.methodLink RJ7 150 arraycopyName, Cond.native arraycopyName, Cond.static arraycopyName, Cond.initialized "java/lang/System"]
def wsX5_putBody_r3 : List Cond := [Cond.methodLink RX5 79 yX5_putBitmap, Cond.static yX5_putBitmap, Cond.code yX5_putBitmap cX5_putBitmap 3 none, Cond.methodLink RX5 82 yX5_putRuns, Cond.static yX5_putRuns, Cond.code yX5_putRuns cX5_putRuns 6 none, Cond.methodLink RX5 68 yX1_totalRuns, Cond.instanceMethod yX1_totalRuns, Cond.selects RX1 yX1_totalRuns yX1_totalRuns, Cond.initialized RX1, Cond.code yX1_totalRuns cX1_totalRuns 7 (some .int), Cond.fieldLink RX1 13 "RoaringIndex$Container" "words" "[J", Cond.constantLong RX1 50 (-1), Cond.methodLink RX1 56 yJ13_bitCount_95d88, Cond.methodLink RX5 98 yX1_firstIn, Cond.instanceMethod yX1_firstIn, Cond.selects RX1 yX1_firstIn yX1_firstIn, Cond.code yX1_firstIn cX1_firstIn 2 (some .int), Cond.methodLink RX1 81 yX1_firstBit, Cond.instanceMethod yX1_firstBit, Cond.selects RX1 yX1_firstBit yX1_firstBit, Cond.code yX1_firstBit cX1_firstBit 8 (some .int), Cond.constant RX1 85 (65536), Cond.methodLink RX1 78 yJ13_numberOfTrailingZeros_95d88]
def wsX5_putBody_r4 : List Cond := [Cond.methodLink RX5 101 yX1_firstOut, Cond.instanceMethod yX1_firstOut, Cond.selects RX1 yX1_firstOut yX1_firstOut, Cond.code yX1_firstOut cX1_firstOut 2 (some .int)]
def wsX5_putBody : List Cond := .code yX5_putBody cX5_putBody 2 none :: ((wsX5_putBody_r1 ++ (wsX5_putBody_r2 ++ (wsX5_putBody_r3 ++ wsX5_putBody_r4))) ++ wsX10 ++ wsX00)
def wsX5_putSet_r1 : List Cond := [Cond.fieldLink RX5 15 "RoaringIndex$NumberSet" "used" "I", Cond.fieldLink RX5 21 "RoaringIndex$NumberSet" "items" "[LRoaringIndex$Container;", Cond.fieldLink RX5 33 "RoaringIndex$Container" "key" "I", Cond.fieldLink RX5 44 "RoaringIndex$Container" "total" "I", Cond.methodLink RX5 29 yX5_putMark, Cond.static yX5_putMark, Cond.initialized RX5, Cond.code yX5_putMark cX5_putMark 5 none, Cond.constantLong RX5 72 (12346), Cond.fieldLink RX5 65 "RoaringIndex$Container" "kind" "I", Cond.constantLong RX5 74 (12347), Cond.methodLink RX5 62 yX5_hasRuns, Cond.static yX5_hasRuns, Cond.code yX5_hasRuns cX5_hasRuns 1 (some .boolean), Cond.methodLink RX5 58 yX2_totalOfKind, Cond.instanceMethod yX2_totalOfKind, Cond.selects RX2 yX2_totalOfKind yX2_totalOfKind, Cond.initialized RX2, Cond.code yX2_totalOfKind cX2_totalOfKind 4 (some .int), Cond.fieldLink RX2 18 "RoaringIndex$NumberSet" "used" "I", Cond.fieldLink RX2 11 "RoaringIndex$NumberSet" "items" "[LRoaringIndex$Container;", Cond.fieldLink RX2 81 "RoaringIndex$Container" "kind" "I", Cond.methodLink RX5 38 yX0_put, Cond.instanceMethod yX0_put]
def wsX5_putSet_r2 : List Cond := [Cond.selects RX0 yX0_put yX0_put, Cond.initialized RX0, Cond.code yX0_put cX0_put 5 none, Cond.fieldLink RX0 15 "RoaringIndex$ByteRow" "used" "I", Cond.fieldLink RX0 9 "RoaringIndex$ByteRow" "held" "[B", Cond.constant RX0 19 (60000), Cond.methodLink RX0 20 yJ7_copyOf_9075b, Cond.static yJ7_copyOf_9075b, Cond.initialized RJ7, Cond.code yJ7_copyOf_9075b cJ7_copyOf_9075b 3 (some (.array .byte)), Cond.methodLink RJ7 310 ⟨"[B", "clone", "()Ljava/lang/Object;"⟩, Cond.sameMethod "[B" "java/lang/Object" "clone" "()Ljava/lang/Object;", Cond.native ⟨"java/lang/Object", "clone", "()Ljava/lang/Object;"⟩, Cond.instanceMethod ⟨"java/lang/Object", "clone", "()Ljava/lang/Object;"⟩, Cond.selects "[B" ⟨"[B", "clone", "()Ljava/lang/Object;"⟩ ⟨"java/lang/Object", "clone", "()Ljava/lang/Object;"⟩, Cond.classLink RJ7 311 "[B", Cond.arrayClass .byte, Cond.methodLink RJ7 304 Lib.Math.min.name, Cond.static Lib.Math.min.name, Cond.initialized "java/lang/Math", Cond.code Lib.Math.min.name Lib.Math.min.code 2 (some .int), Cond.methodLink RJ7 150 arraycopyName, Cond.native arraycopyName, Cond.static arraycopyName]
def wsX5_putSet_r3 : List Cond := [Cond.initialized "java/lang/System", Cond.methodLink RX5 47 yX5_hasPlaces, Cond.static yX5_hasPlaces, Cond.code yX5_hasPlaces cX5_hasPlaces 1 (some .boolean), Cond.methodLink RX5 51 yX5_putPlaces, Cond.static yX5_putPlaces, Cond.code yX5_putPlaces cX5_putPlaces 4 none, Cond.methodLink RX5 9 yX5_headBytesOf, Cond.static yX5_headBytesOf, Cond.code yX5_headBytesOf cX5_headBytesOf 2 (some .int), Cond.methodLink RX5 25 yX5_bodyBytesOf, Cond.static yX5_bodyBytesOf, Cond.code yX5_bodyBytesOf cX5_bodyBytesOf 1 (some .int), Cond.methodLink RX5 68 yX1_totalRuns, Cond.instanceMethod yX1_totalRuns, Cond.selects RX1 yX1_totalRuns yX1_totalRuns, Cond.initialized RX1, Cond.code yX1_totalRuns cX1_totalRuns 7 (some .int), Cond.fieldLink RX1 13 "RoaringIndex$Container" "words" "[J", Cond.constantLong RX1 50 (-1), Cond.methodLink RX1 56 yJ13_bitCount_95d88, Cond.static yJ13_bitCount_95d88, Cond.initialized RJ13, Cond.code yJ13_bitCount_95d88 cJ13_bitCount_95d88 2 (some .int)]
def wsX5_putSet_r4 : List Cond := [Cond.constantLong RJ13 314 (6148914691236517205), Cond.constantLong RJ13 316 (3689348814741910323), Cond.constantLong RJ13 318 (1085102592571150095), Cond.methodLink RX5 54 yX5_putBody, Cond.static yX5_putBody, Cond.code yX5_putBody cX5_putBody 2 none, Cond.methodLink RX5 76 yX5_putArray, Cond.static yX5_putArray, Cond.code yX5_putArray cX5_putArray 7 none, Cond.fieldLink RX5 85 "RoaringIndex$Container" "words" "[J", Cond.methodLink RX5 89 yJ13_bitCount_95d88, Cond.methodLink RX5 95 yJ13_numberOfTrailingZeros_95d88, Cond.static yJ13_numberOfTrailingZeros_95d88, Cond.code yJ13_numberOfTrailingZeros_95d88 cJ13_numberOfTrailingZeros_95d88 3 (some .int), Cond.methodLink RJ13 311 yJ6_numberOfTrailingZeros_0f7a4, Cond.static yJ6_numberOfTrailingZeros_0f7a4, Cond.initialized RJ6, Cond.code yJ6_numberOfTrailingZeros_0f7a4 cJ6_numberOfTrailingZeros_0f7a4 2 (some .int), Cond.constant RJ6 264 (65536), Cond.methodLink RX5 79 yX5_putBitmap, Cond.static yX5_putBitmap, Cond.code yX5_putBitmap cX5_putBitmap 3 none, Cond.methodLink RX5 82 yX5_putRuns, Cond.static yX5_putRuns]
def wsX5_putSet_r5 : List Cond := [Cond.code yX5_putRuns cX5_putRuns 6 none, Cond.methodLink RX5 98 yX1_firstIn, Cond.instanceMethod yX1_firstIn, Cond.selects RX1 yX1_firstIn yX1_firstIn, Cond.code yX1_firstIn cX1_firstIn 2 (some .int), Cond.methodLink RX1 81 yX1_firstBit, Cond.instanceMethod yX1_firstBit, Cond.selects RX1 yX1_firstBit yX1_firstBit, Cond.code yX1_firstBit cX1_firstBit 8 (some .int), Cond.constant RX1 85 (65536), Cond.methodLink RX1 78 yJ13_numberOfTrailingZeros_95d88, Cond.methodLink RX5 101 yX1_firstOut, Cond.instanceMethod yX1_firstOut, Cond.selects RX1 yX1_firstOut yX1_firstOut, Cond.code yX1_firstOut cX1_firstOut 2 (some .int)]
def wsX5_putSet : List Cond := .code yX5_putSet cX5_putSet 3 none :: ((wsX5_putSet_r1 ++ (wsX5_putSet_r2 ++ (wsX5_putSet_r3 ++ (wsX5_putSet_r4 ++ wsX5_putSet_r5)))) ++ wsX20 ++ wsX10 ++ wsX00)
def wsX6_init_r1 : List Cond := [Cond.methodLink RX6 1 objectInit, Cond.instanceMethod objectInit, Cond.code objectInit ⟨#[0xb1]⟩ 1 none, Cond.classLink RX6 9 RX2, Cond.fieldLink RX6 11 "RoaringIndex" "sets" "[LRoaringIndex$NumberSet;", Cond.instantiable RX2 2, Cond.initialized RX2, Cond.fieldLink RX6 16 "RoaringIndex" "spare" "LRoaringIndex$NumberSet;", Cond.classLink RX6 20 RX3, Cond.instantiable RX3 2, Cond.initialized RX3, Cond.fieldLink RX6 23 "RoaringIndex" "pile" "LRoaringIndex$Pile;", Cond.classLink RX6 27 RX0, Cond.instantiable RX0 2, Cond.initialized RX0, Cond.fieldLink RX6 30 "RoaringIndex" "bytes" "LRoaringIndex$ByteRow;", Cond.classLink RX6 34 RX4, Cond.instantiable RX4 10, Cond.initialized RX4, Cond.fieldLink RX6 37 "RoaringIndex" "reader" "LRoaringIndex$Reader;", Cond.fieldLink RX6 41 "RoaringIndex" "workLeft" "I", Cond.methodLink RX6 15 yX2_init, Cond.instanceMethod yX2_init, Cond.code yX2_init cX2_init 2 none]
def wsX6_init_r2 : List Cond := [Cond.methodLink RX2 3 objectInit, Cond.classLink RX2 9 RX1, Cond.fieldLink RX2 11 "RoaringIndex$NumberSet" "items" "[LRoaringIndex$Container;", Cond.instantiable RX1 4, Cond.initialized RX1, Cond.instanceMethod yX1_init, Cond.code yX1_init cX1_init 1 none, Cond.methodLink RX1 3 objectInit, Cond.fieldLink RX1 13 "RoaringIndex$Container" "words" "[J", Cond.methodLink RX6 22 yX3_init, Cond.instanceMethod yX3_init, Cond.code yX3_init cX3_init 2 none, Cond.methodLink RX3 3 objectInit, Cond.classLink RX3 9 RX2, Cond.fieldLink RX3 11 "RoaringIndex$Pile" "levels" "[LRoaringIndex$NumberSet;", Cond.methodLink RX3 17 yX2_init, Cond.instanceMethod yX0_init, Cond.code yX0_init cX0_init 1 none, Cond.methodLink RX0 3 objectInit, Cond.arrayClass .byte, Cond.fieldLink RX0 9 "RoaringIndex$ByteRow" "held" "[B", Cond.instanceMethod yX4_init, Cond.code yX4_init cX4_init 1 none, Cond.methodLink RX4 3 objectInit]
def wsX6_init_r3 : List Cond := [Cond.arrayClass .int, Cond.fieldLink RX4 9 "RoaringIndex$Reader" "keys" "[I", Cond.fieldLink RX4 15 "RoaringIndex$Reader" "totals" "[I"]
def wsX6_init : List Cond := .code yX6_init cX6_init 2 none :: ((wsX6_init_r1 ++ (wsX6_init_r2 ++ wsX6_init_r3)) ++ wsX60 ++ wsX20 ++ wsX30 ++ wsX00 ++ wsX40 ++ wsX10)
def wsX6_isNoSet : List Cond := .code yX6_isNoSet cX6_isNoSet 1 (some .boolean) :: ([])
def wsX6_keyOf : List Cond := .code yX6_keyOf cX6_keyOf 1 (some .int) :: ([])
def wsX6_lowOf : List Cond := .code yX6_lowOf cX6_lowOf 1 (some .int) :: ([.constant RX6 189 (65535)])
def wsX6_add_r1 : List Cond := [Cond.fieldLink RX6 11 "RoaringIndex" "sets" "[LRoaringIndex$NumberSet;", Cond.methodLink RX6 45 yX6_isNoSet, Cond.static yX6_isNoSet, Cond.initialized RX6, Cond.code yX6_isNoSet cX6_isNoSet 1 (some .boolean), Cond.methodLink RX6 49 yX6_keyOf, Cond.static yX6_keyOf, Cond.code yX6_keyOf cX6_keyOf 1 (some .int), Cond.methodLink RX6 53 yX6_lowOf, Cond.static yX6_lowOf, Cond.code yX6_lowOf cX6_lowOf 1 (some .int), Cond.constant RX6 189 (65535), Cond.methodLink RX6 56 yX2_changeSpan, Cond.instanceMethod yX2_changeSpan, Cond.selects RX2 yX2_changeSpan yX2_changeSpan, Cond.initialized RX2, Cond.code yX2_changeSpan cX2_changeSpan 6 (some .int), Cond.methodLink RX2 41 yX2_find, Cond.instanceMethod yX2_find, Cond.selects RX2 yX2_find yX2_find, Cond.code yX2_find cX2_find 3 (some (.object "RoaringIndex$Container")), Cond.fieldLink RX2 11 "RoaringIndex$NumberSet" "items" "[LRoaringIndex$Container;", Cond.methodLink RX2 30 yX2_indexOf, Cond.instanceMethod yX2_indexOf]
def wsX6_add_r2 : List Cond := [Cond.selects RX2 yX2_indexOf yX2_indexOf, Cond.code yX2_indexOf cX2_indexOf 3 (some .int), Cond.fieldLink RX2 18 "RoaringIndex$NumberSet" "used" "I", Cond.fieldLink RX2 26 "RoaringIndex$Container" "key" "I", Cond.methodLink RX2 34 yX2_keyAt, Cond.instanceMethod yX2_keyAt, Cond.selects RX2 yX2_keyAt yX2_keyAt, Cond.code yX2_keyAt cX2_keyAt 2 (some .int), Cond.constant RX2 29 (65536), Cond.methodLink RX2 45 yX2_findOrMake, Cond.instanceMethod yX2_findOrMake, Cond.selects RX2 yX2_findOrMake yX2_findOrMake, Cond.code yX2_findOrMake cX2_findOrMake 5 (some (.object "RoaringIndex$Container")), Cond.methodLink RX2 37 yX1_begin, Cond.instanceMethod yX1_begin, Cond.selects RX1 yX1_begin yX1_begin, Cond.initialized RX1, Cond.code yX1_begin cX1_begin 2 none, Cond.fieldLink RX1 13 "RoaringIndex$Container" "words" "[J", Cond.fieldLink RX1 27 "RoaringIndex$Container" "key" "I", Cond.fieldLink RX1 31 "RoaringIndex$Container" "kind" "I", Cond.fieldLink RX1 34 "RoaringIndex$Container" "total" "I", Cond.methodLink RX1 18 yX1_makeRoom, Cond.instanceMethod yX1_makeRoom]
def wsX6_add_r3 : List Cond := [Cond.selects RX1 yX1_makeRoom yX1_makeRoom, Cond.code yX1_makeRoom cX1_makeRoom 1 none, Cond.arrayClass .long, Cond.methodLink RX1 21 yJ7_fill_d0a16, Cond.static yJ7_fill_d0a16, Cond.initialized RJ7, Cond.code yJ7_fill_d0a16 cJ7_fill_d0a16 5 none, Cond.methodLink RX2 48 yX1_changeLows, Cond.instanceMethod yX1_changeLows, Cond.selects RX1 yX1_changeLows yX1_changeLows, Cond.code yX1_changeLows cX1_changeLows 14 (some .boolean), Cond.constantLong RX1 50 (-1), Cond.methodLink RX1 52 yX1_upTo, Cond.static yX1_upTo, Cond.code yX1_upTo cX1_upTo 1 (some .long), Cond.methodLink RX1 56 yJ13_bitCount_95d88, Cond.static yJ13_bitCount_95d88, Cond.initialized RJ13, Cond.code yJ13_bitCount_95d88 cJ13_bitCount_95d88 2 (some .int), Cond.constantLong RJ13 314 (6148914691236517205), Cond.constantLong RJ13 316 (3689348814741910323), Cond.constantLong RJ13 318 (1085102592571150095), Cond.methodLink RX2 52 yX2_settle, Cond.instanceMethod yX2_settle]
def wsX6_add_r4 : List Cond := [Cond.selects RX2 yX2_settle yX2_settle, Cond.code yX2_settle cX2_settle 3 (some .int), Cond.fieldLink RX2 63 "RoaringIndex$Container" "total" "I", Cond.methodLink RX2 60 yX1_setPlainKind, Cond.instanceMethod yX1_setPlainKind, Cond.selects RX1 yX1_setPlainKind yX1_setPlainKind, Cond.code yX1_setPlainKind cX1_setPlainKind 1 none, Cond.methodLink RX2 66 yX2_leaveOut, Cond.instanceMethod yX2_leaveOut, Cond.selects RX2 yX2_leaveOut yX2_leaveOut, Cond.code yX2_leaveOut cX2_leaveOut 5 none]
def wsX6_add : List Cond := .code yX6_add cX6_add 3 (some .int) :: ((wsX6_add_r1 ++ (wsX6_add_r2 ++ (wsX6_add_r3 ++ wsX6_add_r4))) ++ wsX60 ++ wsX20 ++ wsX10)
def wsX6_remove_r1 : List Cond := [Cond.fieldLink RX6 11 "RoaringIndex" "sets" "[LRoaringIndex$NumberSet;", Cond.methodLink RX6 45 yX6_isNoSet, Cond.static yX6_isNoSet, Cond.initialized RX6, Cond.code yX6_isNoSet cX6_isNoSet 1 (some .boolean), Cond.methodLink RX6 49 yX6_keyOf, Cond.static yX6_keyOf, Cond.code yX6_keyOf cX6_keyOf 1 (some .int), Cond.methodLink RX6 53 yX6_lowOf, Cond.static yX6_lowOf, Cond.code yX6_lowOf cX6_lowOf 1 (some .int), Cond.constant RX6 189 (65535), Cond.methodLink RX6 56 yX2_changeSpan, Cond.instanceMethod yX2_changeSpan, Cond.selects RX2 yX2_changeSpan yX2_changeSpan, Cond.initialized RX2, Cond.code yX2_changeSpan cX2_changeSpan 6 (some .int), Cond.methodLink RX2 41 yX2_find, Cond.instanceMethod yX2_find, Cond.selects RX2 yX2_find yX2_find, Cond.code yX2_find cX2_find 3 (some (.object "RoaringIndex$Container")), Cond.fieldLink RX2 11 "RoaringIndex$NumberSet" "items" "[LRoaringIndex$Container;", Cond.methodLink RX2 30 yX2_indexOf, Cond.instanceMethod yX2_indexOf]
def wsX6_remove_r2 : List Cond := [Cond.selects RX2 yX2_indexOf yX2_indexOf, Cond.code yX2_indexOf cX2_indexOf 3 (some .int), Cond.fieldLink RX2 18 "RoaringIndex$NumberSet" "used" "I", Cond.fieldLink RX2 26 "RoaringIndex$Container" "key" "I", Cond.methodLink RX2 34 yX2_keyAt, Cond.instanceMethod yX2_keyAt, Cond.selects RX2 yX2_keyAt yX2_keyAt, Cond.code yX2_keyAt cX2_keyAt 2 (some .int), Cond.constant RX2 29 (65536), Cond.methodLink RX2 45 yX2_findOrMake, Cond.instanceMethod yX2_findOrMake, Cond.selects RX2 yX2_findOrMake yX2_findOrMake, Cond.code yX2_findOrMake cX2_findOrMake 5 (some (.object "RoaringIndex$Container")), Cond.methodLink RX2 37 yX1_begin, Cond.instanceMethod yX1_begin, Cond.selects RX1 yX1_begin yX1_begin, Cond.initialized RX1, Cond.code yX1_begin cX1_begin 2 none, Cond.fieldLink RX1 13 "RoaringIndex$Container" "words" "[J", Cond.fieldLink RX1 27 "RoaringIndex$Container" "key" "I", Cond.fieldLink RX1 31 "RoaringIndex$Container" "kind" "I", Cond.fieldLink RX1 34 "RoaringIndex$Container" "total" "I", Cond.methodLink RX1 18 yX1_makeRoom, Cond.instanceMethod yX1_makeRoom]
def wsX6_remove_r3 : List Cond := [Cond.selects RX1 yX1_makeRoom yX1_makeRoom, Cond.code yX1_makeRoom cX1_makeRoom 1 none, Cond.arrayClass .long, Cond.methodLink RX1 21 yJ7_fill_d0a16, Cond.static yJ7_fill_d0a16, Cond.initialized RJ7, Cond.code yJ7_fill_d0a16 cJ7_fill_d0a16 5 none, Cond.methodLink RX2 48 yX1_changeLows, Cond.instanceMethod yX1_changeLows, Cond.selects RX1 yX1_changeLows yX1_changeLows, Cond.code yX1_changeLows cX1_changeLows 14 (some .boolean), Cond.constantLong RX1 50 (-1), Cond.methodLink RX1 52 yX1_upTo, Cond.static yX1_upTo, Cond.code yX1_upTo cX1_upTo 1 (some .long), Cond.methodLink RX1 56 yJ13_bitCount_95d88, Cond.static yJ13_bitCount_95d88, Cond.initialized RJ13, Cond.code yJ13_bitCount_95d88 cJ13_bitCount_95d88 2 (some .int), Cond.constantLong RJ13 314 (6148914691236517205), Cond.constantLong RJ13 316 (3689348814741910323), Cond.constantLong RJ13 318 (1085102592571150095), Cond.methodLink RX2 52 yX2_settle, Cond.instanceMethod yX2_settle]
def wsX6_remove_r4 : List Cond := [Cond.selects RX2 yX2_settle yX2_settle, Cond.code yX2_settle cX2_settle 3 (some .int), Cond.fieldLink RX2 63 "RoaringIndex$Container" "total" "I", Cond.methodLink RX2 60 yX1_setPlainKind, Cond.instanceMethod yX1_setPlainKind, Cond.selects RX1 yX1_setPlainKind yX1_setPlainKind, Cond.code yX1_setPlainKind cX1_setPlainKind 1 none, Cond.methodLink RX2 66 yX2_leaveOut, Cond.instanceMethod yX2_leaveOut, Cond.selects RX2 yX2_leaveOut yX2_leaveOut, Cond.code yX2_leaveOut cX2_leaveOut 5 none]
def wsX6_remove : List Cond := .code yX6_remove cX6_remove 3 (some .int) :: ((wsX6_remove_r1 ++ (wsX6_remove_r2 ++ (wsX6_remove_r3 ++ wsX6_remove_r4))) ++ wsX60 ++ wsX20 ++ wsX10)
def wsX6_isNoHalf : List Cond := .code yX6_isNoHalf cX6_isNoHalf 1 (some .boolean) :: ([.constant RX6 189 (65535)])
def wsX6_range_r1 : List Cond := [Cond.fieldLink RX6 11 "RoaringIndex" "sets" "[LRoaringIndex$NumberSet;", Cond.methodLink RX6 45 yX6_isNoSet, Cond.static yX6_isNoSet, Cond.initialized RX6, Cond.code yX6_isNoSet cX6_isNoSet 1 (some .boolean), Cond.methodLink RX6 60 yX6_isNoHalf, Cond.static yX6_isNoHalf, Cond.code yX6_isNoHalf cX6_isNoHalf 1 (some .boolean), Cond.constant RX6 189 (65535), Cond.methodLink RX6 56 yX2_changeSpan, Cond.instanceMethod yX2_changeSpan, Cond.selects RX2 yX2_changeSpan yX2_changeSpan, Cond.initialized RX2, Cond.code yX2_changeSpan cX2_changeSpan 6 (some .int), Cond.methodLink RX2 41 yX2_find, Cond.instanceMethod yX2_find, Cond.selects RX2 yX2_find yX2_find, Cond.code yX2_find cX2_find 3 (some (.object "RoaringIndex$Container")), Cond.fieldLink RX2 11 "RoaringIndex$NumberSet" "items" "[LRoaringIndex$Container;", Cond.methodLink RX2 30 yX2_indexOf, Cond.instanceMethod yX2_indexOf, Cond.selects RX2 yX2_indexOf yX2_indexOf, Cond.code yX2_indexOf cX2_indexOf 3 (some .int), Cond.fieldLink RX2 18 "RoaringIndex$NumberSet" "used" "I"]
def wsX6_range_r2 : List Cond := [Cond.fieldLink RX2 26 "RoaringIndex$Container" "key" "I", Cond.methodLink RX2 34 yX2_keyAt, Cond.instanceMethod yX2_keyAt, Cond.selects RX2 yX2_keyAt yX2_keyAt, Cond.code yX2_keyAt cX2_keyAt 2 (some .int), Cond.constant RX2 29 (65536), Cond.methodLink RX2 45 yX2_findOrMake, Cond.instanceMethod yX2_findOrMake, Cond.selects RX2 yX2_findOrMake yX2_findOrMake, Cond.code yX2_findOrMake cX2_findOrMake 5 (some (.object "RoaringIndex$Container")), Cond.methodLink RX2 37 yX1_begin, Cond.instanceMethod yX1_begin, Cond.selects RX1 yX1_begin yX1_begin, Cond.initialized RX1, Cond.code yX1_begin cX1_begin 2 none, Cond.fieldLink RX1 13 "RoaringIndex$Container" "words" "[J", Cond.fieldLink RX1 27 "RoaringIndex$Container" "key" "I", Cond.fieldLink RX1 31 "RoaringIndex$Container" "kind" "I", Cond.fieldLink RX1 34 "RoaringIndex$Container" "total" "I", Cond.methodLink RX1 18 yX1_makeRoom, Cond.instanceMethod yX1_makeRoom, Cond.selects RX1 yX1_makeRoom yX1_makeRoom, Cond.code yX1_makeRoom cX1_makeRoom 1 none, Cond.arrayClass .long]
def wsX6_range_r3 : List Cond := [Cond.methodLink RX1 21 yJ7_fill_d0a16, Cond.static yJ7_fill_d0a16, Cond.initialized RJ7, Cond.code yJ7_fill_d0a16 cJ7_fill_d0a16 5 none, Cond.methodLink RX2 48 yX1_changeLows, Cond.instanceMethod yX1_changeLows, Cond.selects RX1 yX1_changeLows yX1_changeLows, Cond.code yX1_changeLows cX1_changeLows 14 (some .boolean), Cond.constantLong RX1 50 (-1), Cond.methodLink RX1 52 yX1_upTo, Cond.static yX1_upTo, Cond.code yX1_upTo cX1_upTo 1 (some .long), Cond.methodLink RX1 56 yJ13_bitCount_95d88, Cond.static yJ13_bitCount_95d88, Cond.initialized RJ13, Cond.code yJ13_bitCount_95d88 cJ13_bitCount_95d88 2 (some .int), Cond.constantLong RJ13 314 (6148914691236517205), Cond.constantLong RJ13 316 (3689348814741910323), Cond.constantLong RJ13 318 (1085102592571150095), Cond.methodLink RX2 52 yX2_settle, Cond.instanceMethod yX2_settle, Cond.selects RX2 yX2_settle yX2_settle, Cond.code yX2_settle cX2_settle 3 (some .int), Cond.fieldLink RX2 63 "RoaringIndex$Container" "total" "I"]
def wsX6_range_r4 : List Cond := [Cond.methodLink RX2 60 yX1_setPlainKind, Cond.instanceMethod yX1_setPlainKind, Cond.selects RX1 yX1_setPlainKind yX1_setPlainKind, Cond.code yX1_setPlainKind cX1_setPlainKind 1 none, Cond.methodLink RX2 66 yX2_leaveOut, Cond.instanceMethod yX2_leaveOut, Cond.selects RX2 yX2_leaveOut yX2_leaveOut, Cond.code yX2_leaveOut cX2_leaveOut 5 none, Cond.methodLink RX6 63 yX2_total, Cond.instanceMethod yX2_total, Cond.selects RX2 yX2_total yX2_total, Cond.code yX2_total cX2_total 3 (some .int)]
def wsX6_range : List Cond := .code yX6_range cX6_range 7 (some .int) :: ((wsX6_range_r1 ++ (wsX6_range_r2 ++ (wsX6_range_r3 ++ wsX6_range_r4))) ++ wsX60 ++ wsX20 ++ wsX10)
def wsX6_steps_r1 : List Cond := [Cond.fieldLink RX6 11 "RoaringIndex" "sets" "[LRoaringIndex$NumberSet;", Cond.methodLink RX6 45 yX6_isNoSet, Cond.static yX6_isNoSet, Cond.initialized RX6, Cond.code yX6_isNoSet cX6_isNoSet 1 (some .boolean), Cond.methodLink RX6 60 yX6_isNoHalf, Cond.static yX6_isNoHalf, Cond.code yX6_isNoHalf cX6_isNoHalf 1 (some .boolean), Cond.constant RX6 189 (65535), Cond.methodLink RX6 67 yX2_putSteps, Cond.instanceMethod yX2_putSteps, Cond.selects RX2 yX2_putSteps yX2_putSteps, Cond.initialized RX2, Cond.code yX2_putSteps cX2_putSteps 5 (some .int), Cond.methodLink RX2 45 yX2_findOrMake, Cond.instanceMethod yX2_findOrMake, Cond.selects RX2 yX2_findOrMake yX2_findOrMake, Cond.code yX2_findOrMake cX2_findOrMake 5 (some (.object "RoaringIndex$Container")), Cond.fieldLink RX2 11 "RoaringIndex$NumberSet" "items" "[LRoaringIndex$Container;", Cond.fieldLink RX2 18 "RoaringIndex$NumberSet" "used" "I", Cond.methodLink RX2 30 yX2_indexOf, Cond.instanceMethod yX2_indexOf, Cond.selects RX2 yX2_indexOf yX2_indexOf, Cond.code yX2_indexOf cX2_indexOf 3 (some .int)]
def wsX6_steps_r2 : List Cond := [Cond.fieldLink RX2 26 "RoaringIndex$Container" "key" "I", Cond.methodLink RX2 34 yX2_keyAt, Cond.instanceMethod yX2_keyAt, Cond.selects RX2 yX2_keyAt yX2_keyAt, Cond.code yX2_keyAt cX2_keyAt 2 (some .int), Cond.constant RX2 29 (65536), Cond.methodLink RX2 37 yX1_begin, Cond.instanceMethod yX1_begin, Cond.selects RX1 yX1_begin yX1_begin, Cond.initialized RX1, Cond.code yX1_begin cX1_begin 2 none, Cond.fieldLink RX1 13 "RoaringIndex$Container" "words" "[J", Cond.fieldLink RX1 27 "RoaringIndex$Container" "key" "I", Cond.fieldLink RX1 31 "RoaringIndex$Container" "kind" "I", Cond.fieldLink RX1 34 "RoaringIndex$Container" "total" "I", Cond.methodLink RX1 18 yX1_makeRoom, Cond.instanceMethod yX1_makeRoom, Cond.selects RX1 yX1_makeRoom yX1_makeRoom, Cond.code yX1_makeRoom cX1_makeRoom 1 none, Cond.arrayClass .long, Cond.methodLink RX1 21 yJ7_fill_d0a16, Cond.static yJ7_fill_d0a16, Cond.initialized RJ7, Cond.code yJ7_fill_d0a16 cJ7_fill_d0a16 5 none]
def wsX6_steps_r3 : List Cond := [Cond.methodLink RX2 56 yX1_putLowsBySteps, Cond.instanceMethod yX1_putLowsBySteps, Cond.selects RX1 yX1_putLowsBySteps yX1_putLowsBySteps, Cond.code yX1_putLowsBySteps cX1_putLowsBySteps 5 (some .boolean), Cond.constant RX1 62 (65535), Cond.methodLink RX1 63 yX1_holds, Cond.instanceMethod yX1_holds, Cond.selects RX1 yX1_holds yX1_holds, Cond.code yX1_holds cX1_holds 2 (some .boolean), Cond.methodLink RX2 52 yX2_settle, Cond.instanceMethod yX2_settle, Cond.selects RX2 yX2_settle yX2_settle, Cond.code yX2_settle cX2_settle 3 (some .int), Cond.fieldLink RX2 63 "RoaringIndex$Container" "total" "I", Cond.methodLink RX2 60 yX1_setPlainKind, Cond.instanceMethod yX1_setPlainKind, Cond.selects RX1 yX1_setPlainKind yX1_setPlainKind, Cond.code yX1_setPlainKind cX1_setPlainKind 1 none, Cond.methodLink RX2 66 yX2_leaveOut, Cond.instanceMethod yX2_leaveOut, Cond.selects RX2 yX2_leaveOut yX2_leaveOut, Cond.code yX2_leaveOut cX2_leaveOut 5 none, Cond.methodLink RX6 63 yX2_total, Cond.instanceMethod yX2_total]
def wsX6_steps_r4 : List Cond := [Cond.selects RX2 yX2_total yX2_total, Cond.code yX2_total cX2_total 3 (some .int)]
def wsX6_steps : List Cond := .code yX6_steps cX6_steps 6 (some .int) :: ((wsX6_steps_r1 ++ (wsX6_steps_r2 ++ (wsX6_steps_r3 ++ wsX6_steps_r4))) ++ wsX60 ++ wsX20 ++ wsX10)
def wsX6_clear : List Cond := .code yX6_clear cX6_clear 3 (some .int) :: ([.fieldLink RX6 11 "RoaringIndex" "sets" "[LRoaringIndex$NumberSet;", .fieldLink RX6 71 "RoaringIndex$NumberSet" "used" "I", .methodLink RX6 45 yX6_isNoSet, .static yX6_isNoSet, .initialized RX6, .code yX6_isNoSet cX6_isNoSet 1 (some .boolean), .methodLink RX6 63 yX2_total, .instanceMethod yX2_total, .selects RX2 yX2_total yX2_total, .initialized RX2, .code yX2_total cX2_total 3 (some .int), .fieldLink RX2 18 "RoaringIndex$NumberSet" "used" "I", .fieldLink RX2 11 "RoaringIndex$NumberSet" "items" "[LRoaringIndex$Container;", .fieldLink RX2 63 "RoaringIndex$Container" "total" "I"] ++ wsX60 ++ wsX20 ++ wsX10)
def wsX6_takeWork : List Cond := .code yX6_takeWork cX6_takeWork 2 (some .boolean) :: ([.fieldLink RX6 41 "RoaringIndex" "workLeft" "I"] ++ wsX60)
def wsX6_join_r1 : List Cond := [Cond.fieldLink RX6 16 "RoaringIndex" "spare" "LRoaringIndex$NumberSet;", Cond.fieldLink RX6 11 "RoaringIndex" "sets" "[LRoaringIndex$NumberSet;", Cond.methodLink RX6 45 yX6_isNoSet, Cond.static yX6_isNoSet, Cond.initialized RX6, Cond.code yX6_isNoSet cX6_isNoSet 1 (some .boolean), Cond.methodLink RX6 74 yX6_takeWork, Cond.instanceMethod yX6_takeWork, Cond.selects RX6 yX6_takeWork yX6_takeWork, Cond.code yX6_takeWork cX6_takeWork 2 (some .boolean), Cond.fieldLink RX6 41 "RoaringIndex" "workLeft" "I", Cond.methodLink RX6 77 yX2_becomeJoin, Cond.instanceMethod yX2_becomeJoin, Cond.selects RX2 yX2_becomeJoin yX2_becomeJoin, Cond.initialized RX2, Cond.code yX2_becomeJoin cX2_becomeJoin 9 (some .boolean), Cond.fieldLink RX2 18 "RoaringIndex$NumberSet" "used" "I", Cond.constant RX2 29 (65536), Cond.fieldLink RX2 11 "RoaringIndex$NumberSet" "items" "[LRoaringIndex$Container;", Cond.fieldLink RX2 63 "RoaringIndex$Container" "total" "I", Cond.methodLink RX2 34 yX2_keyAt, Cond.instanceMethod yX2_keyAt, Cond.selects RX2 yX2_keyAt yX2_keyAt, Cond.code yX2_keyAt cX2_keyAt 2 (some .int)]
def wsX6_join_r2 : List Cond := [Cond.fieldLink RX2 26 "RoaringIndex$Container" "key" "I", Cond.methodLink RX2 22 yX1_copyLowsOf, Cond.instanceMethod yX1_copyLowsOf, Cond.selects RX1 yX1_copyLowsOf yX1_copyLowsOf, Cond.initialized RX1, Cond.code yX1_copyLowsOf cX1_copyLowsOf 2 none, Cond.fieldLink RX1 13 "RoaringIndex$Container" "words" "[J", Cond.methodLink RX1 37 arraycopyName, Cond.native arraycopyName, Cond.static arraycopyName, Cond.initialized "java/lang/System", Cond.fieldLink RX1 27 "RoaringIndex$Container" "key" "I", Cond.fieldLink RX1 31 "RoaringIndex$Container" "kind" "I", Cond.fieldLink RX1 34 "RoaringIndex$Container" "total" "I", Cond.methodLink RX1 18 yX1_makeRoom, Cond.instanceMethod yX1_makeRoom, Cond.selects RX1 yX1_makeRoom yX1_makeRoom, Cond.code yX1_makeRoom cX1_makeRoom 1 none, Cond.arrayClass .long, Cond.methodLink RX2 69 yX1_becomeMix, Cond.instanceMethod yX1_becomeMix, Cond.selects RX1 yX1_becomeMix yX1_becomeMix, Cond.code yX1_becomeMix cX1_becomeMix 7 none, Cond.methodLink RX1 67 yX1_mix]
def wsX6_join_r3 : List Cond := [Cond.static yX1_mix, Cond.code yX1_mix cX1_mix 5 (some .long), Cond.constantLong RX1 50 (-1), Cond.methodLink RX1 56 yJ13_bitCount_95d88, Cond.static yJ13_bitCount_95d88, Cond.initialized RJ13, Cond.code yJ13_bitCount_95d88 cJ13_bitCount_95d88 2 (some .int), Cond.constantLong RJ13 314 (6148914691236517205), Cond.constantLong RJ13 316 (3689348814741910323), Cond.constantLong RJ13 318 (1085102592571150095), Cond.methodLink RX1 71 yX1_hasLowsOf, Cond.instanceMethod yX1_hasLowsOf, Cond.selects RX1 yX1_hasLowsOf yX1_hasLowsOf, Cond.code yX1_hasLowsOf cX1_hasLowsOf 2 (some .boolean), Cond.methodLink RX1 75 yX1_hasNoLowBut, Cond.instanceMethod yX1_hasNoLowBut, Cond.selects RX1 yX1_hasNoLowBut yX1_hasNoLowBut, Cond.code yX1_hasNoLowBut cX1_hasNoLowBut 3 (some .boolean), Cond.methodLink RX1 47 yX1_setPlainKind, Cond.instanceMethod yX1_setPlainKind, Cond.selects RX1 yX1_setPlainKind yX1_setPlainKind, Cond.code yX1_setPlainKind cX1_setPlainKind 1 none, Cond.methodLink RX6 81 yX2_exchange, Cond.instanceMethod yX2_exchange]
def wsX6_join_r4 : List Cond := [Cond.selects RX2 yX2_exchange yX2_exchange, Cond.code yX2_exchange cX2_exchange 4 none, Cond.methodLink RX6 63 yX2_total, Cond.instanceMethod yX2_total, Cond.selects RX2 yX2_total yX2_total, Cond.code yX2_total cX2_total 3 (some .int)]
def wsX6_join : List Cond := .code yX6_join cX6_join 5 (some .int) :: ((wsX6_join_r1 ++ (wsX6_join_r2 ++ (wsX6_join_r3 ++ wsX6_join_r4))) ++ wsX60 ++ wsX20 ++ wsX10)
def wsX6_shrink_r1 : List Cond := [Cond.fieldLink RX6 11 "RoaringIndex" "sets" "[LRoaringIndex$NumberSet;", Cond.methodLink RX6 45 yX6_isNoSet, Cond.static yX6_isNoSet, Cond.initialized RX6, Cond.code yX6_isNoSet cX6_isNoSet 1 (some .boolean), Cond.methodLink RX6 74 yX6_takeWork, Cond.instanceMethod yX6_takeWork, Cond.selects RX6 yX6_takeWork yX6_takeWork, Cond.code yX6_takeWork cX6_takeWork 2 (some .boolean), Cond.fieldLink RX6 41 "RoaringIndex" "workLeft" "I", Cond.methodLink RX6 85 yX2_shrinkAll, Cond.instanceMethod yX2_shrinkAll, Cond.selects RX2 yX2_shrinkAll yX2_shrinkAll, Cond.initialized RX2, Cond.code yX2_shrinkAll cX2_shrinkAll 2 none, Cond.fieldLink RX2 18 "RoaringIndex$NumberSet" "used" "I", Cond.fieldLink RX2 11 "RoaringIndex$NumberSet" "items" "[LRoaringIndex$Container;", Cond.methodLink RX2 78 yX1_setSmallestKind, Cond.instanceMethod yX1_setSmallestKind, Cond.selects RX1 yX1_setSmallestKind yX1_setSmallestKind, Cond.initialized RX1, Cond.code yX1_setSmallestKind cX1_setSmallestKind 2 none, Cond.fieldLink RX1 34 "RoaringIndex$Container" "total" "I", Cond.fieldLink RX1 31 "RoaringIndex$Container" "kind" "I"]
def wsX6_shrink_r2 : List Cond := [Cond.methodLink RX1 43 yX1_totalRuns, Cond.instanceMethod yX1_totalRuns, Cond.selects RX1 yX1_totalRuns yX1_totalRuns, Cond.code yX1_totalRuns cX1_totalRuns 7 (some .int), Cond.fieldLink RX1 13 "RoaringIndex$Container" "words" "[J", Cond.constantLong RX1 50 (-1), Cond.methodLink RX1 56 yJ13_bitCount_95d88, Cond.static yJ13_bitCount_95d88, Cond.initialized RJ13, Cond.code yJ13_bitCount_95d88 cJ13_bitCount_95d88 2 (some .int), Cond.constantLong RJ13 314 (6148914691236517205), Cond.constantLong RJ13 316 (3689348814741910323), Cond.constantLong RJ13 318 (1085102592571150095), Cond.methodLink RX1 47 yX1_setPlainKind, Cond.instanceMethod yX1_setPlainKind, Cond.selects RX1 yX1_setPlainKind yX1_setPlainKind, Cond.code yX1_setPlainKind cX1_setPlainKind 1 none, Cond.methodLink RX6 88 yX2_totalOfKind, Cond.instanceMethod yX2_totalOfKind, Cond.selects RX2 yX2_totalOfKind yX2_totalOfKind, Cond.code yX2_totalOfKind cX2_totalOfKind 4 (some .int), Cond.fieldLink RX2 81 "RoaringIndex$Container" "kind" "I"]
def wsX6_shrink : List Cond := .code yX6_shrink cX6_shrink 2 (some .int) :: ((wsX6_shrink_r1 ++ wsX6_shrink_r2) ++ wsX60 ++ wsX20 ++ wsX10)
def wsX6_formula_r1 : List Cond := [Cond.fieldLink RX6 23 "RoaringIndex" "pile" "LRoaringIndex$Pile;", Cond.fieldLink RX6 11 "RoaringIndex" "sets" "[LRoaringIndex$NumberSet;", Cond.fieldLink RX6 16 "RoaringIndex" "spare" "LRoaringIndex$NumberSet;", Cond.fieldLink RX6 99 "RoaringIndex$Pile" "levels" "[LRoaringIndex$NumberSet;", Cond.methodLink RX6 45 yX6_isNoSet, Cond.static yX6_isNoSet, Cond.initialized RX6, Cond.code yX6_isNoSet cX6_isNoSet 1 (some .boolean), Cond.methodLink RX6 91 yX3_isSound, Cond.static yX3_isSound, Cond.initialized RX3, Cond.code yX3_isSound cX3_isSound 6 (some .boolean), Cond.methodLink RX3 18 yX3_signAt, Cond.static yX3_signAt, Cond.code yX3_signAt cX3_signAt 3 (some .int), Cond.methodLink RX3 22 yX3_isJoin, Cond.static yX3_isJoin, Cond.code yX3_isJoin cX3_isJoin 1 (some .boolean), Cond.methodLink RX6 74 yX6_takeWork, Cond.instanceMethod yX6_takeWork, Cond.selects RX6 yX6_takeWork yX6_takeWork, Cond.code yX6_takeWork cX6_takeWork 2 (some .boolean), Cond.fieldLink RX6 41 "RoaringIndex" "workLeft" "I", Cond.methodLink RX6 95 yX3_evaluate]
def wsX6_formula_r2 : List Cond := [Cond.instanceMethod yX3_evaluate, Cond.selects RX3 yX3_evaluate yX3_evaluate, Cond.code yX3_evaluate cX3_evaluate 8 (some .boolean), Cond.fieldLink RX3 26 "RoaringIndex$Pile" "depth" "I", Cond.fieldLink RX3 11 "RoaringIndex$Pile" "levels" "[LRoaringIndex$NumberSet;", Cond.methodLink RX3 30 yX3_joinUpperTwo, Cond.instanceMethod yX3_joinUpperTwo, Cond.selects RX3 yX3_joinUpperTwo yX3_joinUpperTwo, Cond.code yX3_joinUpperTwo cX3_joinUpperTwo 3 (some .boolean), Cond.methodLink RX3 41 yX2_becomeJoin, Cond.instanceMethod yX2_becomeJoin, Cond.selects RX2 yX2_becomeJoin yX2_becomeJoin, Cond.initialized RX2, Cond.code yX2_becomeJoin cX2_becomeJoin 9 (some .boolean), Cond.fieldLink RX2 18 "RoaringIndex$NumberSet" "used" "I", Cond.constant RX2 29 (65536), Cond.fieldLink RX2 11 "RoaringIndex$NumberSet" "items" "[LRoaringIndex$Container;", Cond.fieldLink RX2 63 "RoaringIndex$Container" "total" "I", Cond.methodLink RX2 34 yX2_keyAt, Cond.instanceMethod yX2_keyAt, Cond.selects RX2 yX2_keyAt yX2_keyAt, Cond.code yX2_keyAt cX2_keyAt 2 (some .int), Cond.fieldLink RX2 26 "RoaringIndex$Container" "key" "I", Cond.methodLink RX2 22 yX1_copyLowsOf]
def wsX6_formula_r3 : List Cond := [Cond.instanceMethod yX1_copyLowsOf, Cond.selects RX1 yX1_copyLowsOf yX1_copyLowsOf, Cond.initialized RX1, Cond.code yX1_copyLowsOf cX1_copyLowsOf 2 none, Cond.fieldLink RX1 13 "RoaringIndex$Container" "words" "[J", Cond.methodLink RX1 37 arraycopyName, Cond.native arraycopyName, Cond.static arraycopyName, Cond.initialized "java/lang/System", Cond.fieldLink RX1 27 "RoaringIndex$Container" "key" "I", Cond.fieldLink RX1 31 "RoaringIndex$Container" "kind" "I", Cond.fieldLink RX1 34 "RoaringIndex$Container" "total" "I", Cond.methodLink RX1 18 yX1_makeRoom, Cond.instanceMethod yX1_makeRoom, Cond.selects RX1 yX1_makeRoom yX1_makeRoom, Cond.code yX1_makeRoom cX1_makeRoom 1 none, Cond.arrayClass .long, Cond.methodLink RX2 69 yX1_becomeMix, Cond.instanceMethod yX1_becomeMix, Cond.selects RX1 yX1_becomeMix yX1_becomeMix, Cond.code yX1_becomeMix cX1_becomeMix 7 none, Cond.methodLink RX1 67 yX1_mix, Cond.static yX1_mix, Cond.code yX1_mix cX1_mix 5 (some .long)]
def wsX6_formula_r4 : List Cond := [Cond.constantLong RX1 50 (-1), Cond.methodLink RX1 56 yJ13_bitCount_95d88, Cond.static yJ13_bitCount_95d88, Cond.initialized RJ13, Cond.code yJ13_bitCount_95d88 cJ13_bitCount_95d88 2 (some .int), Cond.constantLong RJ13 314 (6148914691236517205), Cond.constantLong RJ13 316 (3689348814741910323), Cond.constantLong RJ13 318 (1085102592571150095), Cond.methodLink RX1 71 yX1_hasLowsOf, Cond.instanceMethod yX1_hasLowsOf, Cond.selects RX1 yX1_hasLowsOf yX1_hasLowsOf, Cond.code yX1_hasLowsOf cX1_hasLowsOf 2 (some .boolean), Cond.methodLink RX1 75 yX1_hasNoLowBut, Cond.instanceMethod yX1_hasNoLowBut, Cond.selects RX1 yX1_hasNoLowBut yX1_hasNoLowBut, Cond.code yX1_hasNoLowBut cX1_hasNoLowBut 3 (some .boolean), Cond.methodLink RX1 47 yX1_setPlainKind, Cond.instanceMethod yX1_setPlainKind, Cond.selects RX1 yX1_setPlainKind yX1_setPlainKind, Cond.code yX1_setPlainKind cX1_setPlainKind 1 none, Cond.methodLink RX3 45 yX2_exchange, Cond.instanceMethod yX2_exchange, Cond.selects RX2 yX2_exchange yX2_exchange, Cond.code yX2_exchange cX2_exchange 4 none]
def wsX6_formula_r5 : List Cond := [Cond.methodLink RX3 34 yX2_becomeAll, Cond.instanceMethod yX2_becomeAll, Cond.selects RX2 yX2_becomeAll yX2_becomeAll, Cond.code yX2_becomeAll cX2_becomeAll 1 none, Cond.constant RX2 73 (65535), Cond.methodLink RX2 74 yX2_changeSpan, Cond.instanceMethod yX2_changeSpan, Cond.selects RX2 yX2_changeSpan yX2_changeSpan, Cond.code yX2_changeSpan cX2_changeSpan 6 (some .int), Cond.methodLink RX2 41 yX2_find, Cond.instanceMethod yX2_find, Cond.selects RX2 yX2_find yX2_find, Cond.code yX2_find cX2_find 3 (some (.object "RoaringIndex$Container")), Cond.methodLink RX2 30 yX2_indexOf, Cond.instanceMethod yX2_indexOf, Cond.selects RX2 yX2_indexOf yX2_indexOf, Cond.code yX2_indexOf cX2_indexOf 3 (some .int), Cond.methodLink RX2 45 yX2_findOrMake, Cond.instanceMethod yX2_findOrMake, Cond.selects RX2 yX2_findOrMake yX2_findOrMake, Cond.code yX2_findOrMake cX2_findOrMake 5 (some (.object "RoaringIndex$Container")), Cond.methodLink RX2 37 yX1_begin, Cond.instanceMethod yX1_begin, Cond.selects RX1 yX1_begin yX1_begin]
def wsX6_formula_r6 : List Cond := [Cond.code yX1_begin cX1_begin 2 none, Cond.methodLink RX1 21 yJ7_fill_d0a16, Cond.static yJ7_fill_d0a16, Cond.initialized RJ7, Cond.code yJ7_fill_d0a16 cJ7_fill_d0a16 5 none, Cond.methodLink RX2 48 yX1_changeLows, Cond.instanceMethod yX1_changeLows, Cond.selects RX1 yX1_changeLows yX1_changeLows, Cond.code yX1_changeLows cX1_changeLows 14 (some .boolean), Cond.methodLink RX1 52 yX1_upTo, Cond.static yX1_upTo, Cond.code yX1_upTo cX1_upTo 1 (some .long), Cond.methodLink RX2 52 yX2_settle, Cond.instanceMethod yX2_settle, Cond.selects RX2 yX2_settle yX2_settle, Cond.code yX2_settle cX2_settle 3 (some .int), Cond.methodLink RX2 60 yX1_setPlainKind, Cond.methodLink RX2 66 yX2_leaveOut, Cond.instanceMethod yX2_leaveOut, Cond.selects RX2 yX2_leaveOut yX2_leaveOut, Cond.code yX2_leaveOut cX2_leaveOut 5 none, Cond.methodLink RX3 37 yX2_copyFrom, Cond.instanceMethod yX2_copyFrom, Cond.selects RX2 yX2_copyFrom yX2_copyFrom]
def wsX6_formula_r7 : List Cond := [Cond.code yX2_copyFrom cX2_copyFrom 3 none, Cond.methodLink RX6 81 yX2_exchange, Cond.methodLink RX6 63 yX2_total, Cond.instanceMethod yX2_total, Cond.selects RX2 yX2_total yX2_total, Cond.code yX2_total cX2_total 3 (some .int)]
def wsX6_formula : List Cond := .code yX6_formula cX6_formula 5 (some .int) :: ((wsX6_formula_r1 ++ (wsX6_formula_r2 ++ (wsX6_formula_r3 ++ (wsX6_formula_r4 ++ (wsX6_formula_r5 ++ (wsX6_formula_r6 ++ wsX6_formula_r7)))))) ++ wsX60 ++ wsX30 ++ wsX20 ++ wsX10)
def wsX6_has_r1 : List Cond := [Cond.fieldLink RX6 11 "RoaringIndex" "sets" "[LRoaringIndex$NumberSet;", Cond.methodLink RX6 45 yX6_isNoSet, Cond.static yX6_isNoSet, Cond.initialized RX6, Cond.code yX6_isNoSet cX6_isNoSet 1 (some .boolean), Cond.methodLink RX6 49 yX6_keyOf, Cond.static yX6_keyOf, Cond.code yX6_keyOf cX6_keyOf 1 (some .int), Cond.methodLink RX6 102 yX2_find, Cond.instanceMethod yX2_find, Cond.selects RX2 yX2_find yX2_find, Cond.initialized RX2, Cond.code yX2_find cX2_find 3 (some (.object "RoaringIndex$Container")), Cond.fieldLink RX2 11 "RoaringIndex$NumberSet" "items" "[LRoaringIndex$Container;", Cond.methodLink RX2 30 yX2_indexOf, Cond.instanceMethod yX2_indexOf, Cond.selects RX2 yX2_indexOf yX2_indexOf, Cond.code yX2_indexOf cX2_indexOf 3 (some .int), Cond.fieldLink RX2 18 "RoaringIndex$NumberSet" "used" "I", Cond.fieldLink RX2 26 "RoaringIndex$Container" "key" "I", Cond.methodLink RX2 34 yX2_keyAt, Cond.instanceMethod yX2_keyAt, Cond.selects RX2 yX2_keyAt yX2_keyAt, Cond.code yX2_keyAt cX2_keyAt 2 (some .int)]
def wsX6_has_r2 : List Cond := [Cond.constant RX2 29 (65536), Cond.methodLink RX6 53 yX6_lowOf, Cond.static yX6_lowOf, Cond.code yX6_lowOf cX6_lowOf 1 (some .int), Cond.constant RX6 189 (65535), Cond.methodLink RX6 106 yX1_holds, Cond.instanceMethod yX1_holds, Cond.selects RX1 yX1_holds yX1_holds, Cond.initialized RX1, Cond.code yX1_holds cX1_holds 2 (some .boolean), Cond.fieldLink RX1 13 "RoaringIndex$Container" "words" "[J"]
def wsX6_has : List Cond := .code yX6_has cX6_has 4 (some .int) :: ((wsX6_has_r1 ++ wsX6_has_r2) ++ wsX60 ++ wsX20 ++ wsX10)
def wsX6_rank_r1 : List Cond := [Cond.fieldLink RX6 11 "RoaringIndex" "sets" "[LRoaringIndex$NumberSet;", Cond.methodLink RX6 45 yX6_isNoSet, Cond.static yX6_isNoSet, Cond.initialized RX6, Cond.code yX6_isNoSet cX6_isNoSet 1 (some .boolean), Cond.methodLink RX6 49 yX6_keyOf, Cond.static yX6_keyOf, Cond.code yX6_keyOf cX6_keyOf 1 (some .int), Cond.methodLink RX6 53 yX6_lowOf, Cond.static yX6_lowOf, Cond.code yX6_lowOf cX6_lowOf 1 (some .int), Cond.constant RX6 189 (65535), Cond.methodLink RX6 111 yX2_totalUpTo, Cond.instanceMethod yX2_totalUpTo, Cond.selects RX2 yX2_totalUpTo yX2_totalUpTo, Cond.initialized RX2, Cond.code yX2_totalUpTo cX2_totalUpTo 5 (some .int), Cond.fieldLink RX2 18 "RoaringIndex$NumberSet" "used" "I", Cond.fieldLink RX2 11 "RoaringIndex$NumberSet" "items" "[LRoaringIndex$Container;", Cond.fieldLink RX2 26 "RoaringIndex$Container" "key" "I", Cond.fieldLink RX2 63 "RoaringIndex$Container" "total" "I", Cond.methodLink RX2 84 yX1_lowsUpTo, Cond.instanceMethod yX1_lowsUpTo, Cond.selects RX1 yX1_lowsUpTo yX1_lowsUpTo]
def wsX6_rank_r2 : List Cond := [Cond.initialized RX1, Cond.code yX1_lowsUpTo cX1_lowsUpTo 5 (some .int), Cond.fieldLink RX1 13 "RoaringIndex$Container" "words" "[J", Cond.methodLink RX1 52 yX1_upTo, Cond.static yX1_upTo, Cond.code yX1_upTo cX1_upTo 1 (some .long), Cond.constantLong RX1 50 (-1), Cond.methodLink RX1 56 yJ13_bitCount_95d88, Cond.static yJ13_bitCount_95d88, Cond.initialized RJ13, Cond.code yJ13_bitCount_95d88 cJ13_bitCount_95d88 2 (some .int), Cond.constantLong RJ13 314 (6148914691236517205), Cond.constantLong RJ13 316 (3689348814741910323), Cond.constantLong RJ13 318 (1085102592571150095)]
def wsX6_rank : List Cond := .code yX6_rank cX6_rank 3 (some .int) :: ((wsX6_rank_r1 ++ wsX6_rank_r2) ++ wsX60 ++ wsX20 ++ wsX10)
def wsX6_select_r1 : List Cond := [Cond.constantLong RX6 115 (-2), Cond.fieldLink RX6 11 "RoaringIndex" "sets" "[LRoaringIndex$NumberSet;", Cond.methodLink RX6 45 yX6_isNoSet, Cond.static yX6_isNoSet, Cond.initialized RX6, Cond.code yX6_isNoSet cX6_isNoSet 1 (some .boolean), Cond.methodLink RX6 117 yX2_numberAt, Cond.instanceMethod yX2_numberAt, Cond.selects RX2 yX2_numberAt yX2_numberAt, Cond.initialized RX2, Cond.code yX2_numberAt cX2_numberAt 4 (some .long), Cond.fieldLink RX2 18 "RoaringIndex$NumberSet" "used" "I", Cond.fieldLink RX2 11 "RoaringIndex$NumberSet" "items" "[LRoaringIndex$Container;", Cond.fieldLink RX2 63 "RoaringIndex$Container" "total" "I", Cond.fieldLink RX2 26 "RoaringIndex$Container" "key" "I", Cond.constantLong RX2 94 (-1), Cond.methodLink RX2 87 yX1_lowAt, Cond.instanceMethod yX1_lowAt, Cond.selects RX1 yX1_lowAt yX1_lowAt, Cond.initialized RX1, Cond.code yX1_lowAt cX1_lowAt 8 (some .int), Cond.fieldLink RX1 13 "RoaringIndex$Container" "words" "[J", Cond.methodLink RX1 56 yJ13_bitCount_95d88, Cond.static yJ13_bitCount_95d88]
def wsX6_select_r2 : List Cond := [Cond.initialized RJ13, Cond.code yJ13_bitCount_95d88 cJ13_bitCount_95d88 2 (some .int), Cond.constantLong RJ13 314 (6148914691236517205), Cond.constantLong RJ13 316 (3689348814741910323), Cond.constantLong RJ13 318 (1085102592571150095), Cond.methodLink RX1 78 yJ13_numberOfTrailingZeros_95d88, Cond.static yJ13_numberOfTrailingZeros_95d88, Cond.code yJ13_numberOfTrailingZeros_95d88 cJ13_numberOfTrailingZeros_95d88 3 (some .int), Cond.methodLink RJ13 311 yJ6_numberOfTrailingZeros_0f7a4, Cond.static yJ6_numberOfTrailingZeros_0f7a4, Cond.initialized RJ6, Cond.code yJ6_numberOfTrailingZeros_0f7a4 cJ6_numberOfTrailingZeros_0f7a4 2 (some .int), Cond.constant RJ6 264 (65536), Cond.methodLink RX2 90 yX2_numberOf, Cond.static yX2_numberOf, Cond.code yX2_numberOf cX2_numberOf 2 (some .long)]
def wsX6_select : List Cond := .code yX6_select cX6_select 3 (some .long) :: ((wsX6_select_r1 ++ wsX6_select_r2) ++ wsX60 ++ wsX20 ++ wsX10)
def wsX6_next_r1 : List Cond := [Cond.constantLong RX6 115 (-2), Cond.fieldLink RX6 11 "RoaringIndex" "sets" "[LRoaringIndex$NumberSet;", Cond.methodLink RX6 45 yX6_isNoSet, Cond.static yX6_isNoSet, Cond.initialized RX6, Cond.code yX6_isNoSet cX6_isNoSet 1 (some .boolean), Cond.methodLink RX6 49 yX6_keyOf, Cond.static yX6_keyOf, Cond.code yX6_keyOf cX6_keyOf 1 (some .int), Cond.methodLink RX6 53 yX6_lowOf, Cond.static yX6_lowOf, Cond.code yX6_lowOf cX6_lowOf 1 (some .int), Cond.constant RX6 189 (65535), Cond.methodLink RX6 121 yX2_firstFrom, Cond.instanceMethod yX2_firstFrom, Cond.selects RX2 yX2_firstFrom yX2_firstFrom, Cond.initialized RX2, Cond.code yX2_firstFrom cX2_firstFrom 5 (some .long), Cond.fieldLink RX2 18 "RoaringIndex$NumberSet" "used" "I", Cond.fieldLink RX2 11 "RoaringIndex$NumberSet" "items" "[LRoaringIndex$Container;", Cond.fieldLink RX2 26 "RoaringIndex$Container" "key" "I", Cond.constant RX2 29 (65536), Cond.constantLong RX2 94 (-1), Cond.methodLink RX2 30 yX2_indexOf]
def wsX6_next_r2 : List Cond := [Cond.instanceMethod yX2_indexOf, Cond.selects RX2 yX2_indexOf yX2_indexOf, Cond.code yX2_indexOf cX2_indexOf 3 (some .int), Cond.methodLink RX2 96 yX1_firstIn, Cond.instanceMethod yX1_firstIn, Cond.selects RX1 yX1_firstIn yX1_firstIn, Cond.initialized RX1, Cond.code yX1_firstIn cX1_firstIn 2 (some .int), Cond.methodLink RX1 81 yX1_firstBit, Cond.instanceMethod yX1_firstBit, Cond.selects RX1 yX1_firstBit yX1_firstBit, Cond.code yX1_firstBit cX1_firstBit 8 (some .int), Cond.fieldLink RX1 13 "RoaringIndex$Container" "words" "[J", Cond.constantLong RX1 50 (-1), Cond.constant RX1 85 (65536), Cond.methodLink RX1 78 yJ13_numberOfTrailingZeros_95d88, Cond.static yJ13_numberOfTrailingZeros_95d88, Cond.initialized RJ13, Cond.code yJ13_numberOfTrailingZeros_95d88 cJ13_numberOfTrailingZeros_95d88 3 (some .int), Cond.methodLink RJ13 311 yJ6_numberOfTrailingZeros_0f7a4, Cond.static yJ6_numberOfTrailingZeros_0f7a4, Cond.initialized RJ6, Cond.code yJ6_numberOfTrailingZeros_0f7a4 cJ6_numberOfTrailingZeros_0f7a4 2 (some .int), Cond.constant RJ6 264 (65536)]
def wsX6_next_r3 : List Cond := [Cond.methodLink RX2 90 yX2_numberOf, Cond.static yX2_numberOf, Cond.code yX2_numberOf cX2_numberOf 2 (some .long)]
def wsX6_next : List Cond := .code yX6_next cX6_next 3 (some .long) :: ((wsX6_next_r1 ++ (wsX6_next_r2 ++ wsX6_next_r3)) ++ wsX60 ++ wsX20 ++ wsX10)
def wsX6_count : List Cond := .code yX6_count cX6_count 3 (some .int) :: ([.fieldLink RX6 11 "RoaringIndex" "sets" "[LRoaringIndex$NumberSet;", .fieldLink RX6 71 "RoaringIndex$NumberSet" "used" "I", .methodLink RX6 45 yX6_isNoSet, .static yX6_isNoSet, .initialized RX6, .code yX6_isNoSet cX6_isNoSet 1 (some .boolean), .methodLink RX6 63 yX2_total, .instanceMethod yX2_total, .selects RX2 yX2_total yX2_total, .initialized RX2, .code yX2_total cX2_total 3 (some .int), .fieldLink RX2 18 "RoaringIndex$NumberSet" "used" "I", .fieldLink RX2 11 "RoaringIndex$NumberSet" "items" "[LRoaringIndex$Container;", .fieldLink RX2 63 "RoaringIndex$Container" "total" "I", .methodLink RX6 88 yX2_totalOfKind, .instanceMethod yX2_totalOfKind, .selects RX2 yX2_totalOfKind yX2_totalOfKind, .code yX2_totalOfKind cX2_totalOfKind 4 (some .int), .fieldLink RX2 81 "RoaringIndex$Container" "kind" "I"] ++ wsX60 ++ wsX20 ++ wsX10)
def wsX6_container : List Cond := .code yX6_container cX6_container 5 (some .int) :: ([.fieldLink RX6 11 "RoaringIndex" "sets" "[LRoaringIndex$NumberSet;", .fieldLink RX6 71 "RoaringIndex$NumberSet" "used" "I", .fieldLink RX6 125 "RoaringIndex$NumberSet" "items" "[LRoaringIndex$Container;", .fieldLink RX6 129 "RoaringIndex$Container" "key" "I", .fieldLink RX6 132 "RoaringIndex$Container" "kind" "I", .fieldLink RX6 135 "RoaringIndex$Container" "total" "I", .methodLink RX6 45 yX6_isNoSet, .static yX6_isNoSet, .initialized RX6, .code yX6_isNoSet cX6_isNoSet 1 (some .boolean), .methodLink RX6 137 yX1_totalRuns, .instanceMethod yX1_totalRuns, .selects RX1 yX1_totalRuns yX1_totalRuns, .initialized RX1, .code yX1_totalRuns cX1_totalRuns 7 (some .int), .fieldLink RX1 13 "RoaringIndex$Container" "words" "[J", .constantLong RX1 50 (-1), .methodLink RX1 56 yJ13_bitCount_95d88, .static yJ13_bitCount_95d88, .initialized RJ13, .code yJ13_bitCount_95d88 cJ13_bitCount_95d88 2 (some .int), .constantLong RJ13 314 (6148914691236517205), .constantLong RJ13 316 (3689348814741910323), .constantLong RJ13 318 (1085102592571150095)] ++ wsX60 ++ wsX20 ++ wsX10)
def wsX6_compare_r1 : List Cond := [Cond.fieldLink RX6 11 "RoaringIndex" "sets" "[LRoaringIndex$NumberSet;", Cond.methodLink RX6 45 yX6_isNoSet, Cond.static yX6_isNoSet, Cond.initialized RX6, Cond.code yX6_isNoSet cX6_isNoSet 1 (some .boolean), Cond.methodLink RX6 140 yX2_isInside, Cond.instanceMethod yX2_isInside, Cond.selects RX2 yX2_isInside yX2_isInside, Cond.initialized RX2, Cond.code yX2_isInside cX2_isInside 4 (some .boolean), Cond.fieldLink RX2 18 "RoaringIndex$NumberSet" "used" "I", Cond.fieldLink RX2 11 "RoaringIndex$NumberSet" "items" "[LRoaringIndex$Container;", Cond.fieldLink RX2 26 "RoaringIndex$Container" "key" "I", Cond.methodLink RX2 41 yX2_find, Cond.instanceMethod yX2_find, Cond.selects RX2 yX2_find yX2_find, Cond.code yX2_find cX2_find 3 (some (.object "RoaringIndex$Container")), Cond.methodLink RX2 30 yX2_indexOf, Cond.instanceMethod yX2_indexOf, Cond.selects RX2 yX2_indexOf yX2_indexOf, Cond.code yX2_indexOf cX2_indexOf 3 (some .int), Cond.methodLink RX2 34 yX2_keyAt, Cond.instanceMethod yX2_keyAt, Cond.selects RX2 yX2_keyAt yX2_keyAt]
def wsX6_compare_r2 : List Cond := [Cond.code yX2_keyAt cX2_keyAt 2 (some .int), Cond.constant RX2 29 (65536), Cond.methodLink RX2 99 yX1_hasNoLowBut, Cond.instanceMethod yX1_hasNoLowBut, Cond.selects RX1 yX1_hasNoLowBut yX1_hasNoLowBut, Cond.initialized RX1, Cond.code yX1_hasNoLowBut cX1_hasNoLowBut 3 (some .boolean), Cond.fieldLink RX1 13 "RoaringIndex$Container" "words" "[J", Cond.constantLong RX1 50 (-1), Cond.methodLink RX6 144 yX2_meets, Cond.instanceMethod yX2_meets, Cond.selects RX2 yX2_meets yX2_meets, Cond.code yX2_meets cX2_meets 4 (some .boolean), Cond.methodLink RX2 103 yX1_hasLowIn, Cond.instanceMethod yX1_hasLowIn, Cond.selects RX1 yX1_hasLowIn yX1_hasLowIn, Cond.code yX1_hasLowIn cX1_hasLowIn 3 (some .boolean)]
def wsX6_compare : List Cond := .code yX6_compare cX6_compare 5 (some .int) :: ((wsX6_compare_r1 ++ wsX6_compare_r2) ++ wsX60 ++ wsX20 ++ wsX10)
def wsX6_write_r1 : List Cond := [Cond.fieldLink RX6 11 "RoaringIndex" "sets" "[LRoaringIndex$NumberSet;", Cond.constant RX6 153 (60000), Cond.fieldLink RX6 30 "RoaringIndex" "bytes" "LRoaringIndex$ByteRow;", Cond.fieldLink RX6 154 "RoaringIndex$ByteRow" "used" "I", Cond.methodLink RX6 45 yX6_isNoSet, Cond.static yX6_isNoSet, Cond.initialized RX6, Cond.code yX6_isNoSet cX6_isNoSet 1 (some .boolean), Cond.methodLink RX6 147 yX5_bytesOf, Cond.static yX5_bytesOf, Cond.initialized RX5, Cond.code yX5_bytesOf cX5_bytesOf 3 (some .int), Cond.fieldLink RX5 15 "RoaringIndex$NumberSet" "used" "I", Cond.fieldLink RX5 21 "RoaringIndex$NumberSet" "items" "[LRoaringIndex$Container;", Cond.methodLink RX5 9 yX5_headBytesOf, Cond.static yX5_headBytesOf, Cond.code yX5_headBytesOf cX5_headBytesOf 2 (some .int), Cond.methodLink RX5 62 yX5_hasRuns, Cond.static yX5_hasRuns, Cond.code yX5_hasRuns cX5_hasRuns 1 (some .boolean), Cond.methodLink RX5 58 yX2_totalOfKind, Cond.instanceMethod yX2_totalOfKind, Cond.selects RX2 yX2_totalOfKind yX2_totalOfKind, Cond.initialized RX2]
def wsX6_write_r2 : List Cond := [Cond.code yX2_totalOfKind cX2_totalOfKind 4 (some .int), Cond.fieldLink RX2 18 "RoaringIndex$NumberSet" "used" "I", Cond.fieldLink RX2 11 "RoaringIndex$NumberSet" "items" "[LRoaringIndex$Container;", Cond.fieldLink RX2 81 "RoaringIndex$Container" "kind" "I", Cond.methodLink RX5 47 yX5_hasPlaces, Cond.static yX5_hasPlaces, Cond.code yX5_hasPlaces cX5_hasPlaces 1 (some .boolean), Cond.methodLink RX5 25 yX5_bodyBytesOf, Cond.static yX5_bodyBytesOf, Cond.code yX5_bodyBytesOf cX5_bodyBytesOf 1 (some .int), Cond.fieldLink RX5 65 "RoaringIndex$Container" "kind" "I", Cond.fieldLink RX5 44 "RoaringIndex$Container" "total" "I", Cond.methodLink RX5 68 yX1_totalRuns, Cond.instanceMethod yX1_totalRuns, Cond.selects RX1 yX1_totalRuns yX1_totalRuns, Cond.initialized RX1, Cond.code yX1_totalRuns cX1_totalRuns 7 (some .int), Cond.fieldLink RX1 13 "RoaringIndex$Container" "words" "[J", Cond.constantLong RX1 50 (-1), Cond.methodLink RX1 56 yJ13_bitCount_95d88, Cond.static yJ13_bitCount_95d88, Cond.initialized RJ13, Cond.code yJ13_bitCount_95d88 cJ13_bitCount_95d88 2 (some .int), Cond.constantLong RJ13 314 (6148914691236517205)]
def wsX6_write_r3 : List Cond := [Cond.constantLong RJ13 316 (3689348814741910323), Cond.constantLong RJ13 318 (1085102592571150095), Cond.methodLink RX6 155 yX5_putSet, Cond.static yX5_putSet, Cond.code yX5_putSet cX5_putSet 3 none, Cond.fieldLink RX5 33 "RoaringIndex$Container" "key" "I", Cond.methodLink RX5 29 yX5_putMark, Cond.static yX5_putMark, Cond.code yX5_putMark cX5_putMark 5 none, Cond.constantLong RX5 72 (12346), Cond.constantLong RX5 74 (12347), Cond.methodLink RX5 38 yX0_put, Cond.instanceMethod yX0_put, Cond.selects RX0 yX0_put yX0_put, Cond.initialized RX0, Cond.code yX0_put cX0_put 5 none, Cond.fieldLink RX0 15 "RoaringIndex$ByteRow" "used" "I", Cond.fieldLink RX0 9 "RoaringIndex$ByteRow" "held" "[B", Cond.constant RX0 19 (60000), Cond.methodLink RX0 20 yJ7_copyOf_9075b, Cond.static yJ7_copyOf_9075b, Cond.initialized RJ7, Cond.code yJ7_copyOf_9075b cJ7_copyOf_9075b 3 (some (.array .byte)), Cond.methodLink RJ7 310 ⟨"[B", "clone", "()Ljava/lang/Object;"⟩]
def wsX6_write_r4 : List Cond := [Cond.sameMethod "[B" "java/lang/Object" "clone" "()Ljava/lang/Object;", Cond.native ⟨"java/lang/Object", "clone", "()Ljava/lang/Object;"⟩, Cond.instanceMethod ⟨"java/lang/Object", "clone", "()Ljava/lang/Object;"⟩, Cond.selects "[B" ⟨"[B", "clone", "()Ljava/lang/Object;"⟩ ⟨"java/lang/Object", "clone", "()Ljava/lang/Object;"⟩, Cond.classLink RJ7 311 "[B", Cond.arrayClass .byte, Cond.methodLink RJ7 304 Lib.Math.min.name, Cond.static Lib.Math.min.name, Cond.initialized "java/lang/Math", Cond.code Lib.Math.min.name Lib.Math.min.code 2 (some .int), Cond.methodLink RJ7 150 arraycopyName, Cond.native arraycopyName, Cond.static arraycopyName, Cond.initialized "java/lang/System", Cond.methodLink RX5 51 yX5_putPlaces, Cond.static yX5_putPlaces, Cond.code yX5_putPlaces cX5_putPlaces 4 none, Cond.methodLink RX5 54 yX5_putBody, Cond.static yX5_putBody, Cond.code yX5_putBody cX5_putBody 2 none, Cond.methodLink RX5 76 yX5_putArray, Cond.static yX5_putArray, Cond.code yX5_putArray cX5_putArray 7 none, Cond.fieldLink RX5 85 "RoaringIndex$Container" "words" "[J"]
def wsX6_write_r5 : List Cond := [Cond.methodLink RX5 89 yJ13_bitCount_95d88, Cond.methodLink RX5 95 yJ13_numberOfTrailingZeros_95d88, Cond.static yJ13_numberOfTrailingZeros_95d88, Cond.code yJ13_numberOfTrailingZeros_95d88 cJ13_numberOfTrailingZeros_95d88 3 (some .int), Cond.methodLink RJ13 311 yJ6_numberOfTrailingZeros_0f7a4, Cond.static yJ6_numberOfTrailingZeros_0f7a4, Cond.initialized RJ6, Cond.code yJ6_numberOfTrailingZeros_0f7a4 cJ6_numberOfTrailingZeros_0f7a4 2 (some .int), Cond.constant RJ6 264 (65536), Cond.methodLink RX5 79 yX5_putBitmap, Cond.static yX5_putBitmap, Cond.code yX5_putBitmap cX5_putBitmap 3 none, Cond.methodLink RX5 82 yX5_putRuns, Cond.static yX5_putRuns, Cond.code yX5_putRuns cX5_putRuns 6 none, Cond.methodLink RX5 98 yX1_firstIn, Cond.instanceMethod yX1_firstIn, Cond.selects RX1 yX1_firstIn yX1_firstIn, Cond.code yX1_firstIn cX1_firstIn 2 (some .int), Cond.methodLink RX1 81 yX1_firstBit, Cond.instanceMethod yX1_firstBit, Cond.selects RX1 yX1_firstBit yX1_firstBit, Cond.code yX1_firstBit cX1_firstBit 8 (some .int), Cond.constant RX1 85 (65536)]
def wsX6_write_r6 : List Cond := [Cond.methodLink RX1 78 yJ13_numberOfTrailingZeros_95d88, Cond.methodLink RX5 101 yX1_firstOut, Cond.instanceMethod yX1_firstOut, Cond.selects RX1 yX1_firstOut yX1_firstOut, Cond.code yX1_firstOut cX1_firstOut 2 (some .int)]
def wsX6_write : List Cond := .code yX6_write cX6_write 2 (some .int) :: ((wsX6_write_r1 ++ (wsX6_write_r2 ++ (wsX6_write_r3 ++ (wsX6_write_r4 ++ (wsX6_write_r5 ++ wsX6_write_r6))))) ++ wsX60 ++ wsX00 ++ wsX20 ++ wsX10)
def wsX6_read_r1 : List Cond := [Cond.fieldLink RX6 37 "RoaringIndex" "reader" "LRoaringIndex$Reader;", Cond.fieldLink RX6 30 "RoaringIndex" "bytes" "LRoaringIndex$ByteRow;", Cond.fieldLink RX6 16 "RoaringIndex" "spare" "LRoaringIndex$NumberSet;", Cond.fieldLink RX6 163 "RoaringIndex$Reader" "faultPlace" "I", Cond.fieldLink RX6 11 "RoaringIndex" "sets" "[LRoaringIndex$NumberSet;", Cond.methodLink RX6 45 yX6_isNoSet, Cond.static yX6_isNoSet, Cond.initialized RX6, Cond.code yX6_isNoSet cX6_isNoSet 1 (some .boolean), Cond.methodLink RX6 74 yX6_takeWork, Cond.instanceMethod yX6_takeWork, Cond.selects RX6 yX6_takeWork yX6_takeWork, Cond.code yX6_takeWork cX6_takeWork 2 (some .boolean), Cond.fieldLink RX6 41 "RoaringIndex" "workLeft" "I", Cond.methodLink RX6 159 yX4_takeSet, Cond.instanceMethod yX4_takeSet, Cond.selects RX4 yX4_takeSet yX4_takeSet, Cond.initialized RX4, Cond.code yX4_takeSet cX4_takeSet 4 (some .boolean), Cond.fieldLink RX4 18 "RoaringIndex$Reader" "faultNumber" "I", Cond.fieldLink RX4 22 "RoaringIndex$Reader" "faultPlace" "I", Cond.fieldLink RX4 25 "RoaringIndex$Reader" "place" "I", Cond.fieldLink RX4 28 "RoaringIndex$ByteRow" "used" "I", Cond.fieldLink RX4 33 "RoaringIndex$Reader" "end" "I"]
def wsX6_read_r2 : List Cond := [Cond.fieldLink RX4 36 "RoaringIndex$Reader" "n" "I", Cond.fieldLink RX4 39 "RoaringIndex$Reader" "plainMark" "Z", Cond.fieldLink RX4 43 "RoaringIndex$Reader" "runBits" "I", Cond.fieldLink RX4 46 "RoaringIndex$Reader" "placesFrom" "I", Cond.fieldLink RX4 49 "RoaringIndex$NumberSet" "used" "I", Cond.methodLink RX4 52 yX4_takeMark, Cond.instanceMethod yX4_takeMark, Cond.selects RX4 yX4_takeMark yX4_takeMark, Cond.code yX4_takeMark cX4_takeMark 4 (some .boolean), Cond.constantLong RX4 83 (12346), Cond.constantLong RX4 88 (65535), Cond.constantLong RX4 90 (12347), Cond.methodLink RX4 75 yX4_isThere, Cond.instanceMethod yX4_isThere, Cond.selects RX4 yX4_isThere yX4_isThere, Cond.code yX4_isThere cX4_isThere 2 (some .boolean), Cond.methodLink RX4 67 yX4_tellFault, Cond.instanceMethod yX4_tellFault, Cond.selects RX4 yX4_tellFault yX4_tellFault, Cond.code yX4_tellFault cX4_tellFault 3 (some .boolean), Cond.methodLink RX4 79 yX4_take, Cond.instanceMethod yX4_take, Cond.selects RX4 yX4_take yX4_take, Cond.code yX4_take cX4_take 5 (some .long)]
def wsX6_read_r3 : List Cond := [Cond.methodLink RX4 71 yX0_numberAt, Cond.instanceMethod yX0_numberAt, Cond.selects RX0 yX0_numberAt yX0_numberAt, Cond.initialized RX0, Cond.code yX0_numberAt cX0_numberAt 6 (some .long), Cond.methodLink RX0 26 yX0_byteAt, Cond.instanceMethod yX0_byteAt, Cond.selects RX0 yX0_byteAt yX0_byteAt, Cond.code yX0_byteAt cX0_byteAt 2 (some .int), Cond.fieldLink RX0 9 "RoaringIndex$ByteRow" "held" "[B", Cond.methodLink RX4 85 yX4_takePlainTotal, Cond.instanceMethod yX4_takePlainTotal, Cond.selects RX4 yX4_takePlainTotal yX4_takePlainTotal, Cond.code yX4_takePlainTotal cX4_takePlainTotal 4 (some .boolean), Cond.constantLong RX4 96 (6), Cond.methodLink RX4 92 yX4_takeRunBits, Cond.instanceMethod yX4_takeRunBits, Cond.selects RX4 yX4_takeRunBits yX4_takeRunBits, Cond.code yX4_takeRunBits cX4_takeRunBits 3 (some .boolean), Cond.methodLink RX4 56 yX4_takeHeads, Cond.instanceMethod yX4_takeHeads, Cond.selects RX4 yX4_takeHeads yX4_takeHeads, Cond.code yX4_takeHeads cX4_takeHeads 3 (some .boolean), Cond.fieldLink RX4 9 "RoaringIndex$Reader" "keys" "[I"]
def wsX6_read_r4 : List Cond := [Cond.fieldLink RX4 15 "RoaringIndex$Reader" "totals" "[I", Cond.methodLink RX4 59 yX4_takePlaces, Cond.instanceMethod yX4_takePlaces, Cond.selects RX4 yX4_takePlaces yX4_takePlaces, Cond.code yX4_takePlaces cX4_takePlaces 1 (some .boolean), Cond.methodLink RX4 63 yX4_takeContainer, Cond.instanceMethod yX4_takeContainer, Cond.selects RX4 yX4_takeContainer yX4_takeContainer, Cond.code yX4_takeContainer cX4_takeContainer 5 (some .boolean), Cond.fieldLink RX4 98 "RoaringIndex$NumberSet" "items" "[LRoaringIndex$Container;", Cond.fieldLink RX4 108 "RoaringIndex$Container" "kind" "I", Cond.methodLink RX4 102 yX1_begin, Cond.instanceMethod yX1_begin, Cond.selects RX1 yX1_begin yX1_begin, Cond.initialized RX1, Cond.code yX1_begin cX1_begin 2 none, Cond.fieldLink RX1 13 "RoaringIndex$Container" "words" "[J", Cond.fieldLink RX1 27 "RoaringIndex$Container" "key" "I", Cond.fieldLink RX1 31 "RoaringIndex$Container" "kind" "I", Cond.fieldLink RX1 34 "RoaringIndex$Container" "total" "I", Cond.methodLink RX1 18 yX1_makeRoom, Cond.instanceMethod yX1_makeRoom, Cond.selects RX1 yX1_makeRoom yX1_makeRoom, Cond.code yX1_makeRoom cX1_makeRoom 1 none]
def wsX6_read_r5 : List Cond := [Cond.arrayClass .long, Cond.methodLink RX1 21 yJ7_fill_d0a16, Cond.static yJ7_fill_d0a16, Cond.initialized RJ7, Cond.code yJ7_fill_d0a16 cJ7_fill_d0a16 5 none, Cond.methodLink RX4 111 yX4_takeRuns, Cond.instanceMethod yX4_takeRuns, Cond.selects RX4 yX4_takeRuns yX4_takeRuns, Cond.code yX4_takeRuns cX4_takeRuns 9 (some .boolean), Cond.constant RX4 138 (65535), Cond.fieldLink RX4 129 "RoaringIndex$Container" "total" "I", Cond.methodLink RX4 121 yX1_changeLows, Cond.instanceMethod yX1_changeLows, Cond.selects RX1 yX1_changeLows yX1_changeLows, Cond.code yX1_changeLows cX1_changeLows 14 (some .boolean), Cond.constantLong RX1 50 (-1), Cond.methodLink RX1 52 yX1_upTo, Cond.static yX1_upTo, Cond.code yX1_upTo cX1_upTo 1 (some .long), Cond.methodLink RX1 56 yJ13_bitCount_95d88, Cond.static yJ13_bitCount_95d88, Cond.initialized RJ13, Cond.code yJ13_bitCount_95d88 cJ13_bitCount_95d88 2 (some .int), Cond.constantLong RJ13 314 (6148914691236517205)]
def wsX6_read_r6 : List Cond := [Cond.constantLong RJ13 316 (3689348814741910323), Cond.constantLong RJ13 318 (1085102592571150095), Cond.methodLink RX4 115 yX4_takeArray, Cond.instanceMethod yX4_takeArray, Cond.selects RX4 yX4_takeArray yX4_takeArray, Cond.code yX4_takeArray cX4_takeArray 7 (some .boolean), Cond.methodLink RX4 118 yX4_takeBitmap, Cond.instanceMethod yX4_takeBitmap, Cond.selects RX4 yX4_takeBitmap yX4_takeBitmap, Cond.code yX4_takeBitmap cX4_takeBitmap 5 (some .boolean), Cond.fieldLink RX4 125 "RoaringIndex$Container" "words" "[J", Cond.methodLink RX4 132 yJ13_bitCount_95d88, Cond.methodLink RX6 81 yX2_exchange, Cond.instanceMethod yX2_exchange, Cond.selects RX2 yX2_exchange yX2_exchange, Cond.initialized RX2, Cond.code yX2_exchange cX2_exchange 4 none, Cond.fieldLink RX2 11 "RoaringIndex$NumberSet" "items" "[LRoaringIndex$Container;", Cond.fieldLink RX2 18 "RoaringIndex$NumberSet" "used" "I", Cond.methodLink RX6 63 yX2_total, Cond.instanceMethod yX2_total, Cond.selects RX2 yX2_total yX2_total, Cond.code yX2_total cX2_total 3 (some .int), Cond.fieldLink RX2 63 "RoaringIndex$Container" "total" "I"]
def wsX6_read : List Cond := .code yX6_read cX6_read 2 (some .int) :: ((wsX6_read_r1 ++ (wsX6_read_r2 ++ (wsX6_read_r3 ++ (wsX6_read_r4 ++ (wsX6_read_r5 ++ wsX6_read_r6))))) ++ wsX60 ++ wsX40 ++ wsX00 ++ wsX20 ++ wsX10)
def wsX6_fault : List Cond := .code yX6_fault cX6_fault 1 (some .int) :: ([.fieldLink RX6 37 "RoaringIndex" "reader" "LRoaringIndex$Reader;", .fieldLink RX6 166 "RoaringIndex$Reader" "faultNumber" "I"] ++ wsX60 ++ wsX40)
def wsX6_cut : List Cond := .code yX6_cut cX6_cut 3 (some .int) :: ([.fieldLink RX6 30 "RoaringIndex" "bytes" "LRoaringIndex$ByteRow;", .fieldLink RX6 154 "RoaringIndex$ByteRow" "used" "I"] ++ wsX60 ++ wsX00)
def wsX6_type_r1 : List Cond := [Cond.fieldLink RX6 30 "RoaringIndex" "bytes" "LRoaringIndex$ByteRow;", Cond.fieldLink RX6 154 "RoaringIndex$ByteRow" "used" "I", Cond.constant RX6 153 (60000), Cond.methodLink RX6 169 yX0_put, Cond.instanceMethod yX0_put, Cond.selects RX0 yX0_put yX0_put, Cond.initialized RX0, Cond.code yX0_put cX0_put 5 none, Cond.fieldLink RX0 15 "RoaringIndex$ByteRow" "used" "I", Cond.fieldLink RX0 9 "RoaringIndex$ByteRow" "held" "[B", Cond.constant RX0 19 (60000), Cond.methodLink RX0 20 yJ7_copyOf_9075b, Cond.static yJ7_copyOf_9075b, Cond.initialized RJ7, Cond.code yJ7_copyOf_9075b cJ7_copyOf_9075b 3 (some (.array .byte)), Cond.methodLink RJ7 310 ⟨"[B", "clone", "()Ljava/lang/Object;"⟩, Cond.sameMethod "[B" "java/lang/Object" "clone" "()Ljava/lang/Object;", Cond.native ⟨"java/lang/Object", "clone", "()Ljava/lang/Object;"⟩, Cond.instanceMethod ⟨"java/lang/Object", "clone", "()Ljava/lang/Object;"⟩, Cond.selects "[B" ⟨"[B", "clone", "()Ljava/lang/Object;"⟩ ⟨"java/lang/Object", "clone", "()Ljava/lang/Object;"⟩, Cond.classLink RJ7 311 "[B", Cond.arrayClass .byte, Cond.methodLink RJ7 304 Lib.Math.min.name, Cond.static Lib.Math.min.name]
def wsX6_type_r2 : List Cond := [Cond.initialized "java/lang/Math", Cond.code Lib.Math.min.name Lib.Math.min.code 2 (some .int), Cond.methodLink RJ7 150 arraycopyName, Cond.native arraycopyName, Cond.static arraycopyName, Cond.initialized "java/lang/System"]
def wsX6_type : List Cond := .code yX6_type cX6_type 4 (some .int) :: ((wsX6_type_r1 ++ wsX6_type_r2) ++ wsX60 ++ wsX00)
def wsX6_at : List Cond := .code yX6_at cX6_at 2 (some .int) :: ([.fieldLink RX6 30 "RoaringIndex" "bytes" "LRoaringIndex$ByteRow;", .methodLink RX6 173 yX0_lacks, .instanceMethod yX0_lacks, .selects RX0 yX0_lacks yX0_lacks, .initialized RX0, .code yX0_lacks cX0_lacks 2 (some .boolean), .fieldLink RX0 15 "RoaringIndex$ByteRow" "used" "I", .methodLink RX6 176 yX0_byteAt, .instanceMethod yX0_byteAt, .selects RX0 yX0_byteAt yX0_byteAt, .code yX0_byteAt cX0_byteAt 2 (some .int), .fieldLink RX0 9 "RoaringIndex$ByteRow" "held" "[B"] ++ wsX60 ++ wsX00)
def wsX6_alter : List Cond := .code yX6_alter cX6_alter 4 (some .int) :: ([.fieldLink RX6 30 "RoaringIndex" "bytes" "LRoaringIndex$ByteRow;", .fieldLink RX6 179 "RoaringIndex$ByteRow" "held" "[B", .methodLink RX6 173 yX0_lacks, .instanceMethod yX0_lacks, .selects RX0 yX0_lacks yX0_lacks, .initialized RX0, .code yX0_lacks cX0_lacks 2 (some .boolean), .fieldLink RX0 15 "RoaringIndex$ByteRow" "used" "I", .methodLink RX6 176 yX0_byteAt, .instanceMethod yX0_byteAt, .selects RX0 yX0_byteAt yX0_byteAt, .code yX0_byteAt cX0_byteAt 2 (some .int), .fieldLink RX0 9 "RoaringIndex$ByteRow" "held" "[B"] ++ wsX60 ++ wsX00)
def wsX6_work : List Cond := .code yX6_work cX6_work 1 (some .int) :: ([.fieldLink RX6 41 "RoaringIndex" "workLeft" "I"] ++ wsX60)
def wsX6_size : List Cond := .code yX6_size cX6_size 1 (some .int) :: ([.fieldLink RX6 30 "RoaringIndex" "bytes" "LRoaringIndex$ByteRow;", .fieldLink RX6 154 "RoaringIndex$ByteRow" "used" "I"] ++ wsX60 ++ wsX00)
def wsX6_digest_r1 : List Cond := [Cond.constantLong RX6 183 (17), Cond.fieldLink RX6 11 "RoaringIndex" "sets" "[LRoaringIndex$NumberSet;", Cond.methodLink RX6 185 yX2_digestSetFrom, Cond.instanceMethod yX2_digestSetFrom, Cond.selects RX2 yX2_digestSetFrom yX2_digestSetFrom, Cond.initialized RX2, Cond.code yX2_digestSetFrom cX2_digestSetFrom 6 (some .long), Cond.constantLong RX2 106 (31), Cond.fieldLink RX2 18 "RoaringIndex$NumberSet" "used" "I", Cond.fieldLink RX2 11 "RoaringIndex$NumberSet" "items" "[LRoaringIndex$Container;", Cond.methodLink RX2 108 yX2_total, Cond.instanceMethod yX2_total, Cond.selects RX2 yX2_total yX2_total, Cond.code yX2_total cX2_total 3 (some .int), Cond.fieldLink RX2 63 "RoaringIndex$Container" "total" "I", Cond.methodLink RX2 111 yX1_digestFrom, Cond.instanceMethod yX1_digestFrom, Cond.selects RX1 yX1_digestFrom yX1_digestFrom, Cond.initialized RX1, Cond.code yX1_digestFrom cX1_digestFrom 6 (some .long), Cond.constantLong RX1 86 (31), Cond.fieldLink RX1 27 "RoaringIndex$Container" "key" "I", Cond.fieldLink RX1 31 "RoaringIndex$Container" "kind" "I", Cond.fieldLink RX1 34 "RoaringIndex$Container" "total" "I"]
def wsX6_digest_r2 : List Cond := [Cond.fieldLink RX1 13 "RoaringIndex$Container" "words" "[J", Cond.methodLink RX1 43 yX1_totalRuns, Cond.instanceMethod yX1_totalRuns, Cond.selects RX1 yX1_totalRuns yX1_totalRuns, Cond.code yX1_totalRuns cX1_totalRuns 7 (some .int), Cond.constantLong RX1 50 (-1), Cond.methodLink RX1 56 yJ13_bitCount_95d88, Cond.static yJ13_bitCount_95d88, Cond.initialized RJ13, Cond.code yJ13_bitCount_95d88 cJ13_bitCount_95d88 2 (some .int), Cond.constantLong RJ13 314 (6148914691236517205), Cond.constantLong RJ13 316 (3689348814741910323), Cond.constantLong RJ13 318 (1085102592571150095)]
def wsX6_digest : List Cond := .code yX6_digest cX6_digest 4 (some .long) :: ((wsX6_digest_r1 ++ wsX6_digest_r2) ++ wsX60 ++ wsX20 ++ wsX10)
def wsX7_init : List Cond := .code yX7_init cX7_init 1 none :: ([.methodLink RX7 1 objectInit, .instanceMethod objectInit, .code objectInit ⟨#[0xb1]⟩ 1 none, .arrayClass .int, .fieldLink RX7 7 "RoaringIndexModel" "many" "[I", .fieldLink RX7 13 "RoaringIndexModel" "keys" "[I", .fieldLink RX7 16 "RoaringIndexModel" "kinds" "[I", .fieldLink RX7 19 "RoaringIndexModel" "sizes" "[I", .constant RX7 22 (104448), .arrayClass .long, .fieldLink RX7 23 "RoaringIndexModel" "words" "[J", .fieldLink RX7 27 "RoaringIndexModel" "work" "I", .constant RX7 31 (60000), .fieldLink RX7 32 "RoaringIndexModel" "bytes" "[I", .fieldLink RX7 35 "RoaringIndexModel" "places" "[I", .fieldLink RX7 38 "RoaringIndexModel" "told" "[J", .fieldLink RX7 41 "RoaringIndexModel" "heads" "[I"] ++ wsX70)
def wsX7_in : List Cond := .code yX7_in cX7_in 6 (some .boolean) :: ([])
def wsX7_isSet : List Cond := .code yX7_isSet cX7_isSet 1 (some .boolean) :: ([.constantLong RX7 44 (7), .methodLink RX7 46 yX7_in, .static yX7_in, .initialized RX7, .code yX7_in cX7_in 6 (some .boolean)])
def wsX7_isLow : List Cond := .code yX7_isLow cX7_isLow 1 (some .boolean) :: ([.constantLong RX7 50 (65535), .methodLink RX7 46 yX7_in, .static yX7_in, .initialized RX7, .code yX7_in cX7_in 6 (some .boolean)])
def wsX7_bitsOf : List Cond := .code yX7_bitsOf cX7_bitsOf 5 (some .int) :: ([])
def wsX7_hasLow : List Cond := .code yX7_hasLow cX7_hasLow 3 (some .boolean) :: ([.fieldLink RX7 23 "RoaringIndexModel" "words" "[J"] ++ wsX70)
def wsX7_turn : List Cond := .code yX7_turn cX7_turn 3 none :: ([.fieldLink RX7 23 "RoaringIndexModel" "words" "[J"] ++ wsX70)
def wsX7_plainKind : List Cond := .code yX7_plainKind cX7_plainKind 2 (some .int) :: ([.fieldLink RX7 19 "RoaringIndexModel" "sizes" "[I"] ++ wsX70)
def wsX7_runsOf : List Cond := .code yX7_runsOf cX7_runsOf 7 (some .int) :: ([.fieldLink RX7 23 "RoaringIndexModel" "words" "[J", .constantLong RX7 52 (-1), .methodLink RX7 54 yX7_bitsOf, .static yX7_bitsOf, .initialized RX7, .code yX7_bitsOf cX7_bitsOf 5 (some .int)] ++ wsX70)
def wsX7_copy : List Cond := .code yX7_copy cX7_copy 4 none :: ([.fieldLink RX7 13 "RoaringIndexModel" "keys" "[I", .fieldLink RX7 16 "RoaringIndexModel" "kinds" "[I", .fieldLink RX7 19 "RoaringIndexModel" "sizes" "[I", .fieldLink RX7 23 "RoaringIndexModel" "words" "[J"] ++ wsX70)
def wsX7_copySet : List Cond := .code yX7_copySet cX7_copySet 4 none :: ([.fieldLink RX7 7 "RoaringIndexModel" "many" "[I", .methodLink RX7 58 yX7_copy, .instanceMethod yX7_copy, .selects RX7 yX7_copy yX7_copy, .initialized RX7, .code yX7_copy cX7_copy 4 none, .fieldLink RX7 13 "RoaringIndexModel" "keys" "[I", .fieldLink RX7 16 "RoaringIndexModel" "kinds" "[I", .fieldLink RX7 19 "RoaringIndexModel" "sizes" "[I", .fieldLink RX7 23 "RoaringIndexModel" "words" "[J"] ++ wsX70)
def wsX7_containerOf : List Cond := .code yX7_containerOf cX7_containerOf 4 (some .int) :: ([.fieldLink RX7 7 "RoaringIndexModel" "many" "[I", .fieldLink RX7 13 "RoaringIndexModel" "keys" "[I"] ++ wsX70)
def wsX7_made : List Cond := .code yX7_made cX7_made 6 (some .int) :: ([.fieldLink RX7 7 "RoaringIndexModel" "many" "[I", .fieldLink RX7 13 "RoaringIndexModel" "keys" "[I", .fieldLink RX7 16 "RoaringIndexModel" "kinds" "[I", .fieldLink RX7 19 "RoaringIndexModel" "sizes" "[I", .fieldLink RX7 23 "RoaringIndexModel" "words" "[J", .methodLink RX7 58 yX7_copy, .instanceMethod yX7_copy, .selects RX7 yX7_copy yX7_copy, .initialized RX7, .code yX7_copy cX7_copy 4 none] ++ wsX70)
def wsX7_changed : List Cond := .code yX7_changed cX7_changed 4 none :: ([.fieldLink RX7 19 "RoaringIndexModel" "sizes" "[I", .fieldLink RX7 16 "RoaringIndexModel" "kinds" "[I", .fieldLink RX7 7 "RoaringIndexModel" "many" "[I", .methodLink RX7 62 yX7_plainKind, .instanceMethod yX7_plainKind, .selects RX7 yX7_plainKind yX7_plainKind, .initialized RX7, .code yX7_plainKind cX7_plainKind 2 (some .int), .methodLink RX7 58 yX7_copy, .instanceMethod yX7_copy, .selects RX7 yX7_copy yX7_copy, .code yX7_copy cX7_copy 4 none, .fieldLink RX7 13 "RoaringIndexModel" "keys" "[I", .fieldLink RX7 23 "RoaringIndexModel" "words" "[J"] ++ wsX70)
def wsX7_all : List Cond := .code yX7_all cX7_all 4 (some .int) :: ([.fieldLink RX7 7 "RoaringIndexModel" "many" "[I", .fieldLink RX7 19 "RoaringIndexModel" "sizes" "[I"] ++ wsX70)
def wsX7_add_r1 : List Cond := [Cond.fieldLink RX7 7 "RoaringIndexModel" "many" "[I", Cond.constant RX7 74 (65535), Cond.fieldLink RX7 19 "RoaringIndexModel" "sizes" "[I", Cond.methodLink RX7 66 yX7_isSet, Cond.static yX7_isSet, Cond.initialized RX7, Cond.code yX7_isSet cX7_isSet 1 (some .boolean), Cond.constantLong RX7 44 (7), Cond.methodLink RX7 46 yX7_in, Cond.static yX7_in, Cond.code yX7_in cX7_in 6 (some .boolean), Cond.methodLink RX7 70 yX7_containerOf, Cond.instanceMethod yX7_containerOf, Cond.selects RX7 yX7_containerOf yX7_containerOf, Cond.code yX7_containerOf cX7_containerOf 4 (some .int), Cond.fieldLink RX7 13 "RoaringIndexModel" "keys" "[I", Cond.methodLink RX7 75 yX7_hasLow, Cond.instanceMethod yX7_hasLow, Cond.selects RX7 yX7_hasLow yX7_hasLow, Cond.code yX7_hasLow cX7_hasLow 3 (some .boolean), Cond.fieldLink RX7 23 "RoaringIndexModel" "words" "[J", Cond.methodLink RX7 79 yX7_made, Cond.instanceMethod yX7_made, Cond.selects RX7 yX7_made yX7_made]
def wsX7_add_r2 : List Cond := [Cond.code yX7_made cX7_made 6 (some .int), Cond.fieldLink RX7 16 "RoaringIndexModel" "kinds" "[I", Cond.methodLink RX7 58 yX7_copy, Cond.instanceMethod yX7_copy, Cond.selects RX7 yX7_copy yX7_copy, Cond.code yX7_copy cX7_copy 4 none, Cond.methodLink RX7 82 yX7_turn, Cond.instanceMethod yX7_turn, Cond.selects RX7 yX7_turn yX7_turn, Cond.code yX7_turn cX7_turn 3 none, Cond.methodLink RX7 85 yX7_changed, Cond.instanceMethod yX7_changed, Cond.selects RX7 yX7_changed yX7_changed, Cond.code yX7_changed cX7_changed 4 none, Cond.methodLink RX7 62 yX7_plainKind, Cond.instanceMethod yX7_plainKind, Cond.selects RX7 yX7_plainKind yX7_plainKind, Cond.code yX7_plainKind cX7_plainKind 2 (some .int)]
def wsX7_add : List Cond := .code yX7_add cX7_add 4 (some .int) :: ((wsX7_add_r1 ++ wsX7_add_r2) ++ wsX70)
def wsX7_remove_r1 : List Cond := [Cond.constant RX7 74 (65535), Cond.fieldLink RX7 19 "RoaringIndexModel" "sizes" "[I", Cond.methodLink RX7 66 yX7_isSet, Cond.static yX7_isSet, Cond.initialized RX7, Cond.code yX7_isSet cX7_isSet 1 (some .boolean), Cond.constantLong RX7 44 (7), Cond.methodLink RX7 46 yX7_in, Cond.static yX7_in, Cond.code yX7_in cX7_in 6 (some .boolean), Cond.methodLink RX7 70 yX7_containerOf, Cond.instanceMethod yX7_containerOf, Cond.selects RX7 yX7_containerOf yX7_containerOf, Cond.code yX7_containerOf cX7_containerOf 4 (some .int), Cond.fieldLink RX7 7 "RoaringIndexModel" "many" "[I", Cond.fieldLink RX7 13 "RoaringIndexModel" "keys" "[I", Cond.methodLink RX7 75 yX7_hasLow, Cond.instanceMethod yX7_hasLow, Cond.selects RX7 yX7_hasLow yX7_hasLow, Cond.code yX7_hasLow cX7_hasLow 3 (some .boolean), Cond.fieldLink RX7 23 "RoaringIndexModel" "words" "[J", Cond.methodLink RX7 82 yX7_turn, Cond.instanceMethod yX7_turn, Cond.selects RX7 yX7_turn yX7_turn]
def wsX7_remove_r2 : List Cond := [Cond.code yX7_turn cX7_turn 3 none, Cond.methodLink RX7 85 yX7_changed, Cond.instanceMethod yX7_changed, Cond.selects RX7 yX7_changed yX7_changed, Cond.code yX7_changed cX7_changed 4 none, Cond.fieldLink RX7 16 "RoaringIndexModel" "kinds" "[I", Cond.methodLink RX7 62 yX7_plainKind, Cond.instanceMethod yX7_plainKind, Cond.selects RX7 yX7_plainKind yX7_plainKind, Cond.code yX7_plainKind cX7_plainKind 2 (some .int), Cond.methodLink RX7 58 yX7_copy, Cond.instanceMethod yX7_copy, Cond.selects RX7 yX7_copy yX7_copy, Cond.code yX7_copy cX7_copy 4 none]
def wsX7_remove : List Cond := .code yX7_remove cX7_remove 4 (some .int) :: ((wsX7_remove_r1 ++ wsX7_remove_r2) ++ wsX70)
def wsX7_sweep_r1 : List Cond := [Cond.fieldLink RX7 7 "RoaringIndexModel" "many" "[I", Cond.fieldLink RX7 19 "RoaringIndexModel" "sizes" "[I", Cond.methodLink RX7 70 yX7_containerOf, Cond.instanceMethod yX7_containerOf, Cond.selects RX7 yX7_containerOf yX7_containerOf, Cond.initialized RX7, Cond.code yX7_containerOf cX7_containerOf 4 (some .int), Cond.fieldLink RX7 13 "RoaringIndexModel" "keys" "[I", Cond.methodLink RX7 88 yX7_all, Cond.instanceMethod yX7_all, Cond.selects RX7 yX7_all yX7_all, Cond.code yX7_all cX7_all 4 (some .int), Cond.methodLink RX7 79 yX7_made, Cond.instanceMethod yX7_made, Cond.selects RX7 yX7_made yX7_made, Cond.code yX7_made cX7_made 6 (some .int), Cond.fieldLink RX7 16 "RoaringIndexModel" "kinds" "[I", Cond.fieldLink RX7 23 "RoaringIndexModel" "words" "[J", Cond.methodLink RX7 58 yX7_copy, Cond.instanceMethod yX7_copy, Cond.selects RX7 yX7_copy yX7_copy, Cond.code yX7_copy cX7_copy 4 none, Cond.methodLink RX7 75 yX7_hasLow, Cond.instanceMethod yX7_hasLow]
def wsX7_sweep_r2 : List Cond := [Cond.selects RX7 yX7_hasLow yX7_hasLow, Cond.code yX7_hasLow cX7_hasLow 3 (some .boolean), Cond.methodLink RX7 82 yX7_turn, Cond.instanceMethod yX7_turn, Cond.selects RX7 yX7_turn yX7_turn, Cond.code yX7_turn cX7_turn 3 none, Cond.methodLink RX7 85 yX7_changed, Cond.instanceMethod yX7_changed, Cond.selects RX7 yX7_changed yX7_changed, Cond.code yX7_changed cX7_changed 4 none, Cond.methodLink RX7 62 yX7_plainKind, Cond.instanceMethod yX7_plainKind, Cond.selects RX7 yX7_plainKind yX7_plainKind, Cond.code yX7_plainKind cX7_plainKind 2 (some .int)]
def wsX7_sweep : List Cond := .code yX7_sweep cX7_sweep 11 (some .int) :: ((wsX7_sweep_r1 ++ wsX7_sweep_r2) ++ wsX70)
def wsX7_range_r1 : List Cond := [Cond.constantLong RX7 94 (2), Cond.methodLink RX7 66 yX7_isSet, Cond.static yX7_isSet, Cond.initialized RX7, Cond.code yX7_isSet cX7_isSet 1 (some .boolean), Cond.constantLong RX7 44 (7), Cond.methodLink RX7 46 yX7_in, Cond.static yX7_in, Cond.code yX7_in cX7_in 6 (some .boolean), Cond.methodLink RX7 91 yX7_isLow, Cond.static yX7_isLow, Cond.code yX7_isLow cX7_isLow 1 (some .boolean), Cond.constantLong RX7 50 (65535), Cond.methodLink RX7 96 yX7_sweep, Cond.instanceMethod yX7_sweep, Cond.selects RX7 yX7_sweep yX7_sweep, Cond.code yX7_sweep cX7_sweep 11 (some .int), Cond.fieldLink RX7 7 "RoaringIndexModel" "many" "[I", Cond.fieldLink RX7 19 "RoaringIndexModel" "sizes" "[I", Cond.methodLink RX7 70 yX7_containerOf, Cond.instanceMethod yX7_containerOf, Cond.selects RX7 yX7_containerOf yX7_containerOf, Cond.code yX7_containerOf cX7_containerOf 4 (some .int), Cond.fieldLink RX7 13 "RoaringIndexModel" "keys" "[I"]
def wsX7_range_r2 : List Cond := [Cond.methodLink RX7 88 yX7_all, Cond.instanceMethod yX7_all, Cond.selects RX7 yX7_all yX7_all, Cond.code yX7_all cX7_all 4 (some .int), Cond.methodLink RX7 79 yX7_made, Cond.instanceMethod yX7_made, Cond.selects RX7 yX7_made yX7_made, Cond.code yX7_made cX7_made 6 (some .int), Cond.fieldLink RX7 16 "RoaringIndexModel" "kinds" "[I", Cond.fieldLink RX7 23 "RoaringIndexModel" "words" "[J", Cond.methodLink RX7 58 yX7_copy, Cond.instanceMethod yX7_copy, Cond.selects RX7 yX7_copy yX7_copy, Cond.code yX7_copy cX7_copy 4 none, Cond.methodLink RX7 75 yX7_hasLow, Cond.instanceMethod yX7_hasLow, Cond.selects RX7 yX7_hasLow yX7_hasLow, Cond.code yX7_hasLow cX7_hasLow 3 (some .boolean), Cond.methodLink RX7 82 yX7_turn, Cond.instanceMethod yX7_turn, Cond.selects RX7 yX7_turn yX7_turn, Cond.code yX7_turn cX7_turn 3 none, Cond.methodLink RX7 85 yX7_changed, Cond.instanceMethod yX7_changed]
def wsX7_range_r3 : List Cond := [Cond.selects RX7 yX7_changed yX7_changed, Cond.code yX7_changed cX7_changed 4 none, Cond.methodLink RX7 62 yX7_plainKind, Cond.instanceMethod yX7_plainKind, Cond.selects RX7 yX7_plainKind yX7_plainKind, Cond.code yX7_plainKind cX7_plainKind 2 (some .int)]
def wsX7_range : List Cond := .code yX7_range cX7_range 6 (some .int) :: ((wsX7_range_r1 ++ (wsX7_range_r2 ++ wsX7_range_r3)) ++ wsX70)
def wsX7_steps_r1 : List Cond := [Cond.constantLong RX7 50 (65535), Cond.constant RX7 74 (65535), Cond.methodLink RX7 66 yX7_isSet, Cond.static yX7_isSet, Cond.initialized RX7, Cond.code yX7_isSet cX7_isSet 1 (some .boolean), Cond.constantLong RX7 44 (7), Cond.methodLink RX7 46 yX7_in, Cond.static yX7_in, Cond.code yX7_in cX7_in 6 (some .boolean), Cond.methodLink RX7 91 yX7_isLow, Cond.static yX7_isLow, Cond.code yX7_isLow cX7_isLow 1 (some .boolean), Cond.methodLink RX7 96 yX7_sweep, Cond.instanceMethod yX7_sweep, Cond.selects RX7 yX7_sweep yX7_sweep, Cond.code yX7_sweep cX7_sweep 11 (some .int), Cond.fieldLink RX7 7 "RoaringIndexModel" "many" "[I", Cond.fieldLink RX7 19 "RoaringIndexModel" "sizes" "[I", Cond.methodLink RX7 70 yX7_containerOf, Cond.instanceMethod yX7_containerOf, Cond.selects RX7 yX7_containerOf yX7_containerOf, Cond.code yX7_containerOf cX7_containerOf 4 (some .int), Cond.fieldLink RX7 13 "RoaringIndexModel" "keys" "[I"]
def wsX7_steps_r2 : List Cond := [Cond.methodLink RX7 88 yX7_all, Cond.instanceMethod yX7_all, Cond.selects RX7 yX7_all yX7_all, Cond.code yX7_all cX7_all 4 (some .int), Cond.methodLink RX7 79 yX7_made, Cond.instanceMethod yX7_made, Cond.selects RX7 yX7_made yX7_made, Cond.code yX7_made cX7_made 6 (some .int), Cond.fieldLink RX7 16 "RoaringIndexModel" "kinds" "[I", Cond.fieldLink RX7 23 "RoaringIndexModel" "words" "[J", Cond.methodLink RX7 58 yX7_copy, Cond.instanceMethod yX7_copy, Cond.selects RX7 yX7_copy yX7_copy, Cond.code yX7_copy cX7_copy 4 none, Cond.methodLink RX7 75 yX7_hasLow, Cond.instanceMethod yX7_hasLow, Cond.selects RX7 yX7_hasLow yX7_hasLow, Cond.code yX7_hasLow cX7_hasLow 3 (some .boolean), Cond.methodLink RX7 82 yX7_turn, Cond.instanceMethod yX7_turn, Cond.selects RX7 yX7_turn yX7_turn, Cond.code yX7_turn cX7_turn 3 none, Cond.methodLink RX7 85 yX7_changed, Cond.instanceMethod yX7_changed]
def wsX7_steps_r3 : List Cond := [Cond.selects RX7 yX7_changed yX7_changed, Cond.code yX7_changed cX7_changed 4 none, Cond.methodLink RX7 62 yX7_plainKind, Cond.instanceMethod yX7_plainKind, Cond.selects RX7 yX7_plainKind yX7_plainKind, Cond.code yX7_plainKind cX7_plainKind 2 (some .int)]
def wsX7_steps : List Cond := .code yX7_steps cX7_steps 5 (some .int) :: ((wsX7_steps_r1 ++ (wsX7_steps_r2 ++ wsX7_steps_r3)) ++ wsX70)
def wsX7_clear : List Cond := .code yX7_clear cX7_clear 3 (some .int) :: ([.fieldLink RX7 7 "RoaringIndexModel" "many" "[I", .methodLink RX7 66 yX7_isSet, .static yX7_isSet, .initialized RX7, .code yX7_isSet cX7_isSet 1 (some .boolean), .constantLong RX7 44 (7), .methodLink RX7 46 yX7_in, .static yX7_in, .code yX7_in cX7_in 6 (some .boolean), .methodLink RX7 88 yX7_all, .instanceMethod yX7_all, .selects RX7 yX7_all yX7_all, .code yX7_all cX7_all 4 (some .int), .fieldLink RX7 19 "RoaringIndexModel" "sizes" "[I"] ++ wsX70)
def wsX7_isLike : List Cond := .code yX7_isLike cX7_isLike 4 (some .boolean) :: ([.fieldLink RX7 19 "RoaringIndexModel" "sizes" "[I", .fieldLink RX7 23 "RoaringIndexModel" "words" "[J"] ++ wsX70)
def wsX7_joined : List Cond := .code yX7_joined cX7_joined 5 (some .long) :: ([.constantLong RX7 52 (-1)])
def wsX7_makeOne_r1 : List Cond := [Cond.fieldLink RX7 7 "RoaringIndexModel" "many" "[I", Cond.fieldLink RX7 23 "RoaringIndexModel" "words" "[J", Cond.fieldLink RX7 19 "RoaringIndexModel" "sizes" "[I", Cond.fieldLink RX7 16 "RoaringIndexModel" "kinds" "[I", Cond.methodLink RX7 100 yX7_joined, Cond.static yX7_joined, Cond.initialized RX7, Cond.code yX7_joined cX7_joined 5 (some .long), Cond.constantLong RX7 52 (-1), Cond.methodLink RX7 79 yX7_made, Cond.instanceMethod yX7_made, Cond.selects RX7 yX7_made yX7_made, Cond.code yX7_made cX7_made 6 (some .int), Cond.fieldLink RX7 13 "RoaringIndexModel" "keys" "[I", Cond.methodLink RX7 58 yX7_copy, Cond.instanceMethod yX7_copy, Cond.selects RX7 yX7_copy yX7_copy, Cond.code yX7_copy cX7_copy 4 none, Cond.methodLink RX7 54 yX7_bitsOf, Cond.static yX7_bitsOf, Cond.code yX7_bitsOf cX7_bitsOf 5 (some .int), Cond.methodLink RX7 85 yX7_changed, Cond.instanceMethod yX7_changed, Cond.selects RX7 yX7_changed yX7_changed]
def wsX7_makeOne_r2 : List Cond := [Cond.code yX7_changed cX7_changed 4 none, Cond.methodLink RX7 62 yX7_plainKind, Cond.instanceMethod yX7_plainKind, Cond.selects RX7 yX7_plainKind yX7_plainKind, Cond.code yX7_plainKind cX7_plainKind 2 (some .int), Cond.methodLink RX7 104 yX7_isLike, Cond.instanceMethod yX7_isLike, Cond.selects RX7 yX7_isLike yX7_isLike, Cond.code yX7_isLike cX7_isLike 4 (some .boolean)]
def wsX7_makeOne : List Cond := .code yX7_makeOne cX7_makeOne 9 (some .boolean) :: ((wsX7_makeOne_r1 ++ wsX7_makeOne_r2) ++ wsX70)
def wsX7_make_r1 : List Cond := [Cond.fieldLink RX7 7 "RoaringIndexModel" "many" "[I", Cond.fieldLink RX7 13 "RoaringIndexModel" "keys" "[I", Cond.constant RX7 107 (65536), Cond.methodLink RX7 108 yX7_makeOne, Cond.instanceMethod yX7_makeOne, Cond.selects RX7 yX7_makeOne yX7_makeOne, Cond.initialized RX7, Cond.code yX7_makeOne cX7_makeOne 9 (some .boolean), Cond.fieldLink RX7 23 "RoaringIndexModel" "words" "[J", Cond.fieldLink RX7 19 "RoaringIndexModel" "sizes" "[I", Cond.fieldLink RX7 16 "RoaringIndexModel" "kinds" "[I", Cond.methodLink RX7 100 yX7_joined, Cond.static yX7_joined, Cond.code yX7_joined cX7_joined 5 (some .long), Cond.constantLong RX7 52 (-1), Cond.methodLink RX7 79 yX7_made, Cond.instanceMethod yX7_made, Cond.selects RX7 yX7_made yX7_made, Cond.code yX7_made cX7_made 6 (some .int), Cond.methodLink RX7 58 yX7_copy, Cond.instanceMethod yX7_copy, Cond.selects RX7 yX7_copy yX7_copy, Cond.code yX7_copy cX7_copy 4 none, Cond.methodLink RX7 54 yX7_bitsOf]
def wsX7_make_r2 : List Cond := [Cond.static yX7_bitsOf, Cond.code yX7_bitsOf cX7_bitsOf 5 (some .int), Cond.methodLink RX7 85 yX7_changed, Cond.instanceMethod yX7_changed, Cond.selects RX7 yX7_changed yX7_changed, Cond.code yX7_changed cX7_changed 4 none, Cond.methodLink RX7 62 yX7_plainKind, Cond.instanceMethod yX7_plainKind, Cond.selects RX7 yX7_plainKind yX7_plainKind, Cond.code yX7_plainKind cX7_plainKind 2 (some .int), Cond.methodLink RX7 104 yX7_isLike, Cond.instanceMethod yX7_isLike, Cond.selects RX7 yX7_isLike yX7_isLike, Cond.code yX7_isLike cX7_isLike 4 (some .boolean)]
def wsX7_make : List Cond := .code yX7_make cX7_make 9 (some .boolean) :: ((wsX7_make_r1 ++ wsX7_make_r2) ++ wsX70)
def wsX7_join_r1 : List Cond := [Cond.constantLong RX7 112 (3), Cond.fieldLink RX7 27 "RoaringIndexModel" "work" "I", Cond.methodLink RX7 66 yX7_isSet, Cond.static yX7_isSet, Cond.initialized RX7, Cond.code yX7_isSet cX7_isSet 1 (some .boolean), Cond.constantLong RX7 44 (7), Cond.methodLink RX7 46 yX7_in, Cond.static yX7_in, Cond.code yX7_in cX7_in 6 (some .boolean), Cond.methodLink RX7 114 yX7_make, Cond.instanceMethod yX7_make, Cond.selects RX7 yX7_make yX7_make, Cond.code yX7_make cX7_make 9 (some .boolean), Cond.fieldLink RX7 7 "RoaringIndexModel" "many" "[I", Cond.fieldLink RX7 13 "RoaringIndexModel" "keys" "[I", Cond.constant RX7 107 (65536), Cond.methodLink RX7 108 yX7_makeOne, Cond.instanceMethod yX7_makeOne, Cond.selects RX7 yX7_makeOne yX7_makeOne, Cond.code yX7_makeOne cX7_makeOne 9 (some .boolean), Cond.fieldLink RX7 23 "RoaringIndexModel" "words" "[J", Cond.fieldLink RX7 19 "RoaringIndexModel" "sizes" "[I", Cond.fieldLink RX7 16 "RoaringIndexModel" "kinds" "[I"]
def wsX7_join_r2 : List Cond := [Cond.methodLink RX7 100 yX7_joined, Cond.static yX7_joined, Cond.code yX7_joined cX7_joined 5 (some .long), Cond.constantLong RX7 52 (-1), Cond.methodLink RX7 79 yX7_made, Cond.instanceMethod yX7_made, Cond.selects RX7 yX7_made yX7_made, Cond.code yX7_made cX7_made 6 (some .int), Cond.methodLink RX7 58 yX7_copy, Cond.instanceMethod yX7_copy, Cond.selects RX7 yX7_copy yX7_copy, Cond.code yX7_copy cX7_copy 4 none, Cond.methodLink RX7 54 yX7_bitsOf, Cond.static yX7_bitsOf, Cond.code yX7_bitsOf cX7_bitsOf 5 (some .int), Cond.methodLink RX7 85 yX7_changed, Cond.instanceMethod yX7_changed, Cond.selects RX7 yX7_changed yX7_changed, Cond.code yX7_changed cX7_changed 4 none, Cond.methodLink RX7 62 yX7_plainKind, Cond.instanceMethod yX7_plainKind, Cond.selects RX7 yX7_plainKind yX7_plainKind, Cond.code yX7_plainKind cX7_plainKind 2 (some .int), Cond.methodLink RX7 104 yX7_isLike]
def wsX7_join_r3 : List Cond := [Cond.instanceMethod yX7_isLike, Cond.selects RX7 yX7_isLike yX7_isLike, Cond.code yX7_isLike cX7_isLike 4 (some .boolean), Cond.methodLink RX7 118 yX7_copySet, Cond.instanceMethod yX7_copySet, Cond.selects RX7 yX7_copySet yX7_copySet, Cond.code yX7_copySet cX7_copySet 4 none, Cond.methodLink RX7 88 yX7_all, Cond.instanceMethod yX7_all, Cond.selects RX7 yX7_all yX7_all, Cond.code yX7_all cX7_all 4 (some .int)]
def wsX7_join : List Cond := .code yX7_join cX7_join 5 (some .int) :: ((wsX7_join_r1 ++ (wsX7_join_r2 ++ wsX7_join_r3)) ++ wsX70)
def wsX7_shrink_r1 : List Cond := [Cond.fieldLink RX7 27 "RoaringIndexModel" "work" "I", Cond.fieldLink RX7 7 "RoaringIndexModel" "many" "[I", Cond.fieldLink RX7 19 "RoaringIndexModel" "sizes" "[I", Cond.fieldLink RX7 16 "RoaringIndexModel" "kinds" "[I", Cond.methodLink RX7 66 yX7_isSet, Cond.static yX7_isSet, Cond.initialized RX7, Cond.code yX7_isSet cX7_isSet 1 (some .boolean), Cond.constantLong RX7 44 (7), Cond.methodLink RX7 46 yX7_in, Cond.static yX7_in, Cond.code yX7_in cX7_in 6 (some .boolean), Cond.methodLink RX7 121 yX7_runsOf, Cond.instanceMethod yX7_runsOf, Cond.selects RX7 yX7_runsOf yX7_runsOf, Cond.code yX7_runsOf cX7_runsOf 7 (some .int), Cond.fieldLink RX7 23 "RoaringIndexModel" "words" "[J", Cond.constantLong RX7 52 (-1), Cond.methodLink RX7 54 yX7_bitsOf, Cond.static yX7_bitsOf, Cond.code yX7_bitsOf cX7_bitsOf 5 (some .int), Cond.methodLink RX7 62 yX7_plainKind, Cond.instanceMethod yX7_plainKind, Cond.selects RX7 yX7_plainKind yX7_plainKind]
def wsX7_shrink_r2 : List Cond := [Cond.code yX7_plainKind cX7_plainKind 2 (some .int)]
def wsX7_shrink : List Cond := .code yX7_shrink cX7_shrink 6 (some .int) :: ((wsX7_shrink_r1 ++ wsX7_shrink_r2) ++ wsX70)
def wsX7_isFormula : List Cond := .code yX7_isFormula cX7_isFormula 6 (some .boolean) :: ([.constantLong RX7 124 (255), .constantLong RX7 126 (16), .constantLong RX7 128 (19), .constantLong RX7 44 (7), .methodLink RX7 46 yX7_in, .static yX7_in, .initialized RX7, .code yX7_in cX7_in 6 (some .boolean)])
def wsX7_layAll : List Cond := .code yX7_layAll cX7_layAll 4 none :: ([.fieldLink RX7 7 "RoaringIndexModel" "many" "[I", .fieldLink RX7 23 "RoaringIndexModel" "words" "[J", .constantLong RX7 52 (-1), .fieldLink RX7 19 "RoaringIndexModel" "sizes" "[I", .constant RX7 107 (65536), .fieldLink RX7 16 "RoaringIndexModel" "kinds" "[I", .methodLink RX7 79 yX7_made, .instanceMethod yX7_made, .selects RX7 yX7_made yX7_made, .initialized RX7, .code yX7_made cX7_made 6 (some .int), .fieldLink RX7 13 "RoaringIndexModel" "keys" "[I", .methodLink RX7 58 yX7_copy, .instanceMethod yX7_copy, .selects RX7 yX7_copy yX7_copy, .code yX7_copy cX7_copy 4 none] ++ wsX70)
def wsX7_formula_r1 : List Cond := [Cond.constantLong RX7 130 (8), Cond.fieldLink RX7 27 "RoaringIndexModel" "work" "I", Cond.constantLong RX7 124 (255), Cond.constantLong RX7 126 (16), Cond.constantLong RX7 128 (19), Cond.methodLink RX7 66 yX7_isSet, Cond.static yX7_isSet, Cond.initialized RX7, Cond.code yX7_isSet cX7_isSet 1 (some .boolean), Cond.constantLong RX7 44 (7), Cond.methodLink RX7 46 yX7_in, Cond.static yX7_in, Cond.code yX7_in cX7_in 6 (some .boolean), Cond.methodLink RX7 132 yX7_isFormula, Cond.static yX7_isFormula, Cond.code yX7_isFormula cX7_isFormula 6 (some .boolean), Cond.methodLink RX7 114 yX7_make, Cond.instanceMethod yX7_make, Cond.selects RX7 yX7_make yX7_make, Cond.code yX7_make cX7_make 9 (some .boolean), Cond.fieldLink RX7 7 "RoaringIndexModel" "many" "[I", Cond.fieldLink RX7 13 "RoaringIndexModel" "keys" "[I", Cond.constant RX7 107 (65536), Cond.methodLink RX7 108 yX7_makeOne]
def wsX7_formula_r2 : List Cond := [Cond.instanceMethod yX7_makeOne, Cond.selects RX7 yX7_makeOne yX7_makeOne, Cond.code yX7_makeOne cX7_makeOne 9 (some .boolean), Cond.fieldLink RX7 23 "RoaringIndexModel" "words" "[J", Cond.fieldLink RX7 19 "RoaringIndexModel" "sizes" "[I", Cond.fieldLink RX7 16 "RoaringIndexModel" "kinds" "[I", Cond.methodLink RX7 100 yX7_joined, Cond.static yX7_joined, Cond.code yX7_joined cX7_joined 5 (some .long), Cond.constantLong RX7 52 (-1), Cond.methodLink RX7 79 yX7_made, Cond.instanceMethod yX7_made, Cond.selects RX7 yX7_made yX7_made, Cond.code yX7_made cX7_made 6 (some .int), Cond.methodLink RX7 58 yX7_copy, Cond.instanceMethod yX7_copy, Cond.selects RX7 yX7_copy yX7_copy, Cond.code yX7_copy cX7_copy 4 none, Cond.methodLink RX7 54 yX7_bitsOf, Cond.static yX7_bitsOf, Cond.code yX7_bitsOf cX7_bitsOf 5 (some .int), Cond.methodLink RX7 85 yX7_changed, Cond.instanceMethod yX7_changed, Cond.selects RX7 yX7_changed yX7_changed]
def wsX7_formula_r3 : List Cond := [Cond.code yX7_changed cX7_changed 4 none, Cond.methodLink RX7 62 yX7_plainKind, Cond.instanceMethod yX7_plainKind, Cond.selects RX7 yX7_plainKind yX7_plainKind, Cond.code yX7_plainKind cX7_plainKind 2 (some .int), Cond.methodLink RX7 104 yX7_isLike, Cond.instanceMethod yX7_isLike, Cond.selects RX7 yX7_isLike yX7_isLike, Cond.code yX7_isLike cX7_isLike 4 (some .boolean), Cond.methodLink RX7 118 yX7_copySet, Cond.instanceMethod yX7_copySet, Cond.selects RX7 yX7_copySet yX7_copySet, Cond.code yX7_copySet cX7_copySet 4 none, Cond.methodLink RX7 136 yX7_layAll, Cond.instanceMethod yX7_layAll, Cond.selects RX7 yX7_layAll yX7_layAll, Cond.code yX7_layAll cX7_layAll 4 none, Cond.methodLink RX7 88 yX7_all, Cond.instanceMethod yX7_all, Cond.selects RX7 yX7_all yX7_all, Cond.code yX7_all cX7_all 4 (some .int)]
def wsX7_formula : List Cond := .code yX7_formula cX7_formula 8 (some .int) :: ((wsX7_formula_r1 ++ (wsX7_formula_r2 ++ wsX7_formula_r3)) ++ wsX70)
def wsX7_has : List Cond := .code yX7_has cX7_has 4 (some .int) :: ([.constant RX7 74 (65535), .methodLink RX7 66 yX7_isSet, .static yX7_isSet, .initialized RX7, .code yX7_isSet cX7_isSet 1 (some .boolean), .constantLong RX7 44 (7), .methodLink RX7 46 yX7_in, .static yX7_in, .code yX7_in cX7_in 6 (some .boolean), .methodLink RX7 70 yX7_containerOf, .instanceMethod yX7_containerOf, .selects RX7 yX7_containerOf yX7_containerOf, .code yX7_containerOf cX7_containerOf 4 (some .int), .fieldLink RX7 7 "RoaringIndexModel" "many" "[I", .fieldLink RX7 13 "RoaringIndexModel" "keys" "[I", .methodLink RX7 75 yX7_hasLow, .instanceMethod yX7_hasLow, .selects RX7 yX7_hasLow yX7_hasLow, .code yX7_hasLow cX7_hasLow 3 (some .boolean), .fieldLink RX7 23 "RoaringIndexModel" "words" "[J"] ++ wsX70)
def wsX7_rank : List Cond := .code yX7_rank cX7_rank 9 (some .int) :: ([.constant RX7 74 (65535), .fieldLink RX7 7 "RoaringIndexModel" "many" "[I", .fieldLink RX7 13 "RoaringIndexModel" "keys" "[I", .fieldLink RX7 19 "RoaringIndexModel" "sizes" "[I", .fieldLink RX7 23 "RoaringIndexModel" "words" "[J", .methodLink RX7 66 yX7_isSet, .static yX7_isSet, .initialized RX7, .code yX7_isSet cX7_isSet 1 (some .boolean), .constantLong RX7 44 (7), .methodLink RX7 46 yX7_in, .static yX7_in, .code yX7_in cX7_in 6 (some .boolean), .methodLink RX7 54 yX7_bitsOf, .static yX7_bitsOf, .code yX7_bitsOf cX7_bitsOf 5 (some .int), .methodLink RX7 75 yX7_hasLow, .instanceMethod yX7_hasLow, .selects RX7 yX7_hasLow yX7_hasLow, .code yX7_hasLow cX7_hasLow 3 (some .boolean)] ++ wsX70)
def wsX7_numberOf : List Cond := .code yX7_numberOf cX7_numberOf 3 (some .long) :: ([.constantLong RX7 140 (65536), .fieldLink RX7 13 "RoaringIndexModel" "keys" "[I"] ++ wsX70)
def wsX7_select_r1 : List Cond := [Cond.constantLong RX7 142 (-2), Cond.constantLong RX7 52 (-1), Cond.fieldLink RX7 7 "RoaringIndexModel" "many" "[I", Cond.fieldLink RX7 19 "RoaringIndexModel" "sizes" "[I", Cond.fieldLink RX7 23 "RoaringIndexModel" "words" "[J", Cond.methodLink RX7 66 yX7_isSet, Cond.static yX7_isSet, Cond.initialized RX7, Cond.code yX7_isSet cX7_isSet 1 (some .boolean), Cond.constantLong RX7 44 (7), Cond.methodLink RX7 46 yX7_in, Cond.static yX7_in, Cond.code yX7_in cX7_in 6 (some .boolean), Cond.methodLink RX7 54 yX7_bitsOf, Cond.static yX7_bitsOf, Cond.code yX7_bitsOf cX7_bitsOf 5 (some .int), Cond.methodLink RX7 75 yX7_hasLow, Cond.instanceMethod yX7_hasLow, Cond.selects RX7 yX7_hasLow yX7_hasLow, Cond.code yX7_hasLow cX7_hasLow 3 (some .boolean), Cond.methodLink RX7 144 yX7_numberOf, Cond.instanceMethod yX7_numberOf, Cond.selects RX7 yX7_numberOf yX7_numberOf, Cond.code yX7_numberOf cX7_numberOf 3 (some .long)]
def wsX7_select_r2 : List Cond := [Cond.constantLong RX7 140 (65536), Cond.fieldLink RX7 13 "RoaringIndexModel" "keys" "[I"]
def wsX7_select : List Cond := .code yX7_select cX7_select 8 (some .long) :: ((wsX7_select_r1 ++ wsX7_select_r2) ++ wsX70)
def wsX7_next : List Cond := .code yX7_next cX7_next 7 (some .long) :: ([.constantLong RX7 142 (-2), .fieldLink RX7 7 "RoaringIndexModel" "many" "[I", .fieldLink RX7 13 "RoaringIndexModel" "keys" "[I", .constant RX7 107 (65536), .constant RX7 74 (65535), .constantLong RX7 52 (-1), .methodLink RX7 66 yX7_isSet, .static yX7_isSet, .initialized RX7, .code yX7_isSet cX7_isSet 1 (some .boolean), .constantLong RX7 44 (7), .methodLink RX7 46 yX7_in, .static yX7_in, .code yX7_in cX7_in 6 (some .boolean), .methodLink RX7 75 yX7_hasLow, .instanceMethod yX7_hasLow, .selects RX7 yX7_hasLow yX7_hasLow, .code yX7_hasLow cX7_hasLow 3 (some .boolean), .fieldLink RX7 23 "RoaringIndexModel" "words" "[J", .methodLink RX7 144 yX7_numberOf, .instanceMethod yX7_numberOf, .selects RX7 yX7_numberOf yX7_numberOf, .code yX7_numberOf cX7_numberOf 3 (some .long), .constantLong RX7 140 (65536)] ++ wsX70)
def wsX7_count : List Cond := .code yX7_count cX7_count 5 (some .int) :: ([.constantLong RX7 148 (4), .fieldLink RX7 7 "RoaringIndexModel" "many" "[I", .fieldLink RX7 16 "RoaringIndexModel" "kinds" "[I", .methodLink RX7 66 yX7_isSet, .static yX7_isSet, .initialized RX7, .code yX7_isSet cX7_isSet 1 (some .boolean), .constantLong RX7 44 (7), .methodLink RX7 46 yX7_in, .static yX7_in, .code yX7_in cX7_in 6 (some .boolean), .methodLink RX7 88 yX7_all, .instanceMethod yX7_all, .selects RX7 yX7_all yX7_all, .code yX7_all cX7_all 4 (some .int), .fieldLink RX7 19 "RoaringIndexModel" "sizes" "[I"] ++ wsX70)
def wsX7_container : List Cond := .code yX7_container cX7_container 5 (some .int) :: ([.fieldLink RX7 7 "RoaringIndexModel" "many" "[I", .constantLong RX7 112 (3), .fieldLink RX7 13 "RoaringIndexModel" "keys" "[I", .fieldLink RX7 16 "RoaringIndexModel" "kinds" "[I", .fieldLink RX7 19 "RoaringIndexModel" "sizes" "[I", .methodLink RX7 66 yX7_isSet, .static yX7_isSet, .initialized RX7, .code yX7_isSet cX7_isSet 1 (some .boolean), .constantLong RX7 44 (7), .methodLink RX7 46 yX7_in, .static yX7_in, .code yX7_in cX7_in 6 (some .boolean), .methodLink RX7 121 yX7_runsOf, .instanceMethod yX7_runsOf, .selects RX7 yX7_runsOf yX7_runsOf, .code yX7_runsOf cX7_runsOf 7 (some .int), .fieldLink RX7 23 "RoaringIndexModel" "words" "[J", .constantLong RX7 52 (-1), .methodLink RX7 54 yX7_bitsOf, .static yX7_bitsOf, .code yX7_bitsOf cX7_bitsOf 5 (some .int)] ++ wsX70)
def wsX7_both : List Cond := .code yX7_both cX7_both 8 (some .int) :: ([.fieldLink RX7 7 "RoaringIndexModel" "many" "[I", .fieldLink RX7 13 "RoaringIndexModel" "keys" "[I", .fieldLink RX7 23 "RoaringIndexModel" "words" "[J", .methodLink RX7 70 yX7_containerOf, .instanceMethod yX7_containerOf, .selects RX7 yX7_containerOf yX7_containerOf, .initialized RX7, .code yX7_containerOf cX7_containerOf 4 (some .int), .methodLink RX7 54 yX7_bitsOf, .static yX7_bitsOf, .code yX7_bitsOf cX7_bitsOf 5 (some .int)] ++ wsX70)
def wsX7_compare_r1 : List Cond := [Cond.methodLink RX7 66 yX7_isSet, Cond.static yX7_isSet, Cond.initialized RX7, Cond.code yX7_isSet cX7_isSet 1 (some .boolean), Cond.constantLong RX7 44 (7), Cond.methodLink RX7 46 yX7_in, Cond.static yX7_in, Cond.code yX7_in cX7_in 6 (some .boolean), Cond.methodLink RX7 150 yX7_both, Cond.instanceMethod yX7_both, Cond.selects RX7 yX7_both yX7_both, Cond.code yX7_both cX7_both 8 (some .int), Cond.fieldLink RX7 7 "RoaringIndexModel" "many" "[I", Cond.fieldLink RX7 13 "RoaringIndexModel" "keys" "[I", Cond.fieldLink RX7 23 "RoaringIndexModel" "words" "[J", Cond.methodLink RX7 70 yX7_containerOf, Cond.instanceMethod yX7_containerOf, Cond.selects RX7 yX7_containerOf yX7_containerOf, Cond.code yX7_containerOf cX7_containerOf 4 (some .int), Cond.methodLink RX7 54 yX7_bitsOf, Cond.static yX7_bitsOf, Cond.code yX7_bitsOf cX7_bitsOf 5 (some .int), Cond.methodLink RX7 88 yX7_all, Cond.instanceMethod yX7_all]
def wsX7_compare_r2 : List Cond := [Cond.selects RX7 yX7_all yX7_all, Cond.code yX7_all cX7_all 4 (some .int), Cond.fieldLink RX7 19 "RoaringIndexModel" "sizes" "[I"]
def wsX7_compare : List Cond := .code yX7_compare cX7_compare 6 (some .int) :: ((wsX7_compare_r1 ++ wsX7_compare_r2) ++ wsX70)
def wsX7_put : List Cond := .code yX7_put cX7_put 4 none :: ([.fieldLink RX7 32 "RoaringIndexModel" "bytes" "[I", .fieldLink RX7 153 "RoaringIndexModel" "out" "I"] ++ wsX70)
def wsX7_hasRuns : List Cond := .code yX7_hasRuns cX7_hasRuns 2 (some .boolean) :: ([.methodLink RX7 156 yX7_count, .instanceMethod yX7_count, .selects RX7 yX7_count yX7_count, .initialized RX7, .code yX7_count cX7_count 5 (some .int), .constantLong RX7 148 (4), .fieldLink RX7 7 "RoaringIndexModel" "many" "[I", .fieldLink RX7 16 "RoaringIndexModel" "kinds" "[I", .methodLink RX7 66 yX7_isSet, .static yX7_isSet, .code yX7_isSet cX7_isSet 1 (some .boolean), .constantLong RX7 44 (7), .methodLink RX7 46 yX7_in, .static yX7_in, .code yX7_in cX7_in 6 (some .boolean), .methodLink RX7 88 yX7_all, .instanceMethod yX7_all, .selects RX7 yX7_all yX7_all, .code yX7_all cX7_all 4 (some .int), .fieldLink RX7 19 "RoaringIndexModel" "sizes" "[I"] ++ wsX70)
def wsX7_lengthOf : List Cond := .code yX7_lengthOf cX7_lengthOf 2 (some .int) :: ([.fieldLink RX7 16 "RoaringIndexModel" "kinds" "[I", .fieldLink RX7 19 "RoaringIndexModel" "sizes" "[I", .methodLink RX7 121 yX7_runsOf, .instanceMethod yX7_runsOf, .selects RX7 yX7_runsOf yX7_runsOf, .initialized RX7, .code yX7_runsOf cX7_runsOf 7 (some .int), .fieldLink RX7 23 "RoaringIndexModel" "words" "[J", .constantLong RX7 52 (-1), .methodLink RX7 54 yX7_bitsOf, .static yX7_bitsOf, .code yX7_bitsOf cX7_bitsOf 5 (some .int)] ++ wsX70)
def wsX7_headOf : List Cond := .code yX7_headOf cX7_headOf 4 (some .int) :: ([.fieldLink RX7 7 "RoaringIndexModel" "many" "[I", .methodLink RX7 159 yX7_hasRuns, .instanceMethod yX7_hasRuns, .selects RX7 yX7_hasRuns yX7_hasRuns, .initialized RX7, .code yX7_hasRuns cX7_hasRuns 2 (some .boolean), .methodLink RX7 156 yX7_count, .instanceMethod yX7_count, .selects RX7 yX7_count yX7_count, .code yX7_count cX7_count 5 (some .int), .constantLong RX7 148 (4), .fieldLink RX7 16 "RoaringIndexModel" "kinds" "[I", .methodLink RX7 66 yX7_isSet, .static yX7_isSet, .code yX7_isSet cX7_isSet 1 (some .boolean), .constantLong RX7 44 (7), .methodLink RX7 46 yX7_in, .static yX7_in, .code yX7_in cX7_in 6 (some .boolean), .methodLink RX7 88 yX7_all, .instanceMethod yX7_all, .selects RX7 yX7_all yX7_all, .code yX7_all cX7_all 4 (some .int), .fieldLink RX7 19 "RoaringIndexModel" "sizes" "[I"] ++ wsX70)
def wsX7_writeOne : List Cond := .code yX7_writeOne cX7_writeOne 4 none :: ([.fieldLink RX7 16 "RoaringIndexModel" "kinds" "[I", .fieldLink RX7 23 "RoaringIndexModel" "words" "[J", .constant RX7 107 (65536), .methodLink RX7 168 yX7_put, .instanceMethod yX7_put, .selects RX7 yX7_put yX7_put, .initialized RX7, .code yX7_put cX7_put 4 none, .fieldLink RX7 32 "RoaringIndexModel" "bytes" "[I", .fieldLink RX7 153 "RoaringIndexModel" "out" "I", .methodLink RX7 121 yX7_runsOf, .instanceMethod yX7_runsOf, .selects RX7 yX7_runsOf yX7_runsOf, .code yX7_runsOf cX7_runsOf 7 (some .int), .constantLong RX7 52 (-1), .methodLink RX7 54 yX7_bitsOf, .static yX7_bitsOf, .code yX7_bitsOf cX7_bitsOf 5 (some .int), .methodLink RX7 75 yX7_hasLow, .instanceMethod yX7_hasLow, .selects RX7 yX7_hasLow yX7_hasLow, .code yX7_hasLow cX7_hasLow 3 (some .boolean)] ++ wsX70)
def wsX7_write_r1 : List Cond := [Cond.fieldLink RX7 7 "RoaringIndexModel" "many" "[I", Cond.constant RX7 31 (60000), Cond.fieldLink RX7 153 "RoaringIndexModel" "out" "I", Cond.fieldLink RX7 16 "RoaringIndexModel" "kinds" "[I", Cond.fieldLink RX7 13 "RoaringIndexModel" "keys" "[I", Cond.fieldLink RX7 19 "RoaringIndexModel" "sizes" "[I", Cond.fieldLink RX7 174 "RoaringIndexModel" "size" "I", Cond.methodLink RX7 66 yX7_isSet, Cond.static yX7_isSet, Cond.initialized RX7, Cond.code yX7_isSet cX7_isSet 1 (some .boolean), Cond.constantLong RX7 44 (7), Cond.methodLink RX7 46 yX7_in, Cond.static yX7_in, Cond.code yX7_in cX7_in 6 (some .boolean), Cond.methodLink RX7 162 yX7_headOf, Cond.instanceMethod yX7_headOf, Cond.selects RX7 yX7_headOf yX7_headOf, Cond.code yX7_headOf cX7_headOf 4 (some .int), Cond.methodLink RX7 159 yX7_hasRuns, Cond.instanceMethod yX7_hasRuns, Cond.selects RX7 yX7_hasRuns yX7_hasRuns, Cond.code yX7_hasRuns cX7_hasRuns 2 (some .boolean), Cond.methodLink RX7 156 yX7_count]
def wsX7_write_r2 : List Cond := [Cond.instanceMethod yX7_count, Cond.selects RX7 yX7_count yX7_count, Cond.code yX7_count cX7_count 5 (some .int), Cond.constantLong RX7 148 (4), Cond.methodLink RX7 88 yX7_all, Cond.instanceMethod yX7_all, Cond.selects RX7 yX7_all yX7_all, Cond.code yX7_all cX7_all 4 (some .int), Cond.methodLink RX7 165 yX7_lengthOf, Cond.instanceMethod yX7_lengthOf, Cond.selects RX7 yX7_lengthOf yX7_lengthOf, Cond.code yX7_lengthOf cX7_lengthOf 2 (some .int), Cond.methodLink RX7 121 yX7_runsOf, Cond.instanceMethod yX7_runsOf, Cond.selects RX7 yX7_runsOf yX7_runsOf, Cond.code yX7_runsOf cX7_runsOf 7 (some .int), Cond.fieldLink RX7 23 "RoaringIndexModel" "words" "[J", Cond.constantLong RX7 52 (-1), Cond.methodLink RX7 54 yX7_bitsOf, Cond.static yX7_bitsOf, Cond.code yX7_bitsOf cX7_bitsOf 5 (some .int), Cond.methodLink RX7 168 yX7_put, Cond.instanceMethod yX7_put, Cond.selects RX7 yX7_put yX7_put]
def wsX7_write_r3 : List Cond := [Cond.code yX7_put cX7_put 4 none, Cond.fieldLink RX7 32 "RoaringIndexModel" "bytes" "[I", Cond.methodLink RX7 171 yX7_writeOne, Cond.instanceMethod yX7_writeOne, Cond.selects RX7 yX7_writeOne yX7_writeOne, Cond.code yX7_writeOne cX7_writeOne 4 none, Cond.constant RX7 107 (65536), Cond.methodLink RX7 75 yX7_hasLow, Cond.instanceMethod yX7_hasLow, Cond.selects RX7 yX7_hasLow yX7_hasLow, Cond.code yX7_hasLow cX7_hasLow 3 (some .boolean)]
def wsX7_write : List Cond := .code yX7_write cX7_write 7 (some .int) :: ((wsX7_write_r1 ++ (wsX7_write_r2 ++ wsX7_write_r3)) ++ wsX70)
def wsX7_fails : List Cond := .code yX7_fails cX7_fails 3 (some .boolean) :: ([.fieldLink RX7 177 "RoaringIndexModel" "fault" "I", .fieldLink RX7 180 "RoaringIndexModel" "faultPlace" "I"] ++ wsX70)
def wsX7_are : List Cond := .code yX7_are cX7_are 2 (some .boolean) :: ([.fieldLink RX7 183 "RoaringIndexModel" "at" "I", .fieldLink RX7 174 "RoaringIndexModel" "size" "I", .methodLink RX7 186 yX7_fails, .instanceMethod yX7_fails, .selects RX7 yX7_fails yX7_fails, .initialized RX7, .code yX7_fails cX7_fails 3 (some .boolean), .fieldLink RX7 177 "RoaringIndexModel" "fault" "I", .fieldLink RX7 180 "RoaringIndexModel" "faultPlace" "I"] ++ wsX70)
def wsX7_taken : List Cond := .code yX7_taken cX7_taken 5 (some .long) :: ([.fieldLink RX7 32 "RoaringIndexModel" "bytes" "[I", .fieldLink RX7 183 "RoaringIndexModel" "at" "I"] ++ wsX70)
def wsX7_readsKeys : List Cond := .code yX7_readsKeys cX7_readsKeys 4 (some .boolean) :: ([.fieldLink RX7 7 "RoaringIndexModel" "many" "[I", .fieldLink RX7 13 "RoaringIndexModel" "keys" "[I", .fieldLink RX7 183 "RoaringIndexModel" "at" "I", .fieldLink RX7 41 "RoaringIndexModel" "heads" "[I", .methodLink RX7 189 yX7_are, .instanceMethod yX7_are, .selects RX7 yX7_are yX7_are, .initialized RX7, .code yX7_are cX7_are 2 (some .boolean), .fieldLink RX7 174 "RoaringIndexModel" "size" "I", .methodLink RX7 186 yX7_fails, .instanceMethod yX7_fails, .selects RX7 yX7_fails yX7_fails, .code yX7_fails cX7_fails 3 (some .boolean), .fieldLink RX7 177 "RoaringIndexModel" "fault" "I", .fieldLink RX7 180 "RoaringIndexModel" "faultPlace" "I", .methodLink RX7 192 yX7_taken, .instanceMethod yX7_taken, .selects RX7 yX7_taken yX7_taken, .code yX7_taken cX7_taken 5 (some .long), .fieldLink RX7 32 "RoaringIndexModel" "bytes" "[I"] ++ wsX70)
def wsX7_readsPlaces : List Cond := .code yX7_readsPlaces cX7_readsPlaces 4 (some .boolean) :: ([.fieldLink RX7 38 "RoaringIndexModel" "told" "[J", .constantLong RX7 52 (-1), .fieldLink RX7 35 "RoaringIndexModel" "places" "[I", .fieldLink RX7 183 "RoaringIndexModel" "at" "I", .methodLink RX7 189 yX7_are, .instanceMethod yX7_are, .selects RX7 yX7_are yX7_are, .initialized RX7, .code yX7_are cX7_are 2 (some .boolean), .fieldLink RX7 174 "RoaringIndexModel" "size" "I", .methodLink RX7 186 yX7_fails, .instanceMethod yX7_fails, .selects RX7 yX7_fails yX7_fails, .code yX7_fails cX7_fails 3 (some .boolean), .fieldLink RX7 177 "RoaringIndexModel" "fault" "I", .fieldLink RX7 180 "RoaringIndexModel" "faultPlace" "I", .methodLink RX7 192 yX7_taken, .instanceMethod yX7_taken, .selects RX7 yX7_taken yX7_taken, .code yX7_taken cX7_taken 5 (some .long), .fieldLink RX7 32 "RoaringIndexModel" "bytes" "[I"] ++ wsX70)
def wsX7_readsHead_r1 : List Cond := [Cond.constantLong RX7 196 (12346), Cond.fieldLink RX7 198 "RoaringIndexModel" "bits" "I", Cond.constantLong RX7 140 (65536), Cond.constantLong RX7 201 (12347), Cond.constantLong RX7 203 (6), Cond.constantLong RX7 148 (4), Cond.methodLink RX7 189 yX7_are, Cond.instanceMethod yX7_are, Cond.selects RX7 yX7_are yX7_are, Cond.initialized RX7, Cond.code yX7_are cX7_are 2 (some .boolean), Cond.fieldLink RX7 183 "RoaringIndexModel" "at" "I", Cond.fieldLink RX7 174 "RoaringIndexModel" "size" "I", Cond.methodLink RX7 186 yX7_fails, Cond.instanceMethod yX7_fails, Cond.selects RX7 yX7_fails yX7_fails, Cond.code yX7_fails cX7_fails 3 (some .boolean), Cond.fieldLink RX7 177 "RoaringIndexModel" "fault" "I", Cond.fieldLink RX7 180 "RoaringIndexModel" "faultPlace" "I", Cond.methodLink RX7 192 yX7_taken, Cond.instanceMethod yX7_taken, Cond.selects RX7 yX7_taken yX7_taken, Cond.code yX7_taken cX7_taken 5 (some .long), Cond.fieldLink RX7 32 "RoaringIndexModel" "bytes" "[I"]
def wsX7_readsHead_r2 : List Cond := [Cond.methodLink RX7 205 yX7_readsKeys, Cond.instanceMethod yX7_readsKeys, Cond.selects RX7 yX7_readsKeys yX7_readsKeys, Cond.code yX7_readsKeys cX7_readsKeys 4 (some .boolean), Cond.fieldLink RX7 7 "RoaringIndexModel" "many" "[I", Cond.fieldLink RX7 13 "RoaringIndexModel" "keys" "[I", Cond.fieldLink RX7 41 "RoaringIndexModel" "heads" "[I", Cond.methodLink RX7 208 yX7_readsPlaces, Cond.instanceMethod yX7_readsPlaces, Cond.selects RX7 yX7_readsPlaces yX7_readsPlaces, Cond.code yX7_readsPlaces cX7_readsPlaces 4 (some .boolean), Cond.fieldLink RX7 38 "RoaringIndexModel" "told" "[J", Cond.constantLong RX7 52 (-1), Cond.fieldLink RX7 35 "RoaringIndexModel" "places" "[I"]
def wsX7_readsHead : List Cond := .code yX7_readsHead cX7_readsHead 6 (some .boolean) :: ((wsX7_readsHead_r1 ++ wsX7_readsHead_r2) ++ wsX70)
def wsX7_readsArray : List Cond := .code yX7_readsArray cX7_readsArray 6 (some .boolean) :: ([.fieldLink RX7 183 "RoaringIndexModel" "at" "I", .fieldLink RX7 19 "RoaringIndexModel" "sizes" "[I", .methodLink RX7 189 yX7_are, .instanceMethod yX7_are, .selects RX7 yX7_are yX7_are, .initialized RX7, .code yX7_are cX7_are 2 (some .boolean), .fieldLink RX7 174 "RoaringIndexModel" "size" "I", .methodLink RX7 186 yX7_fails, .instanceMethod yX7_fails, .selects RX7 yX7_fails yX7_fails, .code yX7_fails cX7_fails 3 (some .boolean), .fieldLink RX7 177 "RoaringIndexModel" "fault" "I", .fieldLink RX7 180 "RoaringIndexModel" "faultPlace" "I", .methodLink RX7 192 yX7_taken, .instanceMethod yX7_taken, .selects RX7 yX7_taken yX7_taken, .code yX7_taken cX7_taken 5 (some .long), .fieldLink RX7 32 "RoaringIndexModel" "bytes" "[I", .methodLink RX7 82 yX7_turn, .instanceMethod yX7_turn, .selects RX7 yX7_turn yX7_turn, .code yX7_turn cX7_turn 3 none, .fieldLink RX7 23 "RoaringIndexModel" "words" "[J"] ++ wsX70)
def wsX7_readsBitmap : List Cond := .code yX7_readsBitmap cX7_readsBitmap 6 (some .boolean) :: ([.fieldLink RX7 23 "RoaringIndexModel" "words" "[J", .fieldLink RX7 19 "RoaringIndexModel" "sizes" "[I", .fieldLink RX7 183 "RoaringIndexModel" "at" "I", .methodLink RX7 189 yX7_are, .instanceMethod yX7_are, .selects RX7 yX7_are yX7_are, .initialized RX7, .code yX7_are cX7_are 2 (some .boolean), .fieldLink RX7 174 "RoaringIndexModel" "size" "I", .methodLink RX7 186 yX7_fails, .instanceMethod yX7_fails, .selects RX7 yX7_fails yX7_fails, .code yX7_fails cX7_fails 3 (some .boolean), .fieldLink RX7 177 "RoaringIndexModel" "fault" "I", .fieldLink RX7 180 "RoaringIndexModel" "faultPlace" "I", .methodLink RX7 192 yX7_taken, .instanceMethod yX7_taken, .selects RX7 yX7_taken yX7_taken, .code yX7_taken cX7_taken 5 (some .long), .fieldLink RX7 32 "RoaringIndexModel" "bytes" "[I", .methodLink RX7 54 yX7_bitsOf, .static yX7_bitsOf, .code yX7_bitsOf cX7_bitsOf 5 (some .int)] ++ wsX70)
def wsX7_readsRuns_r1 : List Cond := [Cond.constant RX7 74 (65535), Cond.fieldLink RX7 183 "RoaringIndexModel" "at" "I", Cond.fieldLink RX7 19 "RoaringIndexModel" "sizes" "[I", Cond.methodLink RX7 189 yX7_are, Cond.instanceMethod yX7_are, Cond.selects RX7 yX7_are yX7_are, Cond.initialized RX7, Cond.code yX7_are cX7_are 2 (some .boolean), Cond.fieldLink RX7 174 "RoaringIndexModel" "size" "I", Cond.methodLink RX7 186 yX7_fails, Cond.instanceMethod yX7_fails, Cond.selects RX7 yX7_fails yX7_fails, Cond.code yX7_fails cX7_fails 3 (some .boolean), Cond.fieldLink RX7 177 "RoaringIndexModel" "fault" "I", Cond.fieldLink RX7 180 "RoaringIndexModel" "faultPlace" "I", Cond.methodLink RX7 192 yX7_taken, Cond.instanceMethod yX7_taken, Cond.selects RX7 yX7_taken yX7_taken, Cond.code yX7_taken cX7_taken 5 (some .long), Cond.fieldLink RX7 32 "RoaringIndexModel" "bytes" "[I", Cond.methodLink RX7 82 yX7_turn, Cond.instanceMethod yX7_turn, Cond.selects RX7 yX7_turn yX7_turn, Cond.code yX7_turn cX7_turn 3 none]
def wsX7_readsRuns_r2 : List Cond := [Cond.fieldLink RX7 23 "RoaringIndexModel" "words" "[J"]
def wsX7_readsRuns : List Cond := .code yX7_readsRuns cX7_readsRuns 9 (some .boolean) :: ((wsX7_readsRuns_r1 ++ wsX7_readsRuns_r2) ++ wsX70)
def wsX7_readsAll_r1 : List Cond := [Cond.fieldLink RX7 7 "RoaringIndexModel" "many" "[I", Cond.fieldLink RX7 38 "RoaringIndexModel" "told" "[J", Cond.constantLong RX7 52 (-1), Cond.fieldLink RX7 183 "RoaringIndexModel" "at" "I", Cond.fieldLink RX7 35 "RoaringIndexModel" "places" "[I", Cond.fieldLink RX7 23 "RoaringIndexModel" "words" "[J", Cond.fieldLink RX7 19 "RoaringIndexModel" "sizes" "[I", Cond.fieldLink RX7 198 "RoaringIndexModel" "bits" "I", Cond.fieldLink RX7 16 "RoaringIndexModel" "kinds" "[I", Cond.fieldLink RX7 41 "RoaringIndexModel" "heads" "[I", Cond.fieldLink RX7 174 "RoaringIndexModel" "size" "I", Cond.methodLink RX7 212 yX7_readsHead, Cond.instanceMethod yX7_readsHead, Cond.selects RX7 yX7_readsHead yX7_readsHead, Cond.initialized RX7, Cond.code yX7_readsHead cX7_readsHead 6 (some .boolean), Cond.constantLong RX7 196 (12346), Cond.constantLong RX7 140 (65536), Cond.constantLong RX7 201 (12347), Cond.constantLong RX7 203 (6), Cond.constantLong RX7 148 (4), Cond.methodLink RX7 189 yX7_are, Cond.instanceMethod yX7_are, Cond.selects RX7 yX7_are yX7_are]
def wsX7_readsAll_r2 : List Cond := [Cond.code yX7_are cX7_are 2 (some .boolean), Cond.methodLink RX7 186 yX7_fails, Cond.instanceMethod yX7_fails, Cond.selects RX7 yX7_fails yX7_fails, Cond.code yX7_fails cX7_fails 3 (some .boolean), Cond.fieldLink RX7 177 "RoaringIndexModel" "fault" "I", Cond.fieldLink RX7 180 "RoaringIndexModel" "faultPlace" "I", Cond.methodLink RX7 192 yX7_taken, Cond.instanceMethod yX7_taken, Cond.selects RX7 yX7_taken yX7_taken, Cond.code yX7_taken cX7_taken 5 (some .long), Cond.fieldLink RX7 32 "RoaringIndexModel" "bytes" "[I", Cond.methodLink RX7 205 yX7_readsKeys, Cond.instanceMethod yX7_readsKeys, Cond.selects RX7 yX7_readsKeys yX7_readsKeys, Cond.code yX7_readsKeys cX7_readsKeys 4 (some .boolean), Cond.fieldLink RX7 13 "RoaringIndexModel" "keys" "[I", Cond.methodLink RX7 208 yX7_readsPlaces, Cond.instanceMethod yX7_readsPlaces, Cond.selects RX7 yX7_readsPlaces yX7_readsPlaces, Cond.code yX7_readsPlaces cX7_readsPlaces 4 (some .boolean), Cond.methodLink RX7 216 yX7_readsRuns, Cond.instanceMethod yX7_readsRuns, Cond.selects RX7 yX7_readsRuns yX7_readsRuns]
def wsX7_readsAll_r3 : List Cond := [Cond.code yX7_readsRuns cX7_readsRuns 9 (some .boolean), Cond.constant RX7 74 (65535), Cond.methodLink RX7 82 yX7_turn, Cond.instanceMethod yX7_turn, Cond.selects RX7 yX7_turn yX7_turn, Cond.code yX7_turn cX7_turn 3 none, Cond.methodLink RX7 219 yX7_readsArray, Cond.instanceMethod yX7_readsArray, Cond.selects RX7 yX7_readsArray yX7_readsArray, Cond.code yX7_readsArray cX7_readsArray 6 (some .boolean), Cond.methodLink RX7 222 yX7_readsBitmap, Cond.instanceMethod yX7_readsBitmap, Cond.selects RX7 yX7_readsBitmap yX7_readsBitmap, Cond.code yX7_readsBitmap cX7_readsBitmap 6 (some .boolean), Cond.methodLink RX7 54 yX7_bitsOf, Cond.static yX7_bitsOf, Cond.code yX7_bitsOf cX7_bitsOf 5 (some .int)]
def wsX7_readsAll : List Cond := .code yX7_readsAll cX7_readsAll 5 (some .boolean) :: ((wsX7_readsAll_r1 ++ (wsX7_readsAll_r2 ++ wsX7_readsAll_r3)) ++ wsX70)
def wsX7_read_r1 : List Cond := [Cond.fieldLink RX7 27 "RoaringIndexModel" "work" "I", Cond.fieldLink RX7 177 "RoaringIndexModel" "fault" "I", Cond.fieldLink RX7 183 "RoaringIndexModel" "at" "I", Cond.fieldLink RX7 180 "RoaringIndexModel" "faultPlace" "I", Cond.methodLink RX7 66 yX7_isSet, Cond.static yX7_isSet, Cond.initialized RX7, Cond.code yX7_isSet cX7_isSet 1 (some .boolean), Cond.constantLong RX7 44 (7), Cond.methodLink RX7 46 yX7_in, Cond.static yX7_in, Cond.code yX7_in cX7_in 6 (some .boolean), Cond.methodLink RX7 225 yX7_readsAll, Cond.instanceMethod yX7_readsAll, Cond.selects RX7 yX7_readsAll yX7_readsAll, Cond.code yX7_readsAll cX7_readsAll 5 (some .boolean), Cond.fieldLink RX7 7 "RoaringIndexModel" "many" "[I", Cond.fieldLink RX7 38 "RoaringIndexModel" "told" "[J", Cond.constantLong RX7 52 (-1), Cond.fieldLink RX7 35 "RoaringIndexModel" "places" "[I", Cond.fieldLink RX7 23 "RoaringIndexModel" "words" "[J", Cond.fieldLink RX7 19 "RoaringIndexModel" "sizes" "[I", Cond.fieldLink RX7 198 "RoaringIndexModel" "bits" "I", Cond.fieldLink RX7 16 "RoaringIndexModel" "kinds" "[I"]
def wsX7_read_r2 : List Cond := [Cond.fieldLink RX7 41 "RoaringIndexModel" "heads" "[I", Cond.fieldLink RX7 174 "RoaringIndexModel" "size" "I", Cond.methodLink RX7 212 yX7_readsHead, Cond.instanceMethod yX7_readsHead, Cond.selects RX7 yX7_readsHead yX7_readsHead, Cond.code yX7_readsHead cX7_readsHead 6 (some .boolean), Cond.constantLong RX7 196 (12346), Cond.constantLong RX7 140 (65536), Cond.constantLong RX7 201 (12347), Cond.constantLong RX7 203 (6), Cond.constantLong RX7 148 (4), Cond.methodLink RX7 189 yX7_are, Cond.instanceMethod yX7_are, Cond.selects RX7 yX7_are yX7_are, Cond.code yX7_are cX7_are 2 (some .boolean), Cond.methodLink RX7 186 yX7_fails, Cond.instanceMethod yX7_fails, Cond.selects RX7 yX7_fails yX7_fails, Cond.code yX7_fails cX7_fails 3 (some .boolean), Cond.methodLink RX7 192 yX7_taken, Cond.instanceMethod yX7_taken, Cond.selects RX7 yX7_taken yX7_taken, Cond.code yX7_taken cX7_taken 5 (some .long), Cond.fieldLink RX7 32 "RoaringIndexModel" "bytes" "[I"]
def wsX7_read_r3 : List Cond := [Cond.methodLink RX7 205 yX7_readsKeys, Cond.instanceMethod yX7_readsKeys, Cond.selects RX7 yX7_readsKeys yX7_readsKeys, Cond.code yX7_readsKeys cX7_readsKeys 4 (some .boolean), Cond.fieldLink RX7 13 "RoaringIndexModel" "keys" "[I", Cond.methodLink RX7 208 yX7_readsPlaces, Cond.instanceMethod yX7_readsPlaces, Cond.selects RX7 yX7_readsPlaces yX7_readsPlaces, Cond.code yX7_readsPlaces cX7_readsPlaces 4 (some .boolean), Cond.methodLink RX7 216 yX7_readsRuns, Cond.instanceMethod yX7_readsRuns, Cond.selects RX7 yX7_readsRuns yX7_readsRuns, Cond.code yX7_readsRuns cX7_readsRuns 9 (some .boolean), Cond.constant RX7 74 (65535), Cond.methodLink RX7 82 yX7_turn, Cond.instanceMethod yX7_turn, Cond.selects RX7 yX7_turn yX7_turn, Cond.code yX7_turn cX7_turn 3 none, Cond.methodLink RX7 219 yX7_readsArray, Cond.instanceMethod yX7_readsArray, Cond.selects RX7 yX7_readsArray yX7_readsArray, Cond.code yX7_readsArray cX7_readsArray 6 (some .boolean), Cond.methodLink RX7 222 yX7_readsBitmap, Cond.instanceMethod yX7_readsBitmap]
def wsX7_read_r4 : List Cond := [Cond.selects RX7 yX7_readsBitmap yX7_readsBitmap, Cond.code yX7_readsBitmap cX7_readsBitmap 6 (some .boolean), Cond.methodLink RX7 54 yX7_bitsOf, Cond.static yX7_bitsOf, Cond.code yX7_bitsOf cX7_bitsOf 5 (some .int), Cond.methodLink RX7 118 yX7_copySet, Cond.instanceMethod yX7_copySet, Cond.selects RX7 yX7_copySet yX7_copySet, Cond.code yX7_copySet cX7_copySet 4 none, Cond.methodLink RX7 58 yX7_copy, Cond.instanceMethod yX7_copy, Cond.selects RX7 yX7_copy yX7_copy, Cond.code yX7_copy cX7_copy 4 none, Cond.methodLink RX7 88 yX7_all, Cond.instanceMethod yX7_all, Cond.selects RX7 yX7_all yX7_all, Cond.code yX7_all cX7_all 4 (some .int)]
def wsX7_read : List Cond := .code yX7_read cX7_read 2 (some .int) :: ((wsX7_read_r1 ++ (wsX7_read_r2 ++ (wsX7_read_r3 ++ wsX7_read_r4))) ++ wsX70)
def wsX7_fault : List Cond := .code yX7_fault cX7_fault 1 (some .int) :: ([.fieldLink RX7 177 "RoaringIndexModel" "fault" "I"] ++ wsX70)
def wsX7_cut : List Cond := .code yX7_cut cX7_cut 3 (some .int) :: ([.fieldLink RX7 174 "RoaringIndexModel" "size" "I", .methodLink RX7 46 yX7_in, .static yX7_in, .initialized RX7, .code yX7_in cX7_in 6 (some .boolean)] ++ wsX70)
def wsX7_type : List Cond := .code yX7_type cX7_type 5 (some .int) :: ([.constantLong RX7 130 (8), .fieldLink RX7 174 "RoaringIndexModel" "size" "I", .constant RX7 31 (60000), .fieldLink RX7 32 "RoaringIndexModel" "bytes" "[I", .constantLong RX7 124 (255), .methodLink RX7 46 yX7_in, .static yX7_in, .initialized RX7, .code yX7_in cX7_in 6 (some .boolean)] ++ wsX70)
def wsX7_at : List Cond := .code yX7_at cX7_at 2 (some .int) :: ([.fieldLink RX7 174 "RoaringIndexModel" "size" "I", .fieldLink RX7 32 "RoaringIndexModel" "bytes" "[I", .methodLink RX7 46 yX7_in, .static yX7_in, .initialized RX7, .code yX7_in cX7_in 6 (some .boolean)] ++ wsX70)
def wsX7_alter : List Cond := .code yX7_alter cX7_alter 4 (some .int) :: ([.fieldLink RX7 174 "RoaringIndexModel" "size" "I", .constantLong RX7 124 (255), .fieldLink RX7 32 "RoaringIndexModel" "bytes" "[I", .methodLink RX7 46 yX7_in, .static yX7_in, .initialized RX7, .code yX7_in cX7_in 6 (some .boolean)] ++ wsX70)
def wsX7_work : List Cond := .code yX7_work cX7_work 1 (some .int) :: ([.fieldLink RX7 27 "RoaringIndexModel" "work" "I"] ++ wsX70)
def wsX7_size : List Cond := .code yX7_size cX7_size 1 (some .int) :: ([.fieldLink RX7 174 "RoaringIndexModel" "size" "I"] ++ wsX70)
def wsX7_digest_r1 : List Cond := [Cond.constantLong RX7 228 (17), Cond.constantLong RX7 230 (31), Cond.fieldLink RX7 7 "RoaringIndexModel" "many" "[I", Cond.fieldLink RX7 23 "RoaringIndexModel" "words" "[J", Cond.methodLink RX7 88 yX7_all, Cond.instanceMethod yX7_all, Cond.selects RX7 yX7_all yX7_all, Cond.initialized RX7, Cond.code yX7_all cX7_all 4 (some .int), Cond.fieldLink RX7 19 "RoaringIndexModel" "sizes" "[I", Cond.methodLink RX7 232 yX7_container, Cond.instanceMethod yX7_container, Cond.selects RX7 yX7_container yX7_container, Cond.code yX7_container cX7_container 5 (some .int), Cond.constantLong RX7 112 (3), Cond.fieldLink RX7 13 "RoaringIndexModel" "keys" "[I", Cond.fieldLink RX7 16 "RoaringIndexModel" "kinds" "[I", Cond.methodLink RX7 66 yX7_isSet, Cond.static yX7_isSet, Cond.code yX7_isSet cX7_isSet 1 (some .boolean), Cond.constantLong RX7 44 (7), Cond.methodLink RX7 46 yX7_in, Cond.static yX7_in, Cond.code yX7_in cX7_in 6 (some .boolean)]
def wsX7_digest_r2 : List Cond := [Cond.methodLink RX7 121 yX7_runsOf, Cond.instanceMethod yX7_runsOf, Cond.selects RX7 yX7_runsOf yX7_runsOf, Cond.code yX7_runsOf cX7_runsOf 7 (some .int), Cond.constantLong RX7 52 (-1), Cond.methodLink RX7 54 yX7_bitsOf, Cond.static yX7_bitsOf, Cond.code yX7_bitsOf cX7_bitsOf 5 (some .int)]
def wsX7_digest : List Cond := .code yX7_digest cX7_digest 6 (some .long) :: ((wsX7_digest_r1 ++ wsX7_digest_r2) ++ wsX70)
def wsJ9_min_7cf53 : List Cond := .code yJ9_min_7cf53 cJ9_min_7cf53 2 (some .int) :: ([])
def wsL_law_r1 : List Cond := [Cond.classLink RL 7 RX6, Cond.instantiable RX6 6, Cond.initialized RX6, Cond.classLink RL 10 RX7, Cond.instantiable RX7 16, Cond.initialized RX7, Cond.constantLong RL 45 (4294967295), Cond.methodLink RL 9 yX6_init, Cond.instanceMethod yX6_init, Cond.code yX6_init cX6_init 2 none, Cond.methodLink RX6 1 objectInit, Cond.instanceMethod objectInit, Cond.code objectInit ⟨#[0xb1]⟩ 1 none, Cond.classLink RX6 9 RX2, Cond.fieldLink RX6 11 "RoaringIndex" "sets" "[LRoaringIndex$NumberSet;", Cond.instantiable RX2 2, Cond.initialized RX2, Cond.fieldLink RX6 16 "RoaringIndex" "spare" "LRoaringIndex$NumberSet;", Cond.classLink RX6 20 RX3, Cond.instantiable RX3 2, Cond.initialized RX3, Cond.fieldLink RX6 23 "RoaringIndex" "pile" "LRoaringIndex$Pile;", Cond.classLink RX6 27 RX0, Cond.instantiable RX0 2]
def wsL_law_r2 : List Cond := [Cond.initialized RX0, Cond.fieldLink RX6 30 "RoaringIndex" "bytes" "LRoaringIndex$ByteRow;", Cond.classLink RX6 34 RX4, Cond.instantiable RX4 10, Cond.initialized RX4, Cond.fieldLink RX6 37 "RoaringIndex" "reader" "LRoaringIndex$Reader;", Cond.fieldLink RX6 41 "RoaringIndex" "workLeft" "I", Cond.methodLink RX6 15 yX2_init, Cond.instanceMethod yX2_init, Cond.code yX2_init cX2_init 2 none, Cond.methodLink RX2 3 objectInit, Cond.classLink RX2 9 RX1, Cond.fieldLink RX2 11 "RoaringIndex$NumberSet" "items" "[LRoaringIndex$Container;", Cond.instantiable RX1 4, Cond.initialized RX1, Cond.instanceMethod yX1_init, Cond.code yX1_init cX1_init 1 none, Cond.methodLink RX1 3 objectInit, Cond.fieldLink RX1 13 "RoaringIndex$Container" "words" "[J", Cond.methodLink RX6 22 yX3_init, Cond.instanceMethod yX3_init, Cond.code yX3_init cX3_init 2 none, Cond.methodLink RX3 3 objectInit, Cond.classLink RX3 9 RX2]
def wsL_law_r3 : List Cond := [Cond.fieldLink RX3 11 "RoaringIndex$Pile" "levels" "[LRoaringIndex$NumberSet;", Cond.methodLink RX3 17 yX2_init, Cond.instanceMethod yX0_init, Cond.code yX0_init cX0_init 1 none, Cond.methodLink RX0 3 objectInit, Cond.arrayClass .byte, Cond.fieldLink RX0 9 "RoaringIndex$ByteRow" "held" "[B", Cond.instanceMethod yX4_init, Cond.code yX4_init cX4_init 1 none, Cond.methodLink RX4 3 objectInit, Cond.arrayClass .int, Cond.fieldLink RX4 9 "RoaringIndex$Reader" "keys" "[I", Cond.fieldLink RX4 15 "RoaringIndex$Reader" "totals" "[I", Cond.methodLink RL 12 yX7_init, Cond.instanceMethod yX7_init, Cond.code yX7_init cX7_init 1 none, Cond.methodLink RX7 1 objectInit, Cond.fieldLink RX7 7 "RoaringIndexModel" "many" "[I", Cond.fieldLink RX7 13 "RoaringIndexModel" "keys" "[I", Cond.fieldLink RX7 16 "RoaringIndexModel" "kinds" "[I", Cond.fieldLink RX7 19 "RoaringIndexModel" "sizes" "[I", Cond.constant RX7 22 (104448), Cond.arrayClass .long, Cond.fieldLink RX7 23 "RoaringIndexModel" "words" "[J"]
def wsL_law_r4 : List Cond := [Cond.fieldLink RX7 27 "RoaringIndexModel" "work" "I", Cond.constant RX7 31 (60000), Cond.fieldLink RX7 32 "RoaringIndexModel" "bytes" "[I", Cond.fieldLink RX7 35 "RoaringIndexModel" "places" "[I", Cond.fieldLink RX7 38 "RoaringIndexModel" "told" "[J", Cond.fieldLink RX7 41 "RoaringIndexModel" "heads" "[I", Cond.methodLink RL 13 yX6_add, Cond.instanceMethod yX6_add, Cond.selects RX6 yX6_add yX6_add, Cond.code yX6_add cX6_add 3 (some .int), Cond.methodLink RX6 45 yX6_isNoSet, Cond.static yX6_isNoSet, Cond.code yX6_isNoSet cX6_isNoSet 1 (some .boolean), Cond.methodLink RX6 49 yX6_keyOf, Cond.static yX6_keyOf, Cond.code yX6_keyOf cX6_keyOf 1 (some .int), Cond.methodLink RX6 53 yX6_lowOf, Cond.static yX6_lowOf, Cond.code yX6_lowOf cX6_lowOf 1 (some .int), Cond.constant RX6 189 (65535), Cond.methodLink RX6 56 yX2_changeSpan, Cond.instanceMethod yX2_changeSpan, Cond.selects RX2 yX2_changeSpan yX2_changeSpan, Cond.code yX2_changeSpan cX2_changeSpan 6 (some .int)]
def wsL_law_r5 : List Cond := [Cond.methodLink RX2 41 yX2_find, Cond.instanceMethod yX2_find, Cond.selects RX2 yX2_find yX2_find, Cond.code yX2_find cX2_find 3 (some (.object "RoaringIndex$Container")), Cond.methodLink RX2 30 yX2_indexOf, Cond.instanceMethod yX2_indexOf, Cond.selects RX2 yX2_indexOf yX2_indexOf, Cond.code yX2_indexOf cX2_indexOf 3 (some .int), Cond.fieldLink RX2 18 "RoaringIndex$NumberSet" "used" "I", Cond.fieldLink RX2 26 "RoaringIndex$Container" "key" "I", Cond.methodLink RX2 34 yX2_keyAt, Cond.instanceMethod yX2_keyAt, Cond.selects RX2 yX2_keyAt yX2_keyAt, Cond.code yX2_keyAt cX2_keyAt 2 (some .int), Cond.constant RX2 29 (65536), Cond.methodLink RX2 45 yX2_findOrMake, Cond.instanceMethod yX2_findOrMake, Cond.selects RX2 yX2_findOrMake yX2_findOrMake, Cond.code yX2_findOrMake cX2_findOrMake 5 (some (.object "RoaringIndex$Container")), Cond.methodLink RX2 37 yX1_begin, Cond.instanceMethod yX1_begin, Cond.selects RX1 yX1_begin yX1_begin, Cond.code yX1_begin cX1_begin 2 none, Cond.fieldLink RX1 27 "RoaringIndex$Container" "key" "I"]
def wsL_law_r6 : List Cond := [Cond.fieldLink RX1 31 "RoaringIndex$Container" "kind" "I", Cond.fieldLink RX1 34 "RoaringIndex$Container" "total" "I", Cond.methodLink RX1 18 yX1_makeRoom, Cond.instanceMethod yX1_makeRoom, Cond.selects RX1 yX1_makeRoom yX1_makeRoom, Cond.code yX1_makeRoom cX1_makeRoom 1 none, Cond.methodLink RX1 21 yJ7_fill_d0a16, Cond.static yJ7_fill_d0a16, Cond.initialized RJ7, Cond.code yJ7_fill_d0a16 cJ7_fill_d0a16 5 none, Cond.methodLink RX2 48 yX1_changeLows, Cond.instanceMethod yX1_changeLows, Cond.selects RX1 yX1_changeLows yX1_changeLows, Cond.code yX1_changeLows cX1_changeLows 14 (some .boolean), Cond.constantLong RX1 50 (-1), Cond.methodLink RX1 52 yX1_upTo, Cond.static yX1_upTo, Cond.code yX1_upTo cX1_upTo 1 (some .long), Cond.methodLink RX1 56 yJ13_bitCount_95d88, Cond.static yJ13_bitCount_95d88, Cond.initialized RJ13, Cond.code yJ13_bitCount_95d88 cJ13_bitCount_95d88 2 (some .int), Cond.constantLong RJ13 314 (6148914691236517205), Cond.constantLong RJ13 316 (3689348814741910323)]
def wsL_law_r7 : List Cond := [Cond.constantLong RJ13 318 (1085102592571150095), Cond.methodLink RX2 52 yX2_settle, Cond.instanceMethod yX2_settle, Cond.selects RX2 yX2_settle yX2_settle, Cond.code yX2_settle cX2_settle 3 (some .int), Cond.fieldLink RX2 63 "RoaringIndex$Container" "total" "I", Cond.methodLink RX2 60 yX1_setPlainKind, Cond.instanceMethod yX1_setPlainKind, Cond.selects RX1 yX1_setPlainKind yX1_setPlainKind, Cond.code yX1_setPlainKind cX1_setPlainKind 1 none, Cond.methodLink RX2 66 yX2_leaveOut, Cond.instanceMethod yX2_leaveOut, Cond.selects RX2 yX2_leaveOut yX2_leaveOut, Cond.code yX2_leaveOut cX2_leaveOut 5 none, Cond.methodLink RL 17 yX7_add, Cond.instanceMethod yX7_add, Cond.selects RX7 yX7_add yX7_add, Cond.code yX7_add cX7_add 4 (some .int), Cond.constant RX7 74 (65535), Cond.methodLink RX7 66 yX7_isSet, Cond.static yX7_isSet, Cond.code yX7_isSet cX7_isSet 1 (some .boolean), Cond.constantLong RX7 44 (7), Cond.methodLink RX7 46 yX7_in]
def wsL_law_r8 : List Cond := [Cond.static yX7_in, Cond.code yX7_in cX7_in 6 (some .boolean), Cond.methodLink RX7 70 yX7_containerOf, Cond.instanceMethod yX7_containerOf, Cond.selects RX7 yX7_containerOf yX7_containerOf, Cond.code yX7_containerOf cX7_containerOf 4 (some .int), Cond.methodLink RX7 75 yX7_hasLow, Cond.instanceMethod yX7_hasLow, Cond.selects RX7 yX7_hasLow yX7_hasLow, Cond.code yX7_hasLow cX7_hasLow 3 (some .boolean), Cond.methodLink RX7 79 yX7_made, Cond.instanceMethod yX7_made, Cond.selects RX7 yX7_made yX7_made, Cond.code yX7_made cX7_made 6 (some .int), Cond.methodLink RX7 58 yX7_copy, Cond.instanceMethod yX7_copy, Cond.selects RX7 yX7_copy yX7_copy, Cond.code yX7_copy cX7_copy 4 none, Cond.methodLink RX7 82 yX7_turn, Cond.instanceMethod yX7_turn, Cond.selects RX7 yX7_turn yX7_turn, Cond.code yX7_turn cX7_turn 3 none, Cond.methodLink RX7 85 yX7_changed, Cond.instanceMethod yX7_changed]
def wsL_law_r9 : List Cond := [Cond.selects RX7 yX7_changed yX7_changed, Cond.code yX7_changed cX7_changed 4 none, Cond.methodLink RX7 62 yX7_plainKind, Cond.instanceMethod yX7_plainKind, Cond.selects RX7 yX7_plainKind yX7_plainKind, Cond.code yX7_plainKind cX7_plainKind 2 (some .int), Cond.methodLink RL 18 yX6_remove, Cond.instanceMethod yX6_remove, Cond.selects RX6 yX6_remove yX6_remove, Cond.code yX6_remove cX6_remove 3 (some .int), Cond.methodLink RL 21 yX7_remove, Cond.instanceMethod yX7_remove, Cond.selects RX7 yX7_remove yX7_remove, Cond.code yX7_remove cX7_remove 4 (some .int), Cond.methodLink RL 22 yX6_range, Cond.instanceMethod yX6_range, Cond.selects RX6 yX6_range yX6_range, Cond.code yX6_range cX6_range 7 (some .int), Cond.methodLink RX6 60 yX6_isNoHalf, Cond.static yX6_isNoHalf, Cond.code yX6_isNoHalf cX6_isNoHalf 1 (some .boolean), Cond.methodLink RX6 63 yX2_total, Cond.instanceMethod yX2_total, Cond.selects RX2 yX2_total yX2_total]
def wsL_law_r10 : List Cond := [Cond.code yX2_total cX2_total 3 (some .int), Cond.methodLink RL 26 yX7_range, Cond.instanceMethod yX7_range, Cond.selects RX7 yX7_range yX7_range, Cond.code yX7_range cX7_range 6 (some .int), Cond.constantLong RX7 94 (2), Cond.methodLink RX7 91 yX7_isLow, Cond.static yX7_isLow, Cond.code yX7_isLow cX7_isLow 1 (some .boolean), Cond.constantLong RX7 50 (65535), Cond.methodLink RX7 96 yX7_sweep, Cond.instanceMethod yX7_sweep, Cond.selects RX7 yX7_sweep yX7_sweep, Cond.code yX7_sweep cX7_sweep 11 (some .int), Cond.methodLink RX7 88 yX7_all, Cond.instanceMethod yX7_all, Cond.selects RX7 yX7_all yX7_all, Cond.code yX7_all cX7_all 4 (some .int), Cond.methodLink RL 27 yX6_steps, Cond.instanceMethod yX6_steps, Cond.selects RX6 yX6_steps yX6_steps, Cond.code yX6_steps cX6_steps 6 (some .int), Cond.methodLink RX6 67 yX2_putSteps, Cond.instanceMethod yX2_putSteps]
def wsL_law_r11 : List Cond := [Cond.selects RX2 yX2_putSteps yX2_putSteps, Cond.code yX2_putSteps cX2_putSteps 5 (some .int), Cond.methodLink RX2 56 yX1_putLowsBySteps, Cond.instanceMethod yX1_putLowsBySteps, Cond.selects RX1 yX1_putLowsBySteps yX1_putLowsBySteps, Cond.code yX1_putLowsBySteps cX1_putLowsBySteps 5 (some .boolean), Cond.constant RX1 62 (65535), Cond.methodLink RX1 63 yX1_holds, Cond.instanceMethod yX1_holds, Cond.selects RX1 yX1_holds yX1_holds, Cond.code yX1_holds cX1_holds 2 (some .boolean), Cond.methodLink RL 31 yX7_steps, Cond.instanceMethod yX7_steps, Cond.selects RX7 yX7_steps yX7_steps, Cond.code yX7_steps cX7_steps 5 (some .int), Cond.methodLink RL 32 yX6_clear, Cond.instanceMethod yX6_clear, Cond.selects RX6 yX6_clear yX6_clear, Cond.code yX6_clear cX6_clear 3 (some .int), Cond.fieldLink RX6 71 "RoaringIndex$NumberSet" "used" "I", Cond.methodLink RL 36 yX7_clear, Cond.instanceMethod yX7_clear, Cond.selects RX7 yX7_clear yX7_clear, Cond.code yX7_clear cX7_clear 3 (some .int)]
def wsL_law_r12 : List Cond := [Cond.methodLink RL 37 yX6_join, Cond.instanceMethod yX6_join, Cond.selects RX6 yX6_join yX6_join, Cond.code yX6_join cX6_join 5 (some .int), Cond.methodLink RX6 74 yX6_takeWork, Cond.instanceMethod yX6_takeWork, Cond.selects RX6 yX6_takeWork yX6_takeWork, Cond.code yX6_takeWork cX6_takeWork 2 (some .boolean), Cond.methodLink RX6 77 yX2_becomeJoin, Cond.instanceMethod yX2_becomeJoin, Cond.selects RX2 yX2_becomeJoin yX2_becomeJoin, Cond.code yX2_becomeJoin cX2_becomeJoin 9 (some .boolean), Cond.methodLink RX2 22 yX1_copyLowsOf, Cond.instanceMethod yX1_copyLowsOf, Cond.selects RX1 yX1_copyLowsOf yX1_copyLowsOf, Cond.code yX1_copyLowsOf cX1_copyLowsOf 2 none, Cond.methodLink RX1 37 arraycopyName, Cond.native arraycopyName, Cond.static arraycopyName, Cond.initialized "java/lang/System", Cond.methodLink RX2 69 yX1_becomeMix, Cond.instanceMethod yX1_becomeMix, Cond.selects RX1 yX1_becomeMix yX1_becomeMix, Cond.code yX1_becomeMix cX1_becomeMix 7 none]
def wsL_law_r13 : List Cond := [Cond.methodLink RX1 67 yX1_mix, Cond.static yX1_mix, Cond.code yX1_mix cX1_mix 5 (some .long), Cond.methodLink RX1 71 yX1_hasLowsOf, Cond.instanceMethod yX1_hasLowsOf, Cond.selects RX1 yX1_hasLowsOf yX1_hasLowsOf, Cond.code yX1_hasLowsOf cX1_hasLowsOf 2 (some .boolean), Cond.methodLink RX1 75 yX1_hasNoLowBut, Cond.instanceMethod yX1_hasNoLowBut, Cond.selects RX1 yX1_hasNoLowBut yX1_hasNoLowBut, Cond.code yX1_hasNoLowBut cX1_hasNoLowBut 3 (some .boolean), Cond.methodLink RX1 47 yX1_setPlainKind, Cond.methodLink RX6 81 yX2_exchange, Cond.instanceMethod yX2_exchange, Cond.selects RX2 yX2_exchange yX2_exchange, Cond.code yX2_exchange cX2_exchange 4 none, Cond.methodLink RL 40 yX7_join, Cond.instanceMethod yX7_join, Cond.selects RX7 yX7_join yX7_join, Cond.code yX7_join cX7_join 5 (some .int), Cond.constantLong RX7 112 (3), Cond.methodLink RX7 114 yX7_make, Cond.instanceMethod yX7_make, Cond.selects RX7 yX7_make yX7_make]
def wsL_law_r14 : List Cond := [Cond.code yX7_make cX7_make 9 (some .boolean), Cond.constant RX7 107 (65536), Cond.methodLink RX7 108 yX7_makeOne, Cond.instanceMethod yX7_makeOne, Cond.selects RX7 yX7_makeOne yX7_makeOne, Cond.code yX7_makeOne cX7_makeOne 9 (some .boolean), Cond.methodLink RX7 100 yX7_joined, Cond.static yX7_joined, Cond.code yX7_joined cX7_joined 5 (some .long), Cond.constantLong RX7 52 (-1), Cond.methodLink RX7 54 yX7_bitsOf, Cond.static yX7_bitsOf, Cond.code yX7_bitsOf cX7_bitsOf 5 (some .int), Cond.methodLink RX7 104 yX7_isLike, Cond.instanceMethod yX7_isLike, Cond.selects RX7 yX7_isLike yX7_isLike, Cond.code yX7_isLike cX7_isLike 4 (some .boolean), Cond.methodLink RX7 118 yX7_copySet, Cond.instanceMethod yX7_copySet, Cond.selects RX7 yX7_copySet yX7_copySet, Cond.code yX7_copySet cX7_copySet 4 none, Cond.methodLink RL 41 yX6_shrink, Cond.instanceMethod yX6_shrink, Cond.selects RX6 yX6_shrink yX6_shrink]
def wsL_law_r15 : List Cond := [Cond.code yX6_shrink cX6_shrink 2 (some .int), Cond.methodLink RX6 85 yX2_shrinkAll, Cond.instanceMethod yX2_shrinkAll, Cond.selects RX2 yX2_shrinkAll yX2_shrinkAll, Cond.code yX2_shrinkAll cX2_shrinkAll 2 none, Cond.methodLink RX2 78 yX1_setSmallestKind, Cond.instanceMethod yX1_setSmallestKind, Cond.selects RX1 yX1_setSmallestKind yX1_setSmallestKind, Cond.code yX1_setSmallestKind cX1_setSmallestKind 2 none, Cond.methodLink RX1 43 yX1_totalRuns, Cond.instanceMethod yX1_totalRuns, Cond.selects RX1 yX1_totalRuns yX1_totalRuns, Cond.code yX1_totalRuns cX1_totalRuns 7 (some .int), Cond.methodLink RX6 88 yX2_totalOfKind, Cond.instanceMethod yX2_totalOfKind, Cond.selects RX2 yX2_totalOfKind yX2_totalOfKind, Cond.code yX2_totalOfKind cX2_totalOfKind 4 (some .int), Cond.fieldLink RX2 81 "RoaringIndex$Container" "kind" "I", Cond.methodLink RL 44 yX7_shrink, Cond.instanceMethod yX7_shrink, Cond.selects RX7 yX7_shrink yX7_shrink, Cond.code yX7_shrink cX7_shrink 6 (some .int), Cond.methodLink RX7 121 yX7_runsOf, Cond.instanceMethod yX7_runsOf]
def wsL_law_r16 : List Cond := [Cond.selects RX7 yX7_runsOf yX7_runsOf, Cond.code yX7_runsOf cX7_runsOf 7 (some .int), Cond.methodLink RL 47 yX6_formula, Cond.instanceMethod yX6_formula, Cond.selects RX6 yX6_formula yX6_formula, Cond.code yX6_formula cX6_formula 5 (some .int), Cond.fieldLink RX6 99 "RoaringIndex$Pile" "levels" "[LRoaringIndex$NumberSet;", Cond.methodLink RX6 91 yX3_isSound, Cond.static yX3_isSound, Cond.code yX3_isSound cX3_isSound 6 (some .boolean), Cond.methodLink RX3 18 yX3_signAt, Cond.static yX3_signAt, Cond.code yX3_signAt cX3_signAt 3 (some .int), Cond.methodLink RX3 22 yX3_isJoin, Cond.static yX3_isJoin, Cond.code yX3_isJoin cX3_isJoin 1 (some .boolean), Cond.methodLink RX6 95 yX3_evaluate, Cond.instanceMethod yX3_evaluate, Cond.selects RX3 yX3_evaluate yX3_evaluate, Cond.code yX3_evaluate cX3_evaluate 8 (some .boolean), Cond.fieldLink RX3 26 "RoaringIndex$Pile" "depth" "I", Cond.methodLink RX3 30 yX3_joinUpperTwo, Cond.instanceMethod yX3_joinUpperTwo, Cond.selects RX3 yX3_joinUpperTwo yX3_joinUpperTwo]
def wsL_law_r17 : List Cond := [Cond.code yX3_joinUpperTwo cX3_joinUpperTwo 3 (some .boolean), Cond.methodLink RX3 41 yX2_becomeJoin, Cond.methodLink RX3 45 yX2_exchange, Cond.methodLink RX3 34 yX2_becomeAll, Cond.instanceMethod yX2_becomeAll, Cond.selects RX2 yX2_becomeAll yX2_becomeAll, Cond.code yX2_becomeAll cX2_becomeAll 1 none, Cond.constant RX2 73 (65535), Cond.methodLink RX2 74 yX2_changeSpan, Cond.methodLink RX3 37 yX2_copyFrom, Cond.instanceMethod yX2_copyFrom, Cond.selects RX2 yX2_copyFrom yX2_copyFrom, Cond.code yX2_copyFrom cX2_copyFrom 3 none, Cond.methodLink RL 51 yX7_formula, Cond.instanceMethod yX7_formula, Cond.selects RX7 yX7_formula yX7_formula, Cond.code yX7_formula cX7_formula 8 (some .int), Cond.constantLong RX7 130 (8), Cond.constantLong RX7 124 (255), Cond.constantLong RX7 126 (16), Cond.constantLong RX7 128 (19), Cond.methodLink RX7 132 yX7_isFormula, Cond.static yX7_isFormula, Cond.code yX7_isFormula cX7_isFormula 6 (some .boolean)]
def wsL_law_r18 : List Cond := [Cond.methodLink RX7 136 yX7_layAll, Cond.instanceMethod yX7_layAll, Cond.selects RX7 yX7_layAll yX7_layAll, Cond.code yX7_layAll cX7_layAll 4 none, Cond.methodLink RL 52 yX6_has, Cond.instanceMethod yX6_has, Cond.selects RX6 yX6_has yX6_has, Cond.code yX6_has cX6_has 4 (some .int), Cond.methodLink RX6 102 yX2_find, Cond.methodLink RX6 106 yX1_holds, Cond.methodLink RL 55 yX7_has, Cond.instanceMethod yX7_has, Cond.selects RX7 yX7_has yX7_has, Cond.code yX7_has cX7_has 4 (some .int), Cond.methodLink RL 56 yX6_rank, Cond.instanceMethod yX6_rank, Cond.selects RX6 yX6_rank yX6_rank, Cond.code yX6_rank cX6_rank 3 (some .int), Cond.methodLink RX6 111 yX2_totalUpTo, Cond.instanceMethod yX2_totalUpTo, Cond.selects RX2 yX2_totalUpTo yX2_totalUpTo, Cond.code yX2_totalUpTo cX2_totalUpTo 5 (some .int), Cond.methodLink RX2 84 yX1_lowsUpTo, Cond.instanceMethod yX1_lowsUpTo]
def wsL_law_r19 : List Cond := [Cond.selects RX1 yX1_lowsUpTo yX1_lowsUpTo, Cond.code yX1_lowsUpTo cX1_lowsUpTo 5 (some .int), Cond.methodLink RL 59 yX7_rank, Cond.instanceMethod yX7_rank, Cond.selects RX7 yX7_rank yX7_rank, Cond.code yX7_rank cX7_rank 9 (some .int), Cond.methodLink RL 60 yX6_select, Cond.instanceMethod yX6_select, Cond.selects RX6 yX6_select yX6_select, Cond.code yX6_select cX6_select 3 (some .long), Cond.constantLong RX6 115 (-2), Cond.methodLink RX6 117 yX2_numberAt, Cond.instanceMethod yX2_numberAt, Cond.selects RX2 yX2_numberAt yX2_numberAt, Cond.code yX2_numberAt cX2_numberAt 4 (some .long), Cond.constantLong RX2 94 (-1), Cond.methodLink RX2 87 yX1_lowAt, Cond.instanceMethod yX1_lowAt, Cond.selects RX1 yX1_lowAt yX1_lowAt, Cond.code yX1_lowAt cX1_lowAt 8 (some .int), Cond.methodLink RX1 78 yJ13_numberOfTrailingZeros_95d88, Cond.static yJ13_numberOfTrailingZeros_95d88, Cond.code yJ13_numberOfTrailingZeros_95d88 cJ13_numberOfTrailingZeros_95d88 3 (some .int), Cond.methodLink RJ13 311 yJ6_numberOfTrailingZeros_0f7a4]
def wsL_law_r20 : List Cond := [Cond.static yJ6_numberOfTrailingZeros_0f7a4, Cond.initialized RJ6, Cond.code yJ6_numberOfTrailingZeros_0f7a4 cJ6_numberOfTrailingZeros_0f7a4 2 (some .int), Cond.constant RJ6 264 (65536), Cond.methodLink RX2 90 yX2_numberOf, Cond.static yX2_numberOf, Cond.code yX2_numberOf cX2_numberOf 2 (some .long), Cond.methodLink RL 64 yX7_select, Cond.instanceMethod yX7_select, Cond.selects RX7 yX7_select yX7_select, Cond.code yX7_select cX7_select 8 (some .long), Cond.constantLong RX7 142 (-2), Cond.methodLink RX7 144 yX7_numberOf, Cond.instanceMethod yX7_numberOf, Cond.selects RX7 yX7_numberOf yX7_numberOf, Cond.code yX7_numberOf cX7_numberOf 3 (some .long), Cond.constantLong RX7 140 (65536), Cond.methodLink RL 65 yX6_next, Cond.instanceMethod yX6_next, Cond.selects RX6 yX6_next yX6_next, Cond.code yX6_next cX6_next 3 (some .long), Cond.methodLink RX6 121 yX2_firstFrom, Cond.instanceMethod yX2_firstFrom, Cond.selects RX2 yX2_firstFrom yX2_firstFrom]
def wsL_law_r21 : List Cond := [Cond.code yX2_firstFrom cX2_firstFrom 5 (some .long), Cond.methodLink RX2 96 yX1_firstIn, Cond.instanceMethod yX1_firstIn, Cond.selects RX1 yX1_firstIn yX1_firstIn, Cond.code yX1_firstIn cX1_firstIn 2 (some .int), Cond.methodLink RX1 81 yX1_firstBit, Cond.instanceMethod yX1_firstBit, Cond.selects RX1 yX1_firstBit yX1_firstBit, Cond.code yX1_firstBit cX1_firstBit 8 (some .int), Cond.constant RX1 85 (65536), Cond.methodLink RL 68 yX7_next, Cond.instanceMethod yX7_next, Cond.selects RX7 yX7_next yX7_next, Cond.code yX7_next cX7_next 7 (some .long), Cond.methodLink RL 69 yX6_count, Cond.instanceMethod yX6_count, Cond.selects RX6 yX6_count yX6_count, Cond.code yX6_count cX6_count 3 (some .int), Cond.methodLink RL 72 yX7_count, Cond.instanceMethod yX7_count, Cond.selects RX7 yX7_count yX7_count, Cond.code yX7_count cX7_count 5 (some .int), Cond.constantLong RX7 148 (4), Cond.methodLink RL 73 yX6_container]
def wsL_law_r22 : List Cond := [Cond.instanceMethod yX6_container, Cond.selects RX6 yX6_container yX6_container, Cond.code yX6_container cX6_container 5 (some .int), Cond.fieldLink RX6 125 "RoaringIndex$NumberSet" "items" "[LRoaringIndex$Container;", Cond.fieldLink RX6 129 "RoaringIndex$Container" "key" "I", Cond.fieldLink RX6 132 "RoaringIndex$Container" "kind" "I", Cond.fieldLink RX6 135 "RoaringIndex$Container" "total" "I", Cond.methodLink RX6 137 yX1_totalRuns, Cond.methodLink RL 77 yX7_container, Cond.instanceMethod yX7_container, Cond.selects RX7 yX7_container yX7_container, Cond.code yX7_container cX7_container 5 (some .int), Cond.methodLink RL 78 yX6_compare, Cond.instanceMethod yX6_compare, Cond.selects RX6 yX6_compare yX6_compare, Cond.code yX6_compare cX6_compare 5 (some .int), Cond.methodLink RX6 140 yX2_isInside, Cond.instanceMethod yX2_isInside, Cond.selects RX2 yX2_isInside yX2_isInside, Cond.code yX2_isInside cX2_isInside 4 (some .boolean), Cond.methodLink RX2 99 yX1_hasNoLowBut, Cond.methodLink RX6 144 yX2_meets, Cond.instanceMethod yX2_meets, Cond.selects RX2 yX2_meets yX2_meets]
def wsL_law_r23 : List Cond := [Cond.code yX2_meets cX2_meets 4 (some .boolean), Cond.methodLink RX2 103 yX1_hasLowIn, Cond.instanceMethod yX1_hasLowIn, Cond.selects RX1 yX1_hasLowIn yX1_hasLowIn, Cond.code yX1_hasLowIn cX1_hasLowIn 3 (some .boolean), Cond.methodLink RL 81 yX7_compare, Cond.instanceMethod yX7_compare, Cond.selects RX7 yX7_compare yX7_compare, Cond.code yX7_compare cX7_compare 6 (some .int), Cond.methodLink RX7 150 yX7_both, Cond.instanceMethod yX7_both, Cond.selects RX7 yX7_both yX7_both, Cond.code yX7_both cX7_both 8 (some .int), Cond.methodLink RL 82 yX6_write, Cond.instanceMethod yX6_write, Cond.selects RX6 yX6_write yX6_write, Cond.code yX6_write cX6_write 2 (some .int), Cond.constant RX6 153 (60000), Cond.fieldLink RX6 154 "RoaringIndex$ByteRow" "used" "I", Cond.methodLink RX6 147 yX5_bytesOf, Cond.static yX5_bytesOf, Cond.initialized RX5, Cond.code yX5_bytesOf cX5_bytesOf 3 (some .int), Cond.fieldLink RX5 15 "RoaringIndex$NumberSet" "used" "I"]
def wsL_law_r24 : List Cond := [Cond.fieldLink RX5 21 "RoaringIndex$NumberSet" "items" "[LRoaringIndex$Container;", Cond.methodLink RX5 9 yX5_headBytesOf, Cond.static yX5_headBytesOf, Cond.code yX5_headBytesOf cX5_headBytesOf 2 (some .int), Cond.methodLink RX5 62 yX5_hasRuns, Cond.static yX5_hasRuns, Cond.code yX5_hasRuns cX5_hasRuns 1 (some .boolean), Cond.methodLink RX5 58 yX2_totalOfKind, Cond.methodLink RX5 47 yX5_hasPlaces, Cond.static yX5_hasPlaces, Cond.code yX5_hasPlaces cX5_hasPlaces 1 (some .boolean), Cond.methodLink RX5 25 yX5_bodyBytesOf, Cond.static yX5_bodyBytesOf, Cond.code yX5_bodyBytesOf cX5_bodyBytesOf 1 (some .int), Cond.fieldLink RX5 65 "RoaringIndex$Container" "kind" "I", Cond.fieldLink RX5 44 "RoaringIndex$Container" "total" "I", Cond.methodLink RX5 68 yX1_totalRuns, Cond.methodLink RX6 155 yX5_putSet, Cond.static yX5_putSet, Cond.code yX5_putSet cX5_putSet 3 none, Cond.fieldLink RX5 33 "RoaringIndex$Container" "key" "I", Cond.methodLink RX5 29 yX5_putMark, Cond.static yX5_putMark, Cond.code yX5_putMark cX5_putMark 5 none]
def wsL_law_r25 : List Cond := [Cond.constantLong RX5 72 (12346), Cond.constantLong RX5 74 (12347), Cond.methodLink RX5 38 yX0_put, Cond.instanceMethod yX0_put, Cond.selects RX0 yX0_put yX0_put, Cond.code yX0_put cX0_put 5 none, Cond.fieldLink RX0 15 "RoaringIndex$ByteRow" "used" "I", Cond.constant RX0 19 (60000), Cond.methodLink RX0 20 yJ7_copyOf_9075b, Cond.static yJ7_copyOf_9075b, Cond.code yJ7_copyOf_9075b cJ7_copyOf_9075b 3 (some (.array .byte)), Cond.methodLink RJ7 310 ⟨"[B", "clone", "()Ljava/lang/Object;"⟩, Cond.sameMethod "[B" "java/lang/Object" "clone" "()Ljava/lang/Object;", Cond.native ⟨"java/lang/Object", "clone", "()Ljava/lang/Object;"⟩, Cond.instanceMethod ⟨"java/lang/Object", "clone", "()Ljava/lang/Object;"⟩, Cond.selects "[B" ⟨"[B", "clone", "()Ljava/lang/Object;"⟩ ⟨"java/lang/Object", "clone", "()Ljava/lang/Object;"⟩, Cond.classLink RJ7 311 "[B", Cond.methodLink RJ7 304 Lib.Math.min.name, Cond.static Lib.Math.min.name, Cond.initialized "java/lang/Math", Cond.code Lib.Math.min.name Lib.Math.min.code 2 (some .int), Cond.methodLink RJ7 150 arraycopyName, Cond.methodLink RX5 51 yX5_putPlaces, Cond.static yX5_putPlaces]
def wsL_law_r26 : List Cond := [Cond.code yX5_putPlaces cX5_putPlaces 4 none, Cond.methodLink RX5 54 yX5_putBody, Cond.static yX5_putBody, Cond.code yX5_putBody cX5_putBody 2 none, Cond.methodLink RX5 76 yX5_putArray, Cond.static yX5_putArray, Cond.code yX5_putArray cX5_putArray 7 none, Cond.fieldLink RX5 85 "RoaringIndex$Container" "words" "[J", Cond.methodLink RX5 89 yJ13_bitCount_95d88, Cond.methodLink RX5 95 yJ13_numberOfTrailingZeros_95d88, Cond.methodLink RX5 79 yX5_putBitmap, Cond.static yX5_putBitmap, Cond.code yX5_putBitmap cX5_putBitmap 3 none, Cond.methodLink RX5 82 yX5_putRuns, Cond.static yX5_putRuns, Cond.code yX5_putRuns cX5_putRuns 6 none, Cond.methodLink RX5 98 yX1_firstIn, Cond.methodLink RX5 101 yX1_firstOut, Cond.instanceMethod yX1_firstOut, Cond.selects RX1 yX1_firstOut yX1_firstOut, Cond.code yX1_firstOut cX1_firstOut 2 (some .int), Cond.methodLink RL 85 yX7_write, Cond.instanceMethod yX7_write, Cond.selects RX7 yX7_write yX7_write]
def wsL_law_r27 : List Cond := [Cond.code yX7_write cX7_write 7 (some .int), Cond.fieldLink RX7 153 "RoaringIndexModel" "out" "I", Cond.fieldLink RX7 174 "RoaringIndexModel" "size" "I", Cond.methodLink RX7 162 yX7_headOf, Cond.instanceMethod yX7_headOf, Cond.selects RX7 yX7_headOf yX7_headOf, Cond.code yX7_headOf cX7_headOf 4 (some .int), Cond.methodLink RX7 159 yX7_hasRuns, Cond.instanceMethod yX7_hasRuns, Cond.selects RX7 yX7_hasRuns yX7_hasRuns, Cond.code yX7_hasRuns cX7_hasRuns 2 (some .boolean), Cond.methodLink RX7 156 yX7_count, Cond.methodLink RX7 165 yX7_lengthOf, Cond.instanceMethod yX7_lengthOf, Cond.selects RX7 yX7_lengthOf yX7_lengthOf, Cond.code yX7_lengthOf cX7_lengthOf 2 (some .int), Cond.methodLink RX7 168 yX7_put, Cond.instanceMethod yX7_put, Cond.selects RX7 yX7_put yX7_put, Cond.code yX7_put cX7_put 4 none, Cond.methodLink RX7 171 yX7_writeOne, Cond.instanceMethod yX7_writeOne, Cond.selects RX7 yX7_writeOne yX7_writeOne, Cond.code yX7_writeOne cX7_writeOne 4 none]
def wsL_law_r28 : List Cond := [Cond.methodLink RL 86 yX6_read, Cond.instanceMethod yX6_read, Cond.selects RX6 yX6_read yX6_read, Cond.code yX6_read cX6_read 2 (some .int), Cond.fieldLink RX6 163 "RoaringIndex$Reader" "faultPlace" "I", Cond.methodLink RX6 159 yX4_takeSet, Cond.instanceMethod yX4_takeSet, Cond.selects RX4 yX4_takeSet yX4_takeSet, Cond.code yX4_takeSet cX4_takeSet 4 (some .boolean), Cond.fieldLink RX4 18 "RoaringIndex$Reader" "faultNumber" "I", Cond.fieldLink RX4 22 "RoaringIndex$Reader" "faultPlace" "I", Cond.fieldLink RX4 25 "RoaringIndex$Reader" "place" "I", Cond.fieldLink RX4 28 "RoaringIndex$ByteRow" "used" "I", Cond.fieldLink RX4 33 "RoaringIndex$Reader" "end" "I", Cond.fieldLink RX4 36 "RoaringIndex$Reader" "n" "I", Cond.fieldLink RX4 39 "RoaringIndex$Reader" "plainMark" "Z", Cond.fieldLink RX4 43 "RoaringIndex$Reader" "runBits" "I", Cond.fieldLink RX4 46 "RoaringIndex$Reader" "placesFrom" "I", Cond.fieldLink RX4 49 "RoaringIndex$NumberSet" "used" "I", Cond.methodLink RX4 52 yX4_takeMark, Cond.instanceMethod yX4_takeMark, Cond.selects RX4 yX4_takeMark yX4_takeMark, Cond.code yX4_takeMark cX4_takeMark 4 (some .boolean), Cond.constantLong RX4 83 (12346)]
def wsL_law_r29 : List Cond := [Cond.constantLong RX4 88 (65535), Cond.constantLong RX4 90 (12347), Cond.methodLink RX4 75 yX4_isThere, Cond.instanceMethod yX4_isThere, Cond.selects RX4 yX4_isThere yX4_isThere, Cond.code yX4_isThere cX4_isThere 2 (some .boolean), Cond.methodLink RX4 67 yX4_tellFault, Cond.instanceMethod yX4_tellFault, Cond.selects RX4 yX4_tellFault yX4_tellFault, Cond.code yX4_tellFault cX4_tellFault 3 (some .boolean), Cond.methodLink RX4 79 yX4_take, Cond.instanceMethod yX4_take, Cond.selects RX4 yX4_take yX4_take, Cond.code yX4_take cX4_take 5 (some .long), Cond.methodLink RX4 71 yX0_numberAt, Cond.instanceMethod yX0_numberAt, Cond.selects RX0 yX0_numberAt yX0_numberAt, Cond.code yX0_numberAt cX0_numberAt 6 (some .long), Cond.methodLink RX0 26 yX0_byteAt, Cond.instanceMethod yX0_byteAt, Cond.selects RX0 yX0_byteAt yX0_byteAt, Cond.code yX0_byteAt cX0_byteAt 2 (some .int), Cond.methodLink RX4 85 yX4_takePlainTotal, Cond.instanceMethod yX4_takePlainTotal]
def wsL_law_r30 : List Cond := [Cond.selects RX4 yX4_takePlainTotal yX4_takePlainTotal, Cond.code yX4_takePlainTotal cX4_takePlainTotal 4 (some .boolean), Cond.constantLong RX4 96 (6), Cond.methodLink RX4 92 yX4_takeRunBits, Cond.instanceMethod yX4_takeRunBits, Cond.selects RX4 yX4_takeRunBits yX4_takeRunBits, Cond.code yX4_takeRunBits cX4_takeRunBits 3 (some .boolean), Cond.methodLink RX4 56 yX4_takeHeads, Cond.instanceMethod yX4_takeHeads, Cond.selects RX4 yX4_takeHeads yX4_takeHeads, Cond.code yX4_takeHeads cX4_takeHeads 3 (some .boolean), Cond.methodLink RX4 59 yX4_takePlaces, Cond.instanceMethod yX4_takePlaces, Cond.selects RX4 yX4_takePlaces yX4_takePlaces, Cond.code yX4_takePlaces cX4_takePlaces 1 (some .boolean), Cond.methodLink RX4 63 yX4_takeContainer, Cond.instanceMethod yX4_takeContainer, Cond.selects RX4 yX4_takeContainer yX4_takeContainer, Cond.code yX4_takeContainer cX4_takeContainer 5 (some .boolean), Cond.fieldLink RX4 98 "RoaringIndex$NumberSet" "items" "[LRoaringIndex$Container;", Cond.fieldLink RX4 108 "RoaringIndex$Container" "kind" "I", Cond.methodLink RX4 102 yX1_begin, Cond.methodLink RX4 111 yX4_takeRuns, Cond.instanceMethod yX4_takeRuns]
def wsL_law_r31 : List Cond := [Cond.selects RX4 yX4_takeRuns yX4_takeRuns, Cond.code yX4_takeRuns cX4_takeRuns 9 (some .boolean), Cond.constant RX4 138 (65535), Cond.fieldLink RX4 129 "RoaringIndex$Container" "total" "I", Cond.methodLink RX4 121 yX1_changeLows, Cond.methodLink RX4 115 yX4_takeArray, Cond.instanceMethod yX4_takeArray, Cond.selects RX4 yX4_takeArray yX4_takeArray, Cond.code yX4_takeArray cX4_takeArray 7 (some .boolean), Cond.methodLink RX4 118 yX4_takeBitmap, Cond.instanceMethod yX4_takeBitmap, Cond.selects RX4 yX4_takeBitmap yX4_takeBitmap, Cond.code yX4_takeBitmap cX4_takeBitmap 5 (some .boolean), Cond.fieldLink RX4 125 "RoaringIndex$Container" "words" "[J", Cond.methodLink RX4 132 yJ13_bitCount_95d88, Cond.methodLink RL 89 yX7_read, Cond.instanceMethod yX7_read, Cond.selects RX7 yX7_read yX7_read, Cond.code yX7_read cX7_read 2 (some .int), Cond.fieldLink RX7 177 "RoaringIndexModel" "fault" "I", Cond.fieldLink RX7 183 "RoaringIndexModel" "at" "I", Cond.fieldLink RX7 180 "RoaringIndexModel" "faultPlace" "I", Cond.methodLink RX7 225 yX7_readsAll, Cond.instanceMethod yX7_readsAll]
def wsL_law_r32 : List Cond := [Cond.selects RX7 yX7_readsAll yX7_readsAll, Cond.code yX7_readsAll cX7_readsAll 5 (some .boolean), Cond.fieldLink RX7 198 "RoaringIndexModel" "bits" "I", Cond.methodLink RX7 212 yX7_readsHead, Cond.instanceMethod yX7_readsHead, Cond.selects RX7 yX7_readsHead yX7_readsHead, Cond.code yX7_readsHead cX7_readsHead 6 (some .boolean), Cond.constantLong RX7 196 (12346), Cond.constantLong RX7 201 (12347), Cond.constantLong RX7 203 (6), Cond.methodLink RX7 189 yX7_are, Cond.instanceMethod yX7_are, Cond.selects RX7 yX7_are yX7_are, Cond.code yX7_are cX7_are 2 (some .boolean), Cond.methodLink RX7 186 yX7_fails, Cond.instanceMethod yX7_fails, Cond.selects RX7 yX7_fails yX7_fails, Cond.code yX7_fails cX7_fails 3 (some .boolean), Cond.methodLink RX7 192 yX7_taken, Cond.instanceMethod yX7_taken, Cond.selects RX7 yX7_taken yX7_taken, Cond.code yX7_taken cX7_taken 5 (some .long), Cond.methodLink RX7 205 yX7_readsKeys, Cond.instanceMethod yX7_readsKeys]
def wsL_law_r33 : List Cond := [Cond.selects RX7 yX7_readsKeys yX7_readsKeys, Cond.code yX7_readsKeys cX7_readsKeys 4 (some .boolean), Cond.methodLink RX7 208 yX7_readsPlaces, Cond.instanceMethod yX7_readsPlaces, Cond.selects RX7 yX7_readsPlaces yX7_readsPlaces, Cond.code yX7_readsPlaces cX7_readsPlaces 4 (some .boolean), Cond.methodLink RX7 216 yX7_readsRuns, Cond.instanceMethod yX7_readsRuns, Cond.selects RX7 yX7_readsRuns yX7_readsRuns, Cond.code yX7_readsRuns cX7_readsRuns 9 (some .boolean), Cond.methodLink RX7 219 yX7_readsArray, Cond.instanceMethod yX7_readsArray, Cond.selects RX7 yX7_readsArray yX7_readsArray, Cond.code yX7_readsArray cX7_readsArray 6 (some .boolean), Cond.methodLink RX7 222 yX7_readsBitmap, Cond.instanceMethod yX7_readsBitmap, Cond.selects RX7 yX7_readsBitmap yX7_readsBitmap, Cond.code yX7_readsBitmap cX7_readsBitmap 6 (some .boolean), Cond.methodLink RL 90 yX6_fault, Cond.instanceMethod yX6_fault, Cond.selects RX6 yX6_fault yX6_fault, Cond.code yX6_fault cX6_fault 1 (some .int), Cond.fieldLink RX6 166 "RoaringIndex$Reader" "faultNumber" "I", Cond.methodLink RL 94 yX7_fault]
def wsL_law_r34 : List Cond := [Cond.instanceMethod yX7_fault, Cond.selects RX7 yX7_fault yX7_fault, Cond.code yX7_fault cX7_fault 1 (some .int), Cond.methodLink RL 95 yX6_cut, Cond.instanceMethod yX6_cut, Cond.selects RX6 yX6_cut yX6_cut, Cond.code yX6_cut cX6_cut 3 (some .int), Cond.methodLink RL 98 yX7_cut, Cond.instanceMethod yX7_cut, Cond.selects RX7 yX7_cut yX7_cut, Cond.code yX7_cut cX7_cut 3 (some .int), Cond.methodLink RL 99 yX6_type, Cond.instanceMethod yX6_type, Cond.selects RX6 yX6_type yX6_type, Cond.code yX6_type cX6_type 4 (some .int), Cond.methodLink RX6 169 yX0_put, Cond.methodLink RL 103 yX7_type, Cond.instanceMethod yX7_type, Cond.selects RX7 yX7_type yX7_type, Cond.code yX7_type cX7_type 5 (some .int), Cond.methodLink RL 104 yX6_at, Cond.instanceMethod yX6_at, Cond.selects RX6 yX6_at yX6_at, Cond.code yX6_at cX6_at 2 (some .int)]
def wsL_law_r35 : List Cond := [Cond.methodLink RX6 173 yX0_lacks, Cond.instanceMethod yX0_lacks, Cond.selects RX0 yX0_lacks yX0_lacks, Cond.code yX0_lacks cX0_lacks 2 (some .boolean), Cond.methodLink RX6 176 yX0_byteAt, Cond.methodLink RL 107 yX7_at, Cond.instanceMethod yX7_at, Cond.selects RX7 yX7_at yX7_at, Cond.code yX7_at cX7_at 2 (some .int), Cond.methodLink RL 108 yX6_alter, Cond.instanceMethod yX6_alter, Cond.selects RX6 yX6_alter yX6_alter, Cond.code yX6_alter cX6_alter 4 (some .int), Cond.fieldLink RX6 179 "RoaringIndex$ByteRow" "held" "[B", Cond.methodLink RL 111 yX7_alter, Cond.instanceMethod yX7_alter, Cond.selects RX7 yX7_alter yX7_alter, Cond.code yX7_alter cX7_alter 4 (some .int), Cond.methodLink RL 112 yX6_work, Cond.instanceMethod yX6_work, Cond.selects RX6 yX6_work yX6_work, Cond.code yX6_work cX6_work 1 (some .int), Cond.methodLink RL 115 yX7_work, Cond.instanceMethod yX7_work]
def wsL_law_r36 : List Cond := [Cond.selects RX7 yX7_work yX7_work, Cond.code yX7_work cX7_work 1 (some .int), Cond.methodLink RL 116 yX6_size, Cond.instanceMethod yX6_size, Cond.selects RX6 yX6_size yX6_size, Cond.code yX6_size cX6_size 1 (some .int), Cond.methodLink RL 119 yX7_size, Cond.instanceMethod yX7_size, Cond.selects RX7 yX7_size yX7_size, Cond.code yX7_size cX7_size 1 (some .int), Cond.methodLink RL 120 yX6_digest, Cond.instanceMethod yX6_digest, Cond.selects RX6 yX6_digest yX6_digest, Cond.code yX6_digest cX6_digest 4 (some .long), Cond.constantLong RX6 183 (17), Cond.methodLink RX6 185 yX2_digestSetFrom, Cond.instanceMethod yX2_digestSetFrom, Cond.selects RX2 yX2_digestSetFrom yX2_digestSetFrom, Cond.code yX2_digestSetFrom cX2_digestSetFrom 6 (some .long), Cond.constantLong RX2 106 (31), Cond.methodLink RX2 108 yX2_total, Cond.methodLink RX2 111 yX1_digestFrom, Cond.instanceMethod yX1_digestFrom, Cond.selects RX1 yX1_digestFrom yX1_digestFrom]
def wsL_law_r37 : List Cond := [Cond.code yX1_digestFrom cX1_digestFrom 6 (some .long), Cond.constantLong RX1 86 (31), Cond.methodLink RL 124 yX7_digest, Cond.instanceMethod yX7_digest, Cond.selects RX7 yX7_digest yX7_digest, Cond.code yX7_digest cX7_digest 6 (some .long), Cond.constantLong RX7 228 (17), Cond.constantLong RX7 230 (31), Cond.methodLink RX7 232 yX7_container]
def wsL_law : List Cond := (wsL_law_r1 ++ (wsL_law_r2 ++ (wsL_law_r3 ++ (wsL_law_r4 ++ (wsL_law_r5 ++ (wsL_law_r6 ++ (wsL_law_r7 ++ (wsL_law_r8 ++ (wsL_law_r9 ++ (wsL_law_r10 ++ (wsL_law_r11 ++ (wsL_law_r12 ++ (wsL_law_r13 ++ (wsL_law_r14 ++ (wsL_law_r15 ++ (wsL_law_r16 ++ (wsL_law_r17 ++ (wsL_law_r18 ++ (wsL_law_r19 ++ (wsL_law_r20 ++ (wsL_law_r21 ++ (wsL_law_r22 ++ (wsL_law_r23 ++ (wsL_law_r24 ++ (wsL_law_r25 ++ (wsL_law_r26 ++ (wsL_law_r27 ++ (wsL_law_r28 ++ (wsL_law_r29 ++ (wsL_law_r30 ++ (wsL_law_r31 ++ (wsL_law_r32 ++ (wsL_law_r33 ++ (wsL_law_r34 ++ (wsL_law_r35 ++ (wsL_law_r36 ++ wsL_law_r37)))))))))))))))))))))))))))))))))))) ++ wsX60 ++ wsX70 ++ wsX20 ++ wsX30 ++ wsX00 ++ wsX40 ++ wsX10 ++ ([] : List Cond)
end
section
theorem dX0_init_0 : decode cX0_init 0 = .ok (.aload_n 0, 1) := by decide +kernel
theorem dX0_init_1 : decode cX0_init 1 = .ok (.invokespecial 3, 3) := by decide +kernel
theorem dX0_init_4 : decode cX0_init 4 = .ok (.aload_n 0, 1) := by decide +kernel
theorem dX0_init_5 : decode cX0_init 5 = .ok (.sipush 1024, 3) := by decide +kernel
theorem dX0_init_8 : decode cX0_init 8 = .ok (.newarray .byte, 2) := by decide +kernel
theorem dX0_init_10 : decode cX0_init 10 = .ok (.putfield 9, 3) := by decide +kernel
theorem dX0_init_13 : decode cX0_init 13 = .ok (.return_, 1) := by decide +kernel
theorem dX0_lacks_0 : decode cX0_lacks 0 = .ok (.iload_n 1, 1) := by decide +kernel
theorem dX0_lacks_1 : decode cX0_lacks 1 = .ok (.ifCond .lt 11, 3) := by decide +kernel
theorem dX0_lacks_4 : decode cX0_lacks 4 = .ok (.iload_n 1, 1) := by decide +kernel
theorem dX0_lacks_5 : decode cX0_lacks 5 = .ok (.aload_n 0, 1) := by decide +kernel
theorem dX0_lacks_6 : decode cX0_lacks 6 = .ok (.getfield 15, 3) := by decide +kernel
theorem dX0_lacks_9 : decode cX0_lacks 9 = .ok (.if_icmp .lt 7, 3) := by decide +kernel
theorem dX0_lacks_12 : decode cX0_lacks 12 = .ok (.iconst 1, 1) := by decide +kernel
theorem dX0_lacks_13 : decode cX0_lacks 13 = .ok (.goto 4, 3) := by decide +kernel
theorem dX0_lacks_16 : decode cX0_lacks 16 = .ok (.iconst 0, 1) := by decide +kernel
theorem dX0_lacks_17 : decode cX0_lacks 17 = .ok (.ireturn, 1) := by decide +kernel
theorem dX0_byteAt_0 : decode cX0_byteAt 0 = .ok (.aload_n 0, 1) := by decide +kernel
theorem dX0_byteAt_1 : decode cX0_byteAt 1 = .ok (.getfield 9, 3) := by decide +kernel
theorem dX0_byteAt_4 : decode cX0_byteAt 4 = .ok (.iload_n 1, 1) := by decide +kernel
theorem dX0_byteAt_5 : decode cX0_byteAt 5 = .ok (.baload, 1) := by decide +kernel
theorem dX0_byteAt_6 : decode cX0_byteAt 6 = .ok (.sipush 255, 3) := by decide +kernel
theorem dX0_byteAt_9 : decode cX0_byteAt 9 = .ok (.iand, 1) := by decide +kernel
theorem dX0_byteAt_10 : decode cX0_byteAt 10 = .ok (.ireturn, 1) := by decide +kernel
set_option maxRecDepth 20000 in
theorem ggX0_put_J7_copyOf_9075b : GoodIn wsX0_put wsJ7_copyOf_9075b := goodIn_r _ [7, 8, 9, 10, 11, 12, 13, 14, 15, 16, 17, 18, 19, 20, 21, 22] (by decide +kernel) (by decide +kernel)
set_option maxRecDepth 20000 in
theorem gX0_put_J7_copyOf_9075b : GoodIn wsX0_put (va_wsS RX0 20 yJ7_copyOf_9075b wsJ7_copyOf_9075b) := goodIn_app (goodIn_of _ (by decide +kernel)) ggX0_put_J7_copyOf_9075b
theorem dX0_put_0 : decode cX0_put 0 = .ok (.aload_n 0, 1) := by decide +kernel
theorem dX0_put_1 : decode cX0_put 1 = .ok (.getfield 15, 3) := by decide +kernel
theorem dX0_put_4 : decode cX0_put 4 = .ok (.iload_n 3, 1) := by decide +kernel
theorem dX0_put_5 : decode cX0_put 5 = .ok (.iadd, 1) := by decide +kernel
theorem dX0_put_6 : decode cX0_put 6 = .ok (.aload_n 0, 1) := by decide +kernel
theorem dX0_put_7 : decode cX0_put 7 = .ok (.getfield 9, 3) := by decide +kernel
theorem dX0_put_10 : decode cX0_put 10 = .ok (.arraylength, 1) := by decide +kernel
theorem dX0_put_11 : decode cX0_put 11 = .ok (.if_icmp .le 26, 3) := by decide +kernel
theorem dX0_put_14 : decode cX0_put 14 = .ok (.aload_n 0, 1) := by decide +kernel
theorem dX0_put_15 : decode cX0_put 15 = .ok (.getfield 9, 3) := by decide +kernel
theorem dX0_put_18 : decode cX0_put 18 = .ok (.arraylength, 1) := by decide +kernel
theorem dX0_put_19 : decode cX0_put 19 = .ok (.ldc 19, 2) := by decide +kernel
theorem dX0_put_21 : decode cX0_put 21 = .ok (.if_icmp .ge 16, 3) := by decide +kernel
theorem dX0_put_24 : decode cX0_put 24 = .ok (.aload_n 0, 1) := by decide +kernel
theorem dX0_put_25 : decode cX0_put 25 = .ok (.aload_n 0, 1) := by decide +kernel
theorem dX0_put_26 : decode cX0_put 26 = .ok (.getfield 9, 3) := by decide +kernel
theorem dX0_put_29 : decode cX0_put 29 = .ok (.ldc 19, 2) := by decide +kernel
theorem dX0_put_31 : decode cX0_put 31 = .ok (.invokestatic 20, 3) := by decide +kernel
theorem dX0_put_34 : decode cX0_put 34 = .ok (.putfield 9, 3) := by decide +kernel
theorem dX0_put_37 : decode cX0_put 37 = .ok (.iconst 0, 1) := by decide +kernel
theorem dX0_put_38 : decode cX0_put 38 = .ok (.istore 4, 2) := by decide +kernel
theorem dX0_put_40 : decode cX0_put 40 = .ok (.iload 4, 2) := by decide +kernel
theorem dX0_put_42 : decode cX0_put 42 = .ok (.iload_n 3, 1) := by decide +kernel
theorem dX0_put_43 : decode cX0_put 43 = .ok (.if_icmp .ge 46, 3) := by decide +kernel
theorem dX0_put_46 : decode cX0_put 46 = .ok (.aload_n 0, 1) := by decide +kernel
theorem dX0_put_47 : decode cX0_put 47 = .ok (.getfield 15, 3) := by decide +kernel
theorem dX0_put_50 : decode cX0_put 50 = .ok (.aload_n 0, 1) := by decide +kernel
theorem dX0_put_51 : decode cX0_put 51 = .ok (.getfield 9, 3) := by decide +kernel
theorem dX0_put_54 : decode cX0_put 54 = .ok (.arraylength, 1) := by decide +kernel
theorem dX0_put_55 : decode cX0_put 55 = .ok (.if_icmp .ge 34, 3) := by decide +kernel
theorem dX0_put_58 : decode cX0_put 58 = .ok (.aload_n 0, 1) := by decide +kernel
theorem dX0_put_59 : decode cX0_put 59 = .ok (.getfield 9, 3) := by decide +kernel
theorem dX0_put_62 : decode cX0_put 62 = .ok (.aload_n 0, 1) := by decide +kernel
theorem dX0_put_63 : decode cX0_put 63 = .ok (.dup, 1) := by decide +kernel
theorem dX0_put_64 : decode cX0_put 64 = .ok (.getfield 15, 3) := by decide +kernel
theorem dX0_put_67 : decode cX0_put 67 = .ok (.dup_x1, 1) := by decide +kernel
theorem dX0_put_68 : decode cX0_put 68 = .ok (.iconst 1, 1) := by decide +kernel
theorem dX0_put_69 : decode cX0_put 69 = .ok (.iadd, 1) := by decide +kernel
theorem dX0_put_70 : decode cX0_put 70 = .ok (.putfield 15, 3) := by decide +kernel
theorem dX0_put_73 : decode cX0_put 73 = .ok (.lload_n 1, 1) := by decide +kernel
theorem dX0_put_74 : decode cX0_put 74 = .ok (.bipush 8, 2) := by decide +kernel
theorem dX0_put_76 : decode cX0_put 76 = .ok (.iload 4, 2) := by decide +kernel
theorem dX0_put_78 : decode cX0_put 78 = .ok (.imul, 1) := by decide +kernel
theorem dX0_put_79 : decode cX0_put 79 = .ok (.lushr, 1) := by decide +kernel
theorem dX0_put_80 : decode cX0_put 80 = .ok (.l2i, 1) := by decide +kernel
theorem dX0_put_81 : decode cX0_put 81 = .ok (.i2b, 1) := by decide +kernel
theorem dX0_put_82 : decode cX0_put 82 = .ok (.bastore, 1) := by decide +kernel
theorem dX0_put_83 : decode cX0_put 83 = .ok (.iinc 4 1, 3) := by decide +kernel
theorem dX0_put_86 : decode cX0_put 86 = .ok (.goto (-46), 3) := by decide +kernel
theorem dX0_put_89 : decode cX0_put 89 = .ok (.return_, 1) := by decide +kernel
set_option maxRecDepth 20000 in
theorem ggX0_numberAt_X0_byteAt : GoodIn wsX0_numberAt wsX0_byteAt := goodIn_r _ [5, 6, 7, 8] (by decide +kernel) (by decide +kernel)
set_option maxRecDepth 20000 in
theorem gX0_numberAt_X0_byteAt : GoodIn wsX0_numberAt (wsV RX0 26 RX0 yX0_byteAt wsX0_byteAt) := goodIn_app (goodIn_of _ (by decide +kernel)) ggX0_numberAt_X0_byteAt
theorem dX0_numberAt_0 : decode cX0_numberAt 0 = .ok (.lconst 0, 1) := by decide +kernel
theorem dX0_numberAt_1 : decode cX0_numberAt 1 = .ok (.lstore_n 3, 1) := by decide +kernel
theorem dX0_numberAt_2 : decode cX0_numberAt 2 = .ok (.iconst 0, 1) := by decide +kernel
theorem dX0_numberAt_3 : decode cX0_numberAt 3 = .ok (.istore 5, 2) := by decide +kernel
theorem dX0_numberAt_5 : decode cX0_numberAt 5 = .ok (.iload 5, 2) := by decide +kernel
theorem dX0_numberAt_7 : decode cX0_numberAt 7 = .ok (.iload_n 2, 1) := by decide +kernel
theorem dX0_numberAt_8 : decode cX0_numberAt 8 = .ok (.if_icmp .ge 27, 3) := by decide +kernel
theorem dX0_numberAt_11 : decode cX0_numberAt 11 = .ok (.lload_n 3, 1) := by decide +kernel
theorem dX0_numberAt_12 : decode cX0_numberAt 12 = .ok (.aload_n 0, 1) := by decide +kernel
theorem dX0_numberAt_13 : decode cX0_numberAt 13 = .ok (.iload_n 1, 1) := by decide +kernel
theorem dX0_numberAt_14 : decode cX0_numberAt 14 = .ok (.iload 5, 2) := by decide +kernel
theorem dX0_numberAt_16 : decode cX0_numberAt 16 = .ok (.iadd, 1) := by decide +kernel
theorem dX0_numberAt_17 : decode cX0_numberAt 17 = .ok (.invokevirtual 26, 3) := by decide +kernel
theorem dX0_numberAt_20 : decode cX0_numberAt 20 = .ok (.i2l, 1) := by decide +kernel
theorem dX0_numberAt_21 : decode cX0_numberAt 21 = .ok (.bipush 8, 2) := by decide +kernel
theorem dX0_numberAt_23 : decode cX0_numberAt 23 = .ok (.iload 5, 2) := by decide +kernel
theorem dX0_numberAt_25 : decode cX0_numberAt 25 = .ok (.imul, 1) := by decide +kernel
theorem dX0_numberAt_26 : decode cX0_numberAt 26 = .ok (.lshl, 1) := by decide +kernel
theorem dX0_numberAt_27 : decode cX0_numberAt 27 = .ok (.lor, 1) := by decide +kernel
theorem dX0_numberAt_28 : decode cX0_numberAt 28 = .ok (.lstore_n 3, 1) := by decide +kernel
theorem dX0_numberAt_29 : decode cX0_numberAt 29 = .ok (.iinc 5 1, 3) := by decide +kernel
theorem dX0_numberAt_32 : decode cX0_numberAt 32 = .ok (.goto (-27), 3) := by decide +kernel
theorem dX0_numberAt_35 : decode cX0_numberAt 35 = .ok (.lload_n 3, 1) := by decide +kernel
theorem dX0_numberAt_36 : decode cX0_numberAt 36 = .ok (.lreturn, 1) := by decide +kernel
theorem dX1_init_0 : decode cX1_init 0 = .ok (.aload_n 0, 1) := by decide +kernel
theorem dX1_init_1 : decode cX1_init 1 = .ok (.invokespecial 3, 3) := by decide +kernel
theorem dX1_init_4 : decode cX1_init 4 = .ok (.aload_n 0, 1) := by decide +kernel
theorem dX1_init_5 : decode cX1_init 5 = .ok (.getstatic 9, 3) := by decide +kernel
theorem dX1_init_8 : decode cX1_init 8 = .ok (.putfield 13, 3) := by decide +kernel
theorem dX1_init_11 : decode cX1_init 11 = .ok (.return_, 1) := by decide +kernel
theorem dX1_makeRoom_0 : decode cX1_makeRoom 0 = .ok (.aload_n 0, 1) := by decide +kernel
theorem dX1_makeRoom_1 : decode cX1_makeRoom 1 = .ok (.getfield 13, 3) := by decide +kernel
theorem dX1_makeRoom_4 : decode cX1_makeRoom 4 = .ok (.arraylength, 1) := by decide +kernel
theorem dX1_makeRoom_5 : decode cX1_makeRoom 5 = .ok (.sipush 1024, 3) := by decide +kernel
theorem dX1_makeRoom_8 : decode cX1_makeRoom 8 = .ok (.if_icmp .ge 12, 3) := by decide +kernel
theorem dX1_makeRoom_11 : decode cX1_makeRoom 11 = .ok (.aload_n 0, 1) := by decide +kernel
theorem dX1_makeRoom_12 : decode cX1_makeRoom 12 = .ok (.sipush 1024, 3) := by decide +kernel
theorem dX1_makeRoom_15 : decode cX1_makeRoom 15 = .ok (.newarray .long, 2) := by decide +kernel
theorem dX1_makeRoom_17 : decode cX1_makeRoom 17 = .ok (.putfield 13, 3) := by decide +kernel
theorem dX1_makeRoom_20 : decode cX1_makeRoom 20 = .ok (.return_, 1) := by decide +kernel
set_option maxRecDepth 20000 in
theorem ggX1_begin_X1_makeRoom : GoodIn wsX1_begin wsX1_makeRoom := goodIn_r _ [9, 1, 10, 15, 16, 17, 18] (by decide +kernel) (by decide +kernel)
set_option maxRecDepth 20000 in
theorem gX1_begin_X1_makeRoom : GoodIn wsX1_begin (wsV RX1 18 RX1 yX1_makeRoom wsX1_makeRoom) := goodIn_app (goodIn_of _ (by decide +kernel)) ggX1_begin_X1_makeRoom
set_option maxRecDepth 20000 in
theorem ggX1_begin_J7_fill_d0a16 : GoodIn wsX1_begin wsJ7_fill_d0a16 := goodIn_r _ [14] (by decide +kernel) (by decide +kernel)
set_option maxRecDepth 20000 in
theorem gX1_begin_J7_fill_d0a16 : GoodIn wsX1_begin (va_wsS RX1 21 yJ7_fill_d0a16 wsJ7_fill_d0a16) := goodIn_app (goodIn_of _ (by decide +kernel)) ggX1_begin_J7_fill_d0a16
theorem dX1_begin_0 : decode cX1_begin 0 = .ok (.aload_n 0, 1) := by decide +kernel
theorem dX1_begin_1 : decode cX1_begin 1 = .ok (.invokevirtual 18, 3) := by decide +kernel
theorem dX1_begin_4 : decode cX1_begin 4 = .ok (.aload_n 0, 1) := by decide +kernel
theorem dX1_begin_5 : decode cX1_begin 5 = .ok (.getfield 13, 3) := by decide +kernel
theorem dX1_begin_8 : decode cX1_begin 8 = .ok (.lconst 0, 1) := by decide +kernel
theorem dX1_begin_9 : decode cX1_begin 9 = .ok (.invokestatic 21, 3) := by decide +kernel
theorem dX1_begin_12 : decode cX1_begin 12 = .ok (.aload_n 0, 1) := by decide +kernel
theorem dX1_begin_13 : decode cX1_begin 13 = .ok (.iload_n 1, 1) := by decide +kernel
theorem dX1_begin_14 : decode cX1_begin 14 = .ok (.putfield 27, 3) := by decide +kernel
theorem dX1_begin_17 : decode cX1_begin 17 = .ok (.aload_n 0, 1) := by decide +kernel
theorem dX1_begin_18 : decode cX1_begin 18 = .ok (.iconst 0, 1) := by decide +kernel
theorem dX1_begin_19 : decode cX1_begin 19 = .ok (.putfield 31, 3) := by decide +kernel
theorem dX1_begin_22 : decode cX1_begin 22 = .ok (.aload_n 0, 1) := by decide +kernel
theorem dX1_begin_23 : decode cX1_begin 23 = .ok (.iconst 0, 1) := by decide +kernel
theorem dX1_begin_24 : decode cX1_begin 24 = .ok (.putfield 34, 3) := by decide +kernel
theorem dX1_begin_27 : decode cX1_begin 27 = .ok (.return_, 1) := by decide +kernel
set_option maxRecDepth 20000 in
theorem ggX1_copyLowsOf_X1_makeRoom : GoodIn wsX1_copyLowsOf wsX1_makeRoom := goodIn_r _ [13, 1, 14, 15, 16, 17, 18] (by decide +kernel) (by decide +kernel)
set_option maxRecDepth 20000 in
theorem gX1_copyLowsOf_X1_makeRoom : GoodIn wsX1_copyLowsOf (wsV RX1 18 RX1 yX1_makeRoom wsX1_makeRoom) := goodIn_app (goodIn_of _ (by decide +kernel)) ggX1_copyLowsOf_X1_makeRoom
theorem dX1_copyLowsOf_0 : decode cX1_copyLowsOf 0 = .ok (.aload_n 0, 1) := by decide +kernel
theorem dX1_copyLowsOf_1 : decode cX1_copyLowsOf 1 = .ok (.invokevirtual 18, 3) := by decide +kernel
theorem dX1_copyLowsOf_4 : decode cX1_copyLowsOf 4 = .ok (.aload_n 1, 1) := by decide +kernel
theorem dX1_copyLowsOf_5 : decode cX1_copyLowsOf 5 = .ok (.getfield 13, 3) := by decide +kernel
theorem dX1_copyLowsOf_8 : decode cX1_copyLowsOf 8 = .ok (.iconst 0, 1) := by decide +kernel
theorem dX1_copyLowsOf_9 : decode cX1_copyLowsOf 9 = .ok (.aload_n 0, 1) := by decide +kernel
theorem dX1_copyLowsOf_10 : decode cX1_copyLowsOf 10 = .ok (.getfield 13, 3) := by decide +kernel
theorem dX1_copyLowsOf_13 : decode cX1_copyLowsOf 13 = .ok (.iconst 0, 1) := by decide +kernel
theorem dX1_copyLowsOf_14 : decode cX1_copyLowsOf 14 = .ok (.sipush 1024, 3) := by decide +kernel
theorem dX1_copyLowsOf_17 : decode cX1_copyLowsOf 17 = .ok (.invokestatic 37, 3) := by decide +kernel
theorem dX1_copyLowsOf_20 : decode cX1_copyLowsOf 20 = .ok (.aload_n 0, 1) := by decide +kernel
theorem dX1_copyLowsOf_21 : decode cX1_copyLowsOf 21 = .ok (.aload_n 1, 1) := by decide +kernel
theorem dX1_copyLowsOf_22 : decode cX1_copyLowsOf 22 = .ok (.getfield 27, 3) := by decide +kernel
theorem dX1_copyLowsOf_25 : decode cX1_copyLowsOf 25 = .ok (.putfield 27, 3) := by decide +kernel
theorem dX1_copyLowsOf_28 : decode cX1_copyLowsOf 28 = .ok (.aload_n 0, 1) := by decide +kernel
theorem dX1_copyLowsOf_29 : decode cX1_copyLowsOf 29 = .ok (.aload_n 1, 1) := by decide +kernel
theorem dX1_copyLowsOf_30 : decode cX1_copyLowsOf 30 = .ok (.getfield 31, 3) := by decide +kernel
theorem dX1_copyLowsOf_33 : decode cX1_copyLowsOf 33 = .ok (.putfield 31, 3) := by decide +kernel
theorem dX1_copyLowsOf_36 : decode cX1_copyLowsOf 36 = .ok (.aload_n 0, 1) := by decide +kernel
theorem dX1_copyLowsOf_37 : decode cX1_copyLowsOf 37 = .ok (.aload_n 1, 1) := by decide +kernel
theorem dX1_copyLowsOf_38 : decode cX1_copyLowsOf 38 = .ok (.getfield 34, 3) := by decide +kernel
theorem dX1_copyLowsOf_41 : decode cX1_copyLowsOf 41 = .ok (.putfield 34, 3) := by decide +kernel
theorem dX1_copyLowsOf_44 : decode cX1_copyLowsOf 44 = .ok (.return_, 1) := by decide +kernel
theorem dX1_setPlainKind_0 : decode cX1_setPlainKind 0 = .ok (.aload_n 0, 1) := by decide +kernel
theorem dX1_setPlainKind_1 : decode cX1_setPlainKind 1 = .ok (.aload_n 0, 1) := by decide +kernel
theorem dX1_setPlainKind_2 : decode cX1_setPlainKind 2 = .ok (.getfield 34, 3) := by decide +kernel
theorem dX1_setPlainKind_5 : decode cX1_setPlainKind 5 = .ok (.sipush 4096, 3) := by decide +kernel
theorem dX1_setPlainKind_8 : decode cX1_setPlainKind 8 = .ok (.if_icmp .gt 7, 3) := by decide +kernel
theorem dX1_setPlainKind_11 : decode cX1_setPlainKind 11 = .ok (.iconst 0, 1) := by decide +kernel
theorem dX1_setPlainKind_12 : decode cX1_setPlainKind 12 = .ok (.goto 4, 3) := by decide +kernel
theorem dX1_setPlainKind_15 : decode cX1_setPlainKind 15 = .ok (.iconst 1, 1) := by decide +kernel
theorem dX1_setPlainKind_16 : decode cX1_setPlainKind 16 = .ok (.putfield 31, 3) := by decide +kernel
theorem dX1_setPlainKind_19 : decode cX1_setPlainKind 19 = .ok (.return_, 1) := by decide +kernel
set_option maxRecDepth 20000 in
theorem ggX1_setSmallestKind_X1_totalRuns : GoodIn wsX1_setSmallestKind wsX1_totalRuns := goodIn_r _ [7, 8, 9, 10, 11, 12, 13, 14, 15, 16, 21, 22, 23, 24] (by decide +kernel) (by decide +kernel)
set_option maxRecDepth 20000 in
theorem gX1_setSmallestKind_X1_totalRuns : GoodIn wsX1_setSmallestKind (wsV RX1 43 RX1 yX1_totalRuns wsX1_totalRuns) := goodIn_app (goodIn_of _ (by decide +kernel)) ggX1_setSmallestKind_X1_totalRuns
set_option maxRecDepth 20000 in
theorem ggX1_setSmallestKind_X1_setPlainKind : GoodIn wsX1_setSmallestKind wsX1_setPlainKind := goodIn_r _ [20, 1, 2, 21, 22, 23, 24] (by decide +kernel) (by decide +kernel)
set_option maxRecDepth 20000 in
theorem gX1_setSmallestKind_X1_setPlainKind : GoodIn wsX1_setSmallestKind (wsV RX1 47 RX1 yX1_setPlainKind wsX1_setPlainKind) := goodIn_app (goodIn_of _ (by decide +kernel)) ggX1_setSmallestKind_X1_setPlainKind
theorem dX1_setSmallestKind_0 : decode cX1_setSmallestKind 0 = .ok (.aload_n 0, 1) := by decide +kernel
theorem dX1_setSmallestKind_1 : decode cX1_setSmallestKind 1 = .ok (.getfield 34, 3) := by decide +kernel
theorem dX1_setSmallestKind_4 : decode cX1_setSmallestKind 4 = .ok (.sipush 4096, 3) := by decide +kernel
theorem dX1_setSmallestKind_7 : decode cX1_setSmallestKind 7 = .ok (.if_icmp .gt 12, 3) := by decide +kernel
theorem dX1_setSmallestKind_10 : decode cX1_setSmallestKind 10 = .ok (.iconst 2, 1) := by decide +kernel
theorem dX1_setSmallestKind_11 : decode cX1_setSmallestKind 11 = .ok (.aload_n 0, 1) := by decide +kernel
theorem dX1_setSmallestKind_12 : decode cX1_setSmallestKind 12 = .ok (.getfield 34, 3) := by decide +kernel
theorem dX1_setSmallestKind_15 : decode cX1_setSmallestKind 15 = .ok (.imul, 1) := by decide +kernel
theorem dX1_setSmallestKind_16 : decode cX1_setSmallestKind 16 = .ok (.goto 6, 3) := by decide +kernel
theorem dX1_setSmallestKind_19 : decode cX1_setSmallestKind 19 = .ok (.sipush 8192, 3) := by decide +kernel
theorem dX1_setSmallestKind_22 : decode cX1_setSmallestKind 22 = .ok (.istore_n 1, 1) := by decide +kernel
theorem dX1_setSmallestKind_23 : decode cX1_setSmallestKind 23 = .ok (.iconst 2, 1) := by decide +kernel
theorem dX1_setSmallestKind_24 : decode cX1_setSmallestKind 24 = .ok (.iconst 4, 1) := by decide +kernel
theorem dX1_setSmallestKind_25 : decode cX1_setSmallestKind 25 = .ok (.aload_n 0, 1) := by decide +kernel
theorem dX1_setSmallestKind_26 : decode cX1_setSmallestKind 26 = .ok (.invokevirtual 43, 3) := by decide +kernel
theorem dX1_setSmallestKind_29 : decode cX1_setSmallestKind 29 = .ok (.imul, 1) := by decide +kernel
theorem dX1_setSmallestKind_30 : decode cX1_setSmallestKind 30 = .ok (.iadd, 1) := by decide +kernel
theorem dX1_setSmallestKind_31 : decode cX1_setSmallestKind 31 = .ok (.iload_n 1, 1) := by decide +kernel
theorem dX1_setSmallestKind_32 : decode cX1_setSmallestKind 32 = .ok (.if_icmp .ge 11, 3) := by decide +kernel
theorem dX1_setSmallestKind_35 : decode cX1_setSmallestKind 35 = .ok (.aload_n 0, 1) := by decide +kernel
theorem dX1_setSmallestKind_36 : decode cX1_setSmallestKind 36 = .ok (.iconst 2, 1) := by decide +kernel
theorem dX1_setSmallestKind_37 : decode cX1_setSmallestKind 37 = .ok (.putfield 31, 3) := by decide +kernel
theorem dX1_setSmallestKind_40 : decode cX1_setSmallestKind 40 = .ok (.goto 7, 3) := by decide +kernel
theorem dX1_setSmallestKind_43 : decode cX1_setSmallestKind 43 = .ok (.aload_n 0, 1) := by decide +kernel
theorem dX1_setSmallestKind_44 : decode cX1_setSmallestKind 44 = .ok (.invokevirtual 47, 3) := by decide +kernel
theorem dX1_setSmallestKind_47 : decode cX1_setSmallestKind 47 = .ok (.return_, 1) := by decide +kernel
theorem dX1_holds_0 : decode cX1_holds 0 = .ok (.aload_n 0, 1) := by decide +kernel
theorem dX1_holds_1 : decode cX1_holds 1 = .ok (.getfield 13, 3) := by decide +kernel
theorem dX1_holds_4 : decode cX1_holds 4 = .ok (.iload_n 1, 1) := by decide +kernel
theorem dX1_holds_5 : decode cX1_holds 5 = .ok (.bipush 6, 2) := by decide +kernel
theorem dX1_holds_7 : decode cX1_holds 7 = .ok (.ishr, 1) := by decide +kernel
theorem dX1_holds_8 : decode cX1_holds 8 = .ok (.laload, 1) := by decide +kernel
theorem dX1_holds_9 : decode cX1_holds 9 = .ok (.iload_n 1, 1) := by decide +kernel
theorem dX1_holds_10 : decode cX1_holds 10 = .ok (.lushr, 1) := by decide +kernel
theorem dX1_holds_11 : decode cX1_holds 11 = .ok (.lconst 1, 1) := by decide +kernel
theorem dX1_holds_12 : decode cX1_holds 12 = .ok (.land, 1) := by decide +kernel
theorem dX1_holds_13 : decode cX1_holds 13 = .ok (.lconst 0, 1) := by decide +kernel
theorem dX1_holds_14 : decode cX1_holds 14 = .ok (.lcmp, 1) := by decide +kernel
theorem dX1_holds_15 : decode cX1_holds 15 = .ok (.ifCond .eq 7, 3) := by decide +kernel
theorem dX1_holds_18 : decode cX1_holds 18 = .ok (.iconst 1, 1) := by decide +kernel
theorem dX1_holds_19 : decode cX1_holds 19 = .ok (.goto 4, 3) := by decide +kernel
theorem dX1_holds_22 : decode cX1_holds 22 = .ok (.iconst 0, 1) := by decide +kernel
theorem dX1_holds_23 : decode cX1_holds 23 = .ok (.ireturn, 1) := by decide +kernel
set_option maxRecDepth 20000 in
theorem ggX1_changeLows_X1_upTo : GoodIn wsX1_changeLows wsX1_upTo := goodIn_r _ [7, 1] (by decide +kernel) (by decide +kernel)
set_option maxRecDepth 20000 in
theorem gX1_changeLows_X1_upTo : GoodIn wsX1_changeLows (va_wsS RX1 52 yX1_upTo wsX1_upTo) := goodIn_app (goodIn_of _ (by decide +kernel)) ggX1_changeLows_X1_upTo
set_option maxRecDepth 20000 in
theorem ggX1_changeLows_J13_bitCount_95d88 : GoodIn wsX1_changeLows wsJ13_bitCount_95d88 := goodIn_r _ [11, 12, 13, 14] (by decide +kernel) (by decide +kernel)
set_option maxRecDepth 20000 in
theorem gX1_changeLows_J13_bitCount_95d88 : GoodIn wsX1_changeLows (va_wsS RX1 56 yJ13_bitCount_95d88 wsJ13_bitCount_95d88) := goodIn_app (goodIn_of _ (by decide +kernel)) ggX1_changeLows_J13_bitCount_95d88
theorem dX1_changeLows_0 : decode cX1_changeLows 0 = .ok (.iconst 0, 1) := by decide +kernel
theorem dX1_changeLows_1 : decode cX1_changeLows 1 = .ok (.istore 4, 2) := by decide +kernel
theorem dX1_changeLows_3 : decode cX1_changeLows 3 = .ok (.iload_n 1, 1) := by decide +kernel
theorem dX1_changeLows_4 : decode cX1_changeLows 4 = .ok (.bipush 6, 2) := by decide +kernel
theorem dX1_changeLows_6 : decode cX1_changeLows 6 = .ok (.ishr, 1) := by decide +kernel
theorem dX1_changeLows_7 : decode cX1_changeLows 7 = .ok (.istore 5, 2) := by decide +kernel
theorem dX1_changeLows_9 : decode cX1_changeLows 9 = .ok (.iload_n 2, 1) := by decide +kernel
theorem dX1_changeLows_10 : decode cX1_changeLows 10 = .ok (.bipush 6, 2) := by decide +kernel
theorem dX1_changeLows_12 : decode cX1_changeLows 12 = .ok (.ishr, 1) := by decide +kernel
theorem dX1_changeLows_13 : decode cX1_changeLows 13 = .ok (.istore 6, 2) := by decide +kernel
theorem dX1_changeLows_15 : decode cX1_changeLows 15 = .ok (.iload 5, 2) := by decide +kernel
theorem dX1_changeLows_17 : decode cX1_changeLows 17 = .ok (.istore 7, 2) := by decide +kernel
theorem dX1_changeLows_19 : decode cX1_changeLows 19 = .ok (.iload 7, 2) := by decide +kernel
theorem dX1_changeLows_21 : decode cX1_changeLows 21 = .ok (.iload 6, 2) := by decide +kernel
theorem dX1_changeLows_23 : decode cX1_changeLows 23 = .ok (.if_icmp .gt 137, 3) := by decide +kernel
theorem dX1_changeLows_26 : decode cX1_changeLows 26 = .ok (.iload 7, 2) := by decide +kernel
theorem dX1_changeLows_28 : decode cX1_changeLows 28 = .ok (.iload 5, 2) := by decide +kernel
theorem dX1_changeLows_30 : decode cX1_changeLows 30 = .ok (.if_icmp .ne 11, 3) := by decide +kernel
theorem dX1_changeLows_33 : decode cX1_changeLows 33 = .ok (.ldc2_w 50, 3) := by decide +kernel
theorem dX1_changeLows_36 : decode cX1_changeLows 36 = .ok (.iload_n 1, 1) := by decide +kernel
theorem dX1_changeLows_37 : decode cX1_changeLows 37 = .ok (.lshl, 1) := by decide +kernel
theorem dX1_changeLows_38 : decode cX1_changeLows 38 = .ok (.goto 6, 3) := by decide +kernel
theorem dX1_changeLows_41 : decode cX1_changeLows 41 = .ok (.ldc2_w 50, 3) := by decide +kernel
theorem dX1_changeLows_44 : decode cX1_changeLows 44 = .ok (.lstore 8, 2) := by decide +kernel
theorem dX1_changeLows_46 : decode cX1_changeLows 46 = .ok (.iload 7, 2) := by decide +kernel
theorem dX1_changeLows_48 : decode cX1_changeLows 48 = .ok (.iload 6, 2) := by decide +kernel
theorem dX1_changeLows_50 : decode cX1_changeLows 50 = .ok (.if_icmp .ne 12, 3) := by decide +kernel
theorem dX1_changeLows_53 : decode cX1_changeLows 53 = .ok (.lload 8, 2) := by decide +kernel
theorem dX1_changeLows_55 : decode cX1_changeLows 55 = .ok (.iload_n 2, 1) := by decide +kernel
theorem dX1_changeLows_56 : decode cX1_changeLows 56 = .ok (.invokestatic 52, 3) := by decide +kernel
theorem dX1_changeLows_59 : decode cX1_changeLows 59 = .ok (.land, 1) := by decide +kernel
theorem dX1_changeLows_60 : decode cX1_changeLows 60 = .ok (.lstore 8, 2) := by decide +kernel
theorem dX1_changeLows_62 : decode cX1_changeLows 62 = .ok (.aload_n 0, 1) := by decide +kernel
theorem dX1_changeLows_63 : decode cX1_changeLows 63 = .ok (.getfield 13, 3) := by decide +kernel
theorem dX1_changeLows_66 : decode cX1_changeLows 66 = .ok (.iload 7, 2) := by decide +kernel
theorem dX1_changeLows_68 : decode cX1_changeLows 68 = .ok (.laload, 1) := by decide +kernel
theorem dX1_changeLows_69 : decode cX1_changeLows 69 = .ok (.lstore 10, 2) := by decide +kernel
theorem dX1_changeLows_71 : decode cX1_changeLows 71 = .ok (.iload_n 3, 1) := by decide +kernel
theorem dX1_changeLows_72 : decode cX1_changeLows 72 = .ok (.ifCond .ne 11, 3) := by decide +kernel
theorem dX1_changeLows_75 : decode cX1_changeLows 75 = .ok (.lload 10, 2) := by decide +kernel
theorem dX1_changeLows_77 : decode cX1_changeLows 77 = .ok (.lload 8, 2) := by decide +kernel
theorem dX1_changeLows_79 : decode cX1_changeLows 79 = .ok (.lor, 1) := by decide +kernel
theorem dX1_changeLows_80 : decode cX1_changeLows 80 = .ok (.goto 25, 3) := by decide +kernel
theorem dX1_changeLows_83 : decode cX1_changeLows 83 = .ok (.iload_n 3, 1) := by decide +kernel
theorem dX1_changeLows_84 : decode cX1_changeLows 84 = .ok (.iconst 1, 1) := by decide +kernel
theorem dX1_changeLows_85 : decode cX1_changeLows 85 = .ok (.if_icmp .ne 15, 3) := by decide +kernel
theorem dX1_changeLows_88 : decode cX1_changeLows 88 = .ok (.lload 10, 2) := by decide +kernel
theorem dX1_changeLows_90 : decode cX1_changeLows 90 = .ok (.lload 8, 2) := by decide +kernel
theorem dX1_changeLows_92 : decode cX1_changeLows 92 = .ok (.ldc2_w 50, 3) := by decide +kernel
theorem dX1_changeLows_95 : decode cX1_changeLows 95 = .ok (.lxor, 1) := by decide +kernel
theorem dX1_changeLows_96 : decode cX1_changeLows 96 = .ok (.land, 1) := by decide +kernel
theorem dX1_changeLows_97 : decode cX1_changeLows 97 = .ok (.goto 8, 3) := by decide +kernel
theorem dX1_changeLows_100 : decode cX1_changeLows 100 = .ok (.lload 10, 2) := by decide +kernel
theorem dX1_changeLows_102 : decode cX1_changeLows 102 = .ok (.lload 8, 2) := by decide +kernel
theorem dX1_changeLows_104 : decode cX1_changeLows 104 = .ok (.lxor, 1) := by decide +kernel
theorem dX1_changeLows_105 : decode cX1_changeLows 105 = .ok (.lstore 12, 2) := by decide +kernel
theorem dX1_changeLows_107 : decode cX1_changeLows 107 = .ok (.aload_n 0, 1) := by decide +kernel
theorem dX1_changeLows_108 : decode cX1_changeLows 108 = .ok (.getfield 13, 3) := by decide +kernel
theorem dX1_changeLows_111 : decode cX1_changeLows 111 = .ok (.iload 7, 2) := by decide +kernel
theorem dX1_changeLows_113 : decode cX1_changeLows 113 = .ok (.lload 12, 2) := by decide +kernel
theorem dX1_changeLows_115 : decode cX1_changeLows 115 = .ok (.lastore, 1) := by decide +kernel
theorem dX1_changeLows_116 : decode cX1_changeLows 116 = .ok (.aload_n 0, 1) := by decide +kernel
theorem dX1_changeLows_117 : decode cX1_changeLows 117 = .ok (.dup, 1) := by decide +kernel
theorem dX1_changeLows_118 : decode cX1_changeLows 118 = .ok (.getfield 34, 3) := by decide +kernel
theorem dX1_changeLows_121 : decode cX1_changeLows 121 = .ok (.lload 12, 2) := by decide +kernel
theorem dX1_changeLows_123 : decode cX1_changeLows 123 = .ok (.invokestatic 56, 3) := by decide +kernel
theorem dX1_changeLows_126 : decode cX1_changeLows 126 = .ok (.lload 10, 2) := by decide +kernel
theorem dX1_changeLows_128 : decode cX1_changeLows 128 = .ok (.invokestatic 56, 3) := by decide +kernel
theorem dX1_changeLows_131 : decode cX1_changeLows 131 = .ok (.isub, 1) := by decide +kernel
theorem dX1_changeLows_132 : decode cX1_changeLows 132 = .ok (.iadd, 1) := by decide +kernel
theorem dX1_changeLows_133 : decode cX1_changeLows 133 = .ok (.putfield 34, 3) := by decide +kernel
theorem dX1_changeLows_136 : decode cX1_changeLows 136 = .ok (.iload 4, 2) := by decide +kernel
theorem dX1_changeLows_138 : decode cX1_changeLows 138 = .ok (.lload 12, 2) := by decide +kernel
theorem dX1_changeLows_140 : decode cX1_changeLows 140 = .ok (.lload 10, 2) := by decide +kernel
theorem dX1_changeLows_142 : decode cX1_changeLows 142 = .ok (.lcmp, 1) := by decide +kernel
theorem dX1_changeLows_143 : decode cX1_changeLows 143 = .ok (.ifCond .eq 7, 3) := by decide +kernel
theorem dX1_changeLows_146 : decode cX1_changeLows 146 = .ok (.iconst 1, 1) := by decide +kernel
theorem dX1_changeLows_147 : decode cX1_changeLows 147 = .ok (.goto 4, 3) := by decide +kernel
theorem dX1_changeLows_150 : decode cX1_changeLows 150 = .ok (.iconst 0, 1) := by decide +kernel
theorem dX1_changeLows_151 : decode cX1_changeLows 151 = .ok (.ior, 1) := by decide +kernel
theorem dX1_changeLows_152 : decode cX1_changeLows 152 = .ok (.istore 4, 2) := by decide +kernel
theorem dX1_changeLows_154 : decode cX1_changeLows 154 = .ok (.iinc 7 1, 3) := by decide +kernel
theorem dX1_changeLows_157 : decode cX1_changeLows 157 = .ok (.goto (-138), 3) := by decide +kernel
theorem dX1_changeLows_160 : decode cX1_changeLows 160 = .ok (.iload 4, 2) := by decide +kernel
theorem dX1_changeLows_162 : decode cX1_changeLows 162 = .ok (.ireturn, 1) := by decide +kernel
set_option maxRecDepth 20000 in
theorem ggX1_putLowsBySteps_X1_holds : GoodIn wsX1_putLowsBySteps wsX1_holds := goodIn_r _ [8, 3, 9, 10, 11, 12] (by decide +kernel) (by decide +kernel)
set_option maxRecDepth 20000 in
theorem gX1_putLowsBySteps_X1_holds : GoodIn wsX1_putLowsBySteps (wsV RX1 63 RX1 yX1_holds wsX1_holds) := goodIn_app (goodIn_of _ (by decide +kernel)) ggX1_putLowsBySteps_X1_holds
theorem dX1_putLowsBySteps_0 : decode cX1_putLowsBySteps 0 = .ok (.iload_n 2, 1) := by decide +kernel
theorem dX1_putLowsBySteps_1 : decode cX1_putLowsBySteps 1 = .ok (.iconst 1, 1) := by decide +kernel
theorem dX1_putLowsBySteps_2 : decode cX1_putLowsBySteps 2 = .ok (.if_icmp .ge 5, 3) := by decide +kernel
theorem dX1_putLowsBySteps_5 : decode cX1_putLowsBySteps 5 = .ok (.iconst 0, 1) := by decide +kernel
theorem dX1_putLowsBySteps_6 : decode cX1_putLowsBySteps 6 = .ok (.ireturn, 1) := by decide +kernel
theorem dX1_putLowsBySteps_7 : decode cX1_putLowsBySteps 7 = .ok (.aload_n 0, 1) := by decide +kernel
theorem dX1_putLowsBySteps_8 : decode cX1_putLowsBySteps 8 = .ok (.getfield 34, 3) := by decide +kernel
theorem dX1_putLowsBySteps_11 : decode cX1_putLowsBySteps 11 = .ok (.istore_n 3, 1) := by decide +kernel
theorem dX1_putLowsBySteps_12 : decode cX1_putLowsBySteps 12 = .ok (.iload_n 1, 1) := by decide +kernel
theorem dX1_putLowsBySteps_13 : decode cX1_putLowsBySteps 13 = .ok (.istore 4, 2) := by decide +kernel
theorem dX1_putLowsBySteps_15 : decode cX1_putLowsBySteps 15 = .ok (.iload 4, 2) := by decide +kernel
theorem dX1_putLowsBySteps_17 : decode cX1_putLowsBySteps 17 = .ok (.ldc 62, 2) := by decide +kernel
theorem dX1_putLowsBySteps_19 : decode cX1_putLowsBySteps 19 = .ok (.if_icmp .gt 48, 3) := by decide +kernel
theorem dX1_putLowsBySteps_22 : decode cX1_putLowsBySteps 22 = .ok (.aload_n 0, 1) := by decide +kernel
theorem dX1_putLowsBySteps_23 : decode cX1_putLowsBySteps 23 = .ok (.iload 4, 2) := by decide +kernel
theorem dX1_putLowsBySteps_25 : decode cX1_putLowsBySteps 25 = .ok (.invokevirtual 63, 3) := by decide +kernel
theorem dX1_putLowsBySteps_28 : decode cX1_putLowsBySteps 28 = .ok (.ifCond .ne 30, 3) := by decide +kernel
theorem dX1_putLowsBySteps_31 : decode cX1_putLowsBySteps 31 = .ok (.aload_n 0, 1) := by decide +kernel
theorem dX1_putLowsBySteps_32 : decode cX1_putLowsBySteps 32 = .ok (.getfield 13, 3) := by decide +kernel
theorem dX1_putLowsBySteps_35 : decode cX1_putLowsBySteps 35 = .ok (.iload 4, 2) := by decide +kernel
theorem dX1_putLowsBySteps_37 : decode cX1_putLowsBySteps 37 = .ok (.bipush 6, 2) := by decide +kernel
theorem dX1_putLowsBySteps_39 : decode cX1_putLowsBySteps 39 = .ok (.ishr, 1) := by decide +kernel
theorem dX1_putLowsBySteps_40 : decode cX1_putLowsBySteps 40 = .ok (.dup2, 1) := by decide +kernel
theorem dX1_putLowsBySteps_41 : decode cX1_putLowsBySteps 41 = .ok (.laload, 1) := by decide +kernel
theorem dX1_putLowsBySteps_42 : decode cX1_putLowsBySteps 42 = .ok (.lconst 1, 1) := by decide +kernel
theorem dX1_putLowsBySteps_43 : decode cX1_putLowsBySteps 43 = .ok (.iload 4, 2) := by decide +kernel
theorem dX1_putLowsBySteps_45 : decode cX1_putLowsBySteps 45 = .ok (.lshl, 1) := by decide +kernel
theorem dX1_putLowsBySteps_46 : decode cX1_putLowsBySteps 46 = .ok (.lor, 1) := by decide +kernel
theorem dX1_putLowsBySteps_47 : decode cX1_putLowsBySteps 47 = .ok (.lastore, 1) := by decide +kernel
theorem dX1_putLowsBySteps_48 : decode cX1_putLowsBySteps 48 = .ok (.aload_n 0, 1) := by decide +kernel
theorem dX1_putLowsBySteps_49 : decode cX1_putLowsBySteps 49 = .ok (.dup, 1) := by decide +kernel
theorem dX1_putLowsBySteps_50 : decode cX1_putLowsBySteps 50 = .ok (.getfield 34, 3) := by decide +kernel
theorem dX1_putLowsBySteps_53 : decode cX1_putLowsBySteps 53 = .ok (.iconst 1, 1) := by decide +kernel
theorem dX1_putLowsBySteps_54 : decode cX1_putLowsBySteps 54 = .ok (.iadd, 1) := by decide +kernel
theorem dX1_putLowsBySteps_55 : decode cX1_putLowsBySteps 55 = .ok (.putfield 34, 3) := by decide +kernel
theorem dX1_putLowsBySteps_58 : decode cX1_putLowsBySteps 58 = .ok (.iload 4, 2) := by decide +kernel
theorem dX1_putLowsBySteps_60 : decode cX1_putLowsBySteps 60 = .ok (.iload_n 2, 1) := by decide +kernel
theorem dX1_putLowsBySteps_61 : decode cX1_putLowsBySteps 61 = .ok (.iadd, 1) := by decide +kernel
theorem dX1_putLowsBySteps_62 : decode cX1_putLowsBySteps 62 = .ok (.istore 4, 2) := by decide +kernel
theorem dX1_putLowsBySteps_64 : decode cX1_putLowsBySteps 64 = .ok (.goto (-49), 3) := by decide +kernel
theorem dX1_putLowsBySteps_67 : decode cX1_putLowsBySteps 67 = .ok (.aload_n 0, 1) := by decide +kernel
theorem dX1_putLowsBySteps_68 : decode cX1_putLowsBySteps 68 = .ok (.getfield 34, 3) := by decide +kernel
theorem dX1_putLowsBySteps_71 : decode cX1_putLowsBySteps 71 = .ok (.iload_n 3, 1) := by decide +kernel
theorem dX1_putLowsBySteps_72 : decode cX1_putLowsBySteps 72 = .ok (.if_icmp .eq 7, 3) := by decide +kernel
theorem dX1_putLowsBySteps_75 : decode cX1_putLowsBySteps 75 = .ok (.iconst 1, 1) := by decide +kernel
theorem dX1_putLowsBySteps_76 : decode cX1_putLowsBySteps 76 = .ok (.goto 4, 3) := by decide +kernel
theorem dX1_putLowsBySteps_79 : decode cX1_putLowsBySteps 79 = .ok (.iconst 0, 1) := by decide +kernel
theorem dX1_putLowsBySteps_80 : decode cX1_putLowsBySteps 80 = .ok (.ireturn, 1) := by decide +kernel
set_option maxRecDepth 20000 in
theorem ggX1_becomeMix_X1_makeRoom : GoodIn wsX1_becomeMix wsX1_makeRoom := goodIn_r _ [9, 3, 10, 34, 35, 36, 37] (by decide +kernel) (by decide +kernel)
set_option maxRecDepth 20000 in
theorem gX1_becomeMix_X1_makeRoom : GoodIn wsX1_becomeMix (wsV RX1 18 RX1 yX1_makeRoom wsX1_makeRoom) := goodIn_app (goodIn_of _ (by decide +kernel)) ggX1_becomeMix_X1_makeRoom
set_option maxRecDepth 20000 in
theorem ggX1_becomeMix_X1_mix : GoodIn wsX1_becomeMix wsX1_mix := goodIn_r _ [13, 14] (by decide +kernel) (by decide +kernel)
set_option maxRecDepth 20000 in
theorem gX1_becomeMix_X1_mix : GoodIn wsX1_becomeMix (va_wsS RX1 67 yX1_mix wsX1_mix) := goodIn_app (goodIn_of _ (by decide +kernel)) ggX1_becomeMix_X1_mix
set_option maxRecDepth 20000 in
theorem ggX1_becomeMix_J13_bitCount_95d88 : GoodIn wsX1_becomeMix wsJ13_bitCount_95d88 := goodIn_r _ [18, 19, 20, 21] (by decide +kernel) (by decide +kernel)
set_option maxRecDepth 20000 in
theorem gX1_becomeMix_J13_bitCount_95d88 : GoodIn wsX1_becomeMix (va_wsS RX1 56 yJ13_bitCount_95d88 wsJ13_bitCount_95d88) := goodIn_app (goodIn_of _ (by decide +kernel)) ggX1_becomeMix_J13_bitCount_95d88
set_option maxRecDepth 20000 in
theorem ggX1_becomeMix_X1_hasLowsOf : GoodIn wsX1_becomeMix wsX1_hasLowsOf := goodIn_r _ [25, 2, 26, 27, 28, 8, 29, 3, 14, 34, 35, 36, 37] (by decide +kernel) (by decide +kernel)
set_option maxRecDepth 20000 in
theorem gX1_becomeMix_X1_hasLowsOf : GoodIn wsX1_becomeMix (wsV RX1 71 RX1 yX1_hasLowsOf wsX1_hasLowsOf) := goodIn_app (goodIn_of _ (by decide +kernel)) ggX1_becomeMix_X1_hasLowsOf
set_option maxRecDepth 20000 in
theorem ggX1_becomeMix_X1_setPlainKind : GoodIn wsX1_becomeMix wsX1_setPlainKind := goodIn_r _ [33, 2, 4, 34, 35, 36, 37] (by decide +kernel) (by decide +kernel)
set_option maxRecDepth 20000 in
theorem gX1_becomeMix_X1_setPlainKind : GoodIn wsX1_becomeMix (wsV RX1 47 RX1 yX1_setPlainKind wsX1_setPlainKind) := goodIn_app (goodIn_of _ (by decide +kernel)) ggX1_becomeMix_X1_setPlainKind
theorem dX1_becomeMix_0 : decode cX1_becomeMix 0 = .ok (.aload_n 0, 1) := by decide +kernel
theorem dX1_becomeMix_1 : decode cX1_becomeMix 1 = .ok (.invokevirtual 18, 3) := by decide +kernel
theorem dX1_becomeMix_4 : decode cX1_becomeMix 4 = .ok (.aload_n 0, 1) := by decide +kernel
theorem dX1_becomeMix_5 : decode cX1_becomeMix 5 = .ok (.aload_n 2, 1) := by decide +kernel
theorem dX1_becomeMix_6 : decode cX1_becomeMix 6 = .ok (.getfield 27, 3) := by decide +kernel
theorem dX1_becomeMix_9 : decode cX1_becomeMix 9 = .ok (.putfield 27, 3) := by decide +kernel
theorem dX1_becomeMix_12 : decode cX1_becomeMix 12 = .ok (.aload_n 0, 1) := by decide +kernel
theorem dX1_becomeMix_13 : decode cX1_becomeMix 13 = .ok (.iconst 0, 1) := by decide +kernel
theorem dX1_becomeMix_14 : decode cX1_becomeMix 14 = .ok (.putfield 34, 3) := by decide +kernel
theorem dX1_becomeMix_17 : decode cX1_becomeMix 17 = .ok (.iconst 0, 1) := by decide +kernel
theorem dX1_becomeMix_18 : decode cX1_becomeMix 18 = .ok (.istore 4, 2) := by decide +kernel
theorem dX1_becomeMix_20 : decode cX1_becomeMix 20 = .ok (.iload 4, 2) := by decide +kernel
theorem dX1_becomeMix_22 : decode cX1_becomeMix 22 = .ok (.sipush 1024, 3) := by decide +kernel
theorem dX1_becomeMix_25 : decode cX1_becomeMix 25 = .ok (.if_icmp .ge 52, 3) := by decide +kernel
theorem dX1_becomeMix_28 : decode cX1_becomeMix 28 = .ok (.iload_n 1, 1) := by decide +kernel
theorem dX1_becomeMix_29 : decode cX1_becomeMix 29 = .ok (.aload_n 2, 1) := by decide +kernel
theorem dX1_becomeMix_30 : decode cX1_becomeMix 30 = .ok (.getfield 13, 3) := by decide +kernel
theorem dX1_becomeMix_33 : decode cX1_becomeMix 33 = .ok (.iload 4, 2) := by decide +kernel
theorem dX1_becomeMix_35 : decode cX1_becomeMix 35 = .ok (.laload, 1) := by decide +kernel
theorem dX1_becomeMix_36 : decode cX1_becomeMix 36 = .ok (.aload_n 3, 1) := by decide +kernel
theorem dX1_becomeMix_37 : decode cX1_becomeMix 37 = .ok (.getfield 13, 3) := by decide +kernel
theorem dX1_becomeMix_40 : decode cX1_becomeMix 40 = .ok (.iload 4, 2) := by decide +kernel
theorem dX1_becomeMix_42 : decode cX1_becomeMix 42 = .ok (.laload, 1) := by decide +kernel
theorem dX1_becomeMix_43 : decode cX1_becomeMix 43 = .ok (.invokestatic 67, 3) := by decide +kernel
theorem dX1_becomeMix_46 : decode cX1_becomeMix 46 = .ok (.lstore 5, 2) := by decide +kernel
theorem dX1_becomeMix_48 : decode cX1_becomeMix 48 = .ok (.aload_n 0, 1) := by decide +kernel
theorem dX1_becomeMix_49 : decode cX1_becomeMix 49 = .ok (.getfield 13, 3) := by decide +kernel
theorem dX1_becomeMix_52 : decode cX1_becomeMix 52 = .ok (.iload 4, 2) := by decide +kernel
theorem dX1_becomeMix_54 : decode cX1_becomeMix 54 = .ok (.lload 5, 2) := by decide +kernel
theorem dX1_becomeMix_56 : decode cX1_becomeMix 56 = .ok (.lastore, 1) := by decide +kernel
theorem dX1_becomeMix_57 : decode cX1_becomeMix 57 = .ok (.aload_n 0, 1) := by decide +kernel
theorem dX1_becomeMix_58 : decode cX1_becomeMix 58 = .ok (.dup, 1) := by decide +kernel
theorem dX1_becomeMix_59 : decode cX1_becomeMix 59 = .ok (.getfield 34, 3) := by decide +kernel
theorem dX1_becomeMix_62 : decode cX1_becomeMix 62 = .ok (.lload 5, 2) := by decide +kernel
theorem dX1_becomeMix_64 : decode cX1_becomeMix 64 = .ok (.invokestatic 56, 3) := by decide +kernel
theorem dX1_becomeMix_67 : decode cX1_becomeMix 67 = .ok (.iadd, 1) := by decide +kernel
theorem dX1_becomeMix_68 : decode cX1_becomeMix 68 = .ok (.putfield 34, 3) := by decide +kernel
theorem dX1_becomeMix_71 : decode cX1_becomeMix 71 = .ok (.iinc 4 1, 3) := by decide +kernel
theorem dX1_becomeMix_74 : decode cX1_becomeMix 74 = .ok (.goto (-54), 3) := by decide +kernel
theorem dX1_becomeMix_77 : decode cX1_becomeMix 77 = .ok (.aload_n 0, 1) := by decide +kernel
theorem dX1_becomeMix_78 : decode cX1_becomeMix 78 = .ok (.aload_n 2, 1) := by decide +kernel
theorem dX1_becomeMix_79 : decode cX1_becomeMix 79 = .ok (.invokevirtual 71, 3) := by decide +kernel
theorem dX1_becomeMix_82 : decode cX1_becomeMix 82 = .ok (.ifCond .eq 14, 3) := by decide +kernel
theorem dX1_becomeMix_85 : decode cX1_becomeMix 85 = .ok (.aload_n 0, 1) := by decide +kernel
theorem dX1_becomeMix_86 : decode cX1_becomeMix 86 = .ok (.aload_n 2, 1) := by decide +kernel
theorem dX1_becomeMix_87 : decode cX1_becomeMix 87 = .ok (.getfield 31, 3) := by decide +kernel
theorem dX1_becomeMix_90 : decode cX1_becomeMix 90 = .ok (.putfield 31, 3) := by decide +kernel
theorem dX1_becomeMix_93 : decode cX1_becomeMix 93 = .ok (.goto 26, 3) := by decide +kernel
theorem dX1_becomeMix_96 : decode cX1_becomeMix 96 = .ok (.aload_n 0, 1) := by decide +kernel
theorem dX1_becomeMix_97 : decode cX1_becomeMix 97 = .ok (.aload_n 3, 1) := by decide +kernel
theorem dX1_becomeMix_98 : decode cX1_becomeMix 98 = .ok (.invokevirtual 71, 3) := by decide +kernel
theorem dX1_becomeMix_101 : decode cX1_becomeMix 101 = .ok (.ifCond .eq 14, 3) := by decide +kernel
theorem dX1_becomeMix_104 : decode cX1_becomeMix 104 = .ok (.aload_n 0, 1) := by decide +kernel
theorem dX1_becomeMix_105 : decode cX1_becomeMix 105 = .ok (.aload_n 3, 1) := by decide +kernel
theorem dX1_becomeMix_106 : decode cX1_becomeMix 106 = .ok (.getfield 31, 3) := by decide +kernel
theorem dX1_becomeMix_109 : decode cX1_becomeMix 109 = .ok (.putfield 31, 3) := by decide +kernel
theorem dX1_becomeMix_112 : decode cX1_becomeMix 112 = .ok (.goto 7, 3) := by decide +kernel
theorem dX1_becomeMix_115 : decode cX1_becomeMix 115 = .ok (.aload_n 0, 1) := by decide +kernel
theorem dX1_becomeMix_116 : decode cX1_becomeMix 116 = .ok (.invokevirtual 47, 3) := by decide +kernel
theorem dX1_becomeMix_119 : decode cX1_becomeMix 119 = .ok (.return_, 1) := by decide +kernel
set_option maxRecDepth 20000 in
theorem ggX1_hasLowsOf_X1_hasNoLowBut : GoodIn wsX1_hasLowsOf wsX1_hasNoLowBut := goodIn_r _ [6, 7, 8, 9, 10, 11, 12] (by decide +kernel) (by decide +kernel)
set_option maxRecDepth 20000 in
theorem gX1_hasLowsOf_X1_hasNoLowBut : GoodIn wsX1_hasLowsOf (wsV RX1 75 RX1 yX1_hasNoLowBut wsX1_hasNoLowBut) := goodIn_app (goodIn_of _ (by decide +kernel)) ggX1_hasLowsOf_X1_hasNoLowBut
theorem dX1_hasLowsOf_0 : decode cX1_hasLowsOf 0 = .ok (.aload_n 0, 1) := by decide +kernel
theorem dX1_hasLowsOf_1 : decode cX1_hasLowsOf 1 = .ok (.getfield 34, 3) := by decide +kernel
theorem dX1_hasLowsOf_4 : decode cX1_hasLowsOf 4 = .ok (.aload_n 1, 1) := by decide +kernel
theorem dX1_hasLowsOf_5 : decode cX1_hasLowsOf 5 = .ok (.getfield 34, 3) := by decide +kernel
theorem dX1_hasLowsOf_8 : decode cX1_hasLowsOf 8 = .ok (.if_icmp .ne 15, 3) := by decide +kernel
theorem dX1_hasLowsOf_11 : decode cX1_hasLowsOf 11 = .ok (.aload_n 0, 1) := by decide +kernel
theorem dX1_hasLowsOf_12 : decode cX1_hasLowsOf 12 = .ok (.aload_n 1, 1) := by decide +kernel
theorem dX1_hasLowsOf_13 : decode cX1_hasLowsOf 13 = .ok (.invokevirtual 75, 3) := by decide +kernel
theorem dX1_hasLowsOf_16 : decode cX1_hasLowsOf 16 = .ok (.ifCond .eq 7, 3) := by decide +kernel
theorem dX1_hasLowsOf_19 : decode cX1_hasLowsOf 19 = .ok (.iconst 1, 1) := by decide +kernel
theorem dX1_hasLowsOf_20 : decode cX1_hasLowsOf 20 = .ok (.goto 4, 3) := by decide +kernel
theorem dX1_hasLowsOf_23 : decode cX1_hasLowsOf 23 = .ok (.iconst 0, 1) := by decide +kernel
theorem dX1_hasLowsOf_24 : decode cX1_hasLowsOf 24 = .ok (.ireturn, 1) := by decide +kernel
theorem dX1_hasNoLowBut_0 : decode cX1_hasNoLowBut 0 = .ok (.iconst 0, 1) := by decide +kernel
theorem dX1_hasNoLowBut_1 : decode cX1_hasNoLowBut 1 = .ok (.istore_n 2, 1) := by decide +kernel
theorem dX1_hasNoLowBut_2 : decode cX1_hasNoLowBut 2 = .ok (.iload_n 2, 1) := by decide +kernel
theorem dX1_hasNoLowBut_3 : decode cX1_hasNoLowBut 3 = .ok (.sipush 1024, 3) := by decide +kernel
theorem dX1_hasNoLowBut_6 : decode cX1_hasNoLowBut 6 = .ok (.if_icmp .ge 33, 3) := by decide +kernel
theorem dX1_hasNoLowBut_9 : decode cX1_hasNoLowBut 9 = .ok (.aload_n 0, 1) := by decide +kernel
theorem dX1_hasNoLowBut_10 : decode cX1_hasNoLowBut 10 = .ok (.getfield 13, 3) := by decide +kernel
theorem dX1_hasNoLowBut_13 : decode cX1_hasNoLowBut 13 = .ok (.iload_n 2, 1) := by decide +kernel
theorem dX1_hasNoLowBut_14 : decode cX1_hasNoLowBut 14 = .ok (.laload, 1) := by decide +kernel
theorem dX1_hasNoLowBut_15 : decode cX1_hasNoLowBut 15 = .ok (.aload_n 1, 1) := by decide +kernel
theorem dX1_hasNoLowBut_16 : decode cX1_hasNoLowBut 16 = .ok (.getfield 13, 3) := by decide +kernel
theorem dX1_hasNoLowBut_19 : decode cX1_hasNoLowBut 19 = .ok (.iload_n 2, 1) := by decide +kernel
theorem dX1_hasNoLowBut_20 : decode cX1_hasNoLowBut 20 = .ok (.laload, 1) := by decide +kernel
theorem dX1_hasNoLowBut_21 : decode cX1_hasNoLowBut 21 = .ok (.ldc2_w 50, 3) := by decide +kernel
theorem dX1_hasNoLowBut_24 : decode cX1_hasNoLowBut 24 = .ok (.lxor, 1) := by decide +kernel
theorem dX1_hasNoLowBut_25 : decode cX1_hasNoLowBut 25 = .ok (.land, 1) := by decide +kernel
theorem dX1_hasNoLowBut_26 : decode cX1_hasNoLowBut 26 = .ok (.lconst 0, 1) := by decide +kernel
theorem dX1_hasNoLowBut_27 : decode cX1_hasNoLowBut 27 = .ok (.lcmp, 1) := by decide +kernel
theorem dX1_hasNoLowBut_28 : decode cX1_hasNoLowBut 28 = .ok (.ifCond .eq 5, 3) := by decide +kernel
theorem dX1_hasNoLowBut_31 : decode cX1_hasNoLowBut 31 = .ok (.iconst 0, 1) := by decide +kernel
theorem dX1_hasNoLowBut_32 : decode cX1_hasNoLowBut 32 = .ok (.ireturn, 1) := by decide +kernel
theorem dX1_hasNoLowBut_33 : decode cX1_hasNoLowBut 33 = .ok (.iinc 2 1, 3) := by decide +kernel
theorem dX1_hasNoLowBut_36 : decode cX1_hasNoLowBut 36 = .ok (.goto (-34), 3) := by decide +kernel
theorem dX1_hasNoLowBut_39 : decode cX1_hasNoLowBut 39 = .ok (.iconst 1, 1) := by decide +kernel
theorem dX1_hasNoLowBut_40 : decode cX1_hasNoLowBut 40 = .ok (.ireturn, 1) := by decide +kernel
theorem dX1_hasLowIn_0 : decode cX1_hasLowIn 0 = .ok (.iconst 0, 1) := by decide +kernel
theorem dX1_hasLowIn_1 : decode cX1_hasLowIn 1 = .ok (.istore_n 2, 1) := by decide +kernel
theorem dX1_hasLowIn_2 : decode cX1_hasLowIn 2 = .ok (.iload_n 2, 1) := by decide +kernel
theorem dX1_hasLowIn_3 : decode cX1_hasLowIn 3 = .ok (.sipush 1024, 3) := by decide +kernel
theorem dX1_hasLowIn_6 : decode cX1_hasLowIn 6 = .ok (.if_icmp .ge 29, 3) := by decide +kernel
theorem dX1_hasLowIn_9 : decode cX1_hasLowIn 9 = .ok (.aload_n 0, 1) := by decide +kernel
theorem dX1_hasLowIn_10 : decode cX1_hasLowIn 10 = .ok (.getfield 13, 3) := by decide +kernel
theorem dX1_hasLowIn_13 : decode cX1_hasLowIn 13 = .ok (.iload_n 2, 1) := by decide +kernel
theorem dX1_hasLowIn_14 : decode cX1_hasLowIn 14 = .ok (.laload, 1) := by decide +kernel
theorem dX1_hasLowIn_15 : decode cX1_hasLowIn 15 = .ok (.aload_n 1, 1) := by decide +kernel
theorem dX1_hasLowIn_16 : decode cX1_hasLowIn 16 = .ok (.getfield 13, 3) := by decide +kernel
theorem dX1_hasLowIn_19 : decode cX1_hasLowIn 19 = .ok (.iload_n 2, 1) := by decide +kernel
theorem dX1_hasLowIn_20 : decode cX1_hasLowIn 20 = .ok (.laload, 1) := by decide +kernel
theorem dX1_hasLowIn_21 : decode cX1_hasLowIn 21 = .ok (.land, 1) := by decide +kernel
theorem dX1_hasLowIn_22 : decode cX1_hasLowIn 22 = .ok (.lconst 0, 1) := by decide +kernel
theorem dX1_hasLowIn_23 : decode cX1_hasLowIn 23 = .ok (.lcmp, 1) := by decide +kernel
theorem dX1_hasLowIn_24 : decode cX1_hasLowIn 24 = .ok (.ifCond .eq 5, 3) := by decide +kernel
theorem dX1_hasLowIn_27 : decode cX1_hasLowIn 27 = .ok (.iconst 1, 1) := by decide +kernel
theorem dX1_hasLowIn_28 : decode cX1_hasLowIn 28 = .ok (.ireturn, 1) := by decide +kernel
theorem dX1_hasLowIn_29 : decode cX1_hasLowIn 29 = .ok (.iinc 2 1, 3) := by decide +kernel
theorem dX1_hasLowIn_32 : decode cX1_hasLowIn 32 = .ok (.goto (-30), 3) := by decide +kernel
theorem dX1_hasLowIn_35 : decode cX1_hasLowIn 35 = .ok (.iconst 0, 1) := by decide +kernel
theorem dX1_hasLowIn_36 : decode cX1_hasLowIn 36 = .ok (.ireturn, 1) := by decide +kernel
set_option maxRecDepth 20000 in
theorem ggX1_totalRuns_J13_bitCount_95d88 : GoodIn wsX1_totalRuns wsJ13_bitCount_95d88 := goodIn_r _ [6, 7, 8, 9] (by decide +kernel) (by decide +kernel)
set_option maxRecDepth 20000 in
theorem gX1_totalRuns_J13_bitCount_95d88 : GoodIn wsX1_totalRuns (va_wsS RX1 56 yJ13_bitCount_95d88 wsJ13_bitCount_95d88) := goodIn_app (goodIn_of _ (by decide +kernel)) ggX1_totalRuns_J13_bitCount_95d88
theorem dX1_totalRuns_0 : decode cX1_totalRuns 0 = .ok (.iconst 0, 1) := by decide +kernel
theorem dX1_totalRuns_1 : decode cX1_totalRuns 1 = .ok (.istore_n 1, 1) := by decide +kernel
theorem dX1_totalRuns_2 : decode cX1_totalRuns 2 = .ok (.lconst 0, 1) := by decide +kernel
theorem dX1_totalRuns_3 : decode cX1_totalRuns 3 = .ok (.lstore_n 2, 1) := by decide +kernel
theorem dX1_totalRuns_4 : decode cX1_totalRuns 4 = .ok (.iconst 0, 1) := by decide +kernel
theorem dX1_totalRuns_5 : decode cX1_totalRuns 5 = .ok (.istore 4, 2) := by decide +kernel
theorem dX1_totalRuns_7 : decode cX1_totalRuns 7 = .ok (.iload 4, 2) := by decide +kernel
theorem dX1_totalRuns_9 : decode cX1_totalRuns 9 = .ok (.sipush 1024, 3) := by decide +kernel
theorem dX1_totalRuns_12 : decode cX1_totalRuns 12 = .ok (.if_icmp .ge 43, 3) := by decide +kernel
theorem dX1_totalRuns_15 : decode cX1_totalRuns 15 = .ok (.aload_n 0, 1) := by decide +kernel
theorem dX1_totalRuns_16 : decode cX1_totalRuns 16 = .ok (.getfield 13, 3) := by decide +kernel
theorem dX1_totalRuns_19 : decode cX1_totalRuns 19 = .ok (.iload 4, 2) := by decide +kernel
theorem dX1_totalRuns_21 : decode cX1_totalRuns 21 = .ok (.laload, 1) := by decide +kernel
theorem dX1_totalRuns_22 : decode cX1_totalRuns 22 = .ok (.lstore 5, 2) := by decide +kernel
theorem dX1_totalRuns_24 : decode cX1_totalRuns 24 = .ok (.iload_n 1, 1) := by decide +kernel
theorem dX1_totalRuns_25 : decode cX1_totalRuns 25 = .ok (.lload 5, 2) := by decide +kernel
theorem dX1_totalRuns_27 : decode cX1_totalRuns 27 = .ok (.lload 5, 2) := by decide +kernel
theorem dX1_totalRuns_29 : decode cX1_totalRuns 29 = .ok (.iconst 1, 1) := by decide +kernel
theorem dX1_totalRuns_30 : decode cX1_totalRuns 30 = .ok (.lshl, 1) := by decide +kernel
theorem dX1_totalRuns_31 : decode cX1_totalRuns 31 = .ok (.lload_n 2, 1) := by decide +kernel
theorem dX1_totalRuns_32 : decode cX1_totalRuns 32 = .ok (.lor, 1) := by decide +kernel
theorem dX1_totalRuns_33 : decode cX1_totalRuns 33 = .ok (.ldc2_w 50, 3) := by decide +kernel
theorem dX1_totalRuns_36 : decode cX1_totalRuns 36 = .ok (.lxor, 1) := by decide +kernel
theorem dX1_totalRuns_37 : decode cX1_totalRuns 37 = .ok (.land, 1) := by decide +kernel
theorem dX1_totalRuns_38 : decode cX1_totalRuns 38 = .ok (.invokestatic 56, 3) := by decide +kernel
theorem dX1_totalRuns_41 : decode cX1_totalRuns 41 = .ok (.iadd, 1) := by decide +kernel
theorem dX1_totalRuns_42 : decode cX1_totalRuns 42 = .ok (.istore_n 1, 1) := by decide +kernel
theorem dX1_totalRuns_43 : decode cX1_totalRuns 43 = .ok (.lload 5, 2) := by decide +kernel
theorem dX1_totalRuns_45 : decode cX1_totalRuns 45 = .ok (.bipush 63, 2) := by decide +kernel
theorem dX1_totalRuns_47 : decode cX1_totalRuns 47 = .ok (.lushr, 1) := by decide +kernel
theorem dX1_totalRuns_48 : decode cX1_totalRuns 48 = .ok (.lstore_n 2, 1) := by decide +kernel
theorem dX1_totalRuns_49 : decode cX1_totalRuns 49 = .ok (.iinc 4 1, 3) := by decide +kernel
theorem dX1_totalRuns_52 : decode cX1_totalRuns 52 = .ok (.goto (-45), 3) := by decide +kernel
theorem dX1_totalRuns_55 : decode cX1_totalRuns 55 = .ok (.iload_n 1, 1) := by decide +kernel
theorem dX1_totalRuns_56 : decode cX1_totalRuns 56 = .ok (.ireturn, 1) := by decide +kernel
set_option maxRecDepth 20000 in
theorem ggX1_lowsUpTo_X1_upTo : GoodIn wsX1_lowsUpTo wsX1_upTo := goodIn_r _ [5, 6] (by decide +kernel) (by decide +kernel)
set_option maxRecDepth 20000 in
theorem gX1_lowsUpTo_X1_upTo : GoodIn wsX1_lowsUpTo (va_wsS RX1 52 yX1_upTo wsX1_upTo) := goodIn_app (goodIn_of _ (by decide +kernel)) ggX1_lowsUpTo_X1_upTo
set_option maxRecDepth 20000 in
theorem ggX1_lowsUpTo_J13_bitCount_95d88 : GoodIn wsX1_lowsUpTo wsJ13_bitCount_95d88 := goodIn_r _ [10, 11, 12, 13] (by decide +kernel) (by decide +kernel)
set_option maxRecDepth 20000 in
theorem gX1_lowsUpTo_J13_bitCount_95d88 : GoodIn wsX1_lowsUpTo (va_wsS RX1 56 yJ13_bitCount_95d88 wsJ13_bitCount_95d88) := goodIn_app (goodIn_of _ (by decide +kernel)) ggX1_lowsUpTo_J13_bitCount_95d88
theorem dX1_lowsUpTo_0 : decode cX1_lowsUpTo 0 = .ok (.iload_n 1, 1) := by decide +kernel
theorem dX1_lowsUpTo_1 : decode cX1_lowsUpTo 1 = .ok (.bipush 6, 2) := by decide +kernel
theorem dX1_lowsUpTo_3 : decode cX1_lowsUpTo 3 = .ok (.ishr, 1) := by decide +kernel
theorem dX1_lowsUpTo_4 : decode cX1_lowsUpTo 4 = .ok (.istore_n 2, 1) := by decide +kernel
theorem dX1_lowsUpTo_5 : decode cX1_lowsUpTo 5 = .ok (.aload_n 0, 1) := by decide +kernel
theorem dX1_lowsUpTo_6 : decode cX1_lowsUpTo 6 = .ok (.getfield 13, 3) := by decide +kernel
theorem dX1_lowsUpTo_9 : decode cX1_lowsUpTo 9 = .ok (.iload_n 2, 1) := by decide +kernel
theorem dX1_lowsUpTo_10 : decode cX1_lowsUpTo 10 = .ok (.laload, 1) := by decide +kernel
theorem dX1_lowsUpTo_11 : decode cX1_lowsUpTo 11 = .ok (.iload_n 1, 1) := by decide +kernel
theorem dX1_lowsUpTo_12 : decode cX1_lowsUpTo 12 = .ok (.invokestatic 52, 3) := by decide +kernel
theorem dX1_lowsUpTo_15 : decode cX1_lowsUpTo 15 = .ok (.land, 1) := by decide +kernel
theorem dX1_lowsUpTo_16 : decode cX1_lowsUpTo 16 = .ok (.invokestatic 56, 3) := by decide +kernel
theorem dX1_lowsUpTo_19 : decode cX1_lowsUpTo 19 = .ok (.istore_n 3, 1) := by decide +kernel
theorem dX1_lowsUpTo_20 : decode cX1_lowsUpTo 20 = .ok (.iconst 0, 1) := by decide +kernel
theorem dX1_lowsUpTo_21 : decode cX1_lowsUpTo 21 = .ok (.istore 4, 2) := by decide +kernel
theorem dX1_lowsUpTo_23 : decode cX1_lowsUpTo 23 = .ok (.iload 4, 2) := by decide +kernel
theorem dX1_lowsUpTo_25 : decode cX1_lowsUpTo 25 = .ok (.iload_n 2, 1) := by decide +kernel
theorem dX1_lowsUpTo_26 : decode cX1_lowsUpTo 26 = .ok (.if_icmp .ge 22, 3) := by decide +kernel
theorem dX1_lowsUpTo_29 : decode cX1_lowsUpTo 29 = .ok (.iload_n 3, 1) := by decide +kernel
theorem dX1_lowsUpTo_30 : decode cX1_lowsUpTo 30 = .ok (.aload_n 0, 1) := by decide +kernel
theorem dX1_lowsUpTo_31 : decode cX1_lowsUpTo 31 = .ok (.getfield 13, 3) := by decide +kernel
theorem dX1_lowsUpTo_34 : decode cX1_lowsUpTo 34 = .ok (.iload 4, 2) := by decide +kernel
theorem dX1_lowsUpTo_36 : decode cX1_lowsUpTo 36 = .ok (.laload, 1) := by decide +kernel
theorem dX1_lowsUpTo_37 : decode cX1_lowsUpTo 37 = .ok (.invokestatic 56, 3) := by decide +kernel
theorem dX1_lowsUpTo_40 : decode cX1_lowsUpTo 40 = .ok (.iadd, 1) := by decide +kernel
theorem dX1_lowsUpTo_41 : decode cX1_lowsUpTo 41 = .ok (.istore_n 3, 1) := by decide +kernel
theorem dX1_lowsUpTo_42 : decode cX1_lowsUpTo 42 = .ok (.iinc 4 1, 3) := by decide +kernel
theorem dX1_lowsUpTo_45 : decode cX1_lowsUpTo 45 = .ok (.goto (-22), 3) := by decide +kernel
theorem dX1_lowsUpTo_48 : decode cX1_lowsUpTo 48 = .ok (.iload_n 3, 1) := by decide +kernel
theorem dX1_lowsUpTo_49 : decode cX1_lowsUpTo 49 = .ok (.ireturn, 1) := by decide +kernel
set_option maxRecDepth 20000 in
theorem ggX1_lowAt_J13_bitCount_95d88 : GoodIn wsX1_lowAt wsJ13_bitCount_95d88 := goodIn_r _ [5, 6, 7, 8] (by decide +kernel) (by decide +kernel)
set_option maxRecDepth 20000 in
theorem gX1_lowAt_J13_bitCount_95d88 : GoodIn wsX1_lowAt (va_wsS RX1 56 yJ13_bitCount_95d88 wsJ13_bitCount_95d88) := goodIn_app (goodIn_of _ (by decide +kernel)) ggX1_lowAt_J13_bitCount_95d88
set_option maxRecDepth 20000 in
theorem ggX1_lowAt_J13_numberOfTrailingZeros_95d88 : GoodIn wsX1_lowAt wsJ13_numberOfTrailingZeros_95d88 := goodIn_r _ [11, 12, 13, 14, 15, 16] (by decide +kernel) (by decide +kernel)
set_option maxRecDepth 20000 in
theorem gX1_lowAt_J13_numberOfTrailingZeros_95d88 : GoodIn wsX1_lowAt (va_wsS RX1 78 yJ13_numberOfTrailingZeros_95d88 wsJ13_numberOfTrailingZeros_95d88) := goodIn_app (goodIn_of _ (by decide +kernel)) ggX1_lowAt_J13_numberOfTrailingZeros_95d88
theorem dX1_lowAt_0 : decode cX1_lowAt 0 = .ok (.iload_n 1, 1) := by decide +kernel
theorem dX1_lowAt_1 : decode cX1_lowAt 1 = .ok (.istore_n 2, 1) := by decide +kernel
theorem dX1_lowAt_2 : decode cX1_lowAt 2 = .ok (.iconst 0, 1) := by decide +kernel
theorem dX1_lowAt_3 : decode cX1_lowAt 3 = .ok (.istore_n 3, 1) := by decide +kernel
theorem dX1_lowAt_4 : decode cX1_lowAt 4 = .ok (.iload_n 3, 1) := by decide +kernel
theorem dX1_lowAt_5 : decode cX1_lowAt 5 = .ok (.sipush 1024, 3) := by decide +kernel
theorem dX1_lowAt_8 : decode cX1_lowAt 8 = .ok (.if_icmp .ge 70, 3) := by decide +kernel
theorem dX1_lowAt_11 : decode cX1_lowAt 11 = .ok (.aload_n 0, 1) := by decide +kernel
theorem dX1_lowAt_12 : decode cX1_lowAt 12 = .ok (.getfield 13, 3) := by decide +kernel
theorem dX1_lowAt_15 : decode cX1_lowAt 15 = .ok (.iload_n 3, 1) := by decide +kernel
theorem dX1_lowAt_16 : decode cX1_lowAt 16 = .ok (.laload, 1) := by decide +kernel
theorem dX1_lowAt_17 : decode cX1_lowAt 17 = .ok (.lstore 4, 2) := by decide +kernel
theorem dX1_lowAt_19 : decode cX1_lowAt 19 = .ok (.lload 4, 2) := by decide +kernel
theorem dX1_lowAt_21 : decode cX1_lowAt 21 = .ok (.invokestatic 56, 3) := by decide +kernel
theorem dX1_lowAt_24 : decode cX1_lowAt 24 = .ok (.istore 6, 2) := by decide +kernel
theorem dX1_lowAt_26 : decode cX1_lowAt 26 = .ok (.iload_n 2, 1) := by decide +kernel
theorem dX1_lowAt_27 : decode cX1_lowAt 27 = .ok (.iload 6, 2) := by decide +kernel
theorem dX1_lowAt_29 : decode cX1_lowAt 29 = .ok (.if_icmp .ge 38, 3) := by decide +kernel
theorem dX1_lowAt_32 : decode cX1_lowAt 32 = .ok (.iconst 0, 1) := by decide +kernel
theorem dX1_lowAt_33 : decode cX1_lowAt 33 = .ok (.istore 7, 2) := by decide +kernel
theorem dX1_lowAt_35 : decode cX1_lowAt 35 = .ok (.iload 7, 2) := by decide +kernel
theorem dX1_lowAt_37 : decode cX1_lowAt 37 = .ok (.iload_n 2, 1) := by decide +kernel
theorem dX1_lowAt_38 : decode cX1_lowAt 38 = .ok (.if_icmp .ge 18, 3) := by decide +kernel
theorem dX1_lowAt_41 : decode cX1_lowAt 41 = .ok (.lload 4, 2) := by decide +kernel
theorem dX1_lowAt_43 : decode cX1_lowAt 43 = .ok (.lload 4, 2) := by decide +kernel
theorem dX1_lowAt_45 : decode cX1_lowAt 45 = .ok (.lconst 1, 1) := by decide +kernel
theorem dX1_lowAt_46 : decode cX1_lowAt 46 = .ok (.lsub, 1) := by decide +kernel
theorem dX1_lowAt_47 : decode cX1_lowAt 47 = .ok (.land, 1) := by decide +kernel
theorem dX1_lowAt_48 : decode cX1_lowAt 48 = .ok (.lstore 4, 2) := by decide +kernel
theorem dX1_lowAt_50 : decode cX1_lowAt 50 = .ok (.iinc 7 1, 3) := by decide +kernel
theorem dX1_lowAt_53 : decode cX1_lowAt 53 = .ok (.goto (-18), 3) := by decide +kernel
theorem dX1_lowAt_56 : decode cX1_lowAt 56 = .ok (.iload_n 3, 1) := by decide +kernel
theorem dX1_lowAt_57 : decode cX1_lowAt 57 = .ok (.bipush 6, 2) := by decide +kernel
theorem dX1_lowAt_59 : decode cX1_lowAt 59 = .ok (.ishl, 1) := by decide +kernel
theorem dX1_lowAt_60 : decode cX1_lowAt 60 = .ok (.lload 4, 2) := by decide +kernel
theorem dX1_lowAt_62 : decode cX1_lowAt 62 = .ok (.invokestatic 78, 3) := by decide +kernel
theorem dX1_lowAt_65 : decode cX1_lowAt 65 = .ok (.iadd, 1) := by decide +kernel
theorem dX1_lowAt_66 : decode cX1_lowAt 66 = .ok (.ireturn, 1) := by decide +kernel
theorem dX1_lowAt_67 : decode cX1_lowAt 67 = .ok (.iload_n 2, 1) := by decide +kernel
theorem dX1_lowAt_68 : decode cX1_lowAt 68 = .ok (.iload 6, 2) := by decide +kernel
theorem dX1_lowAt_70 : decode cX1_lowAt 70 = .ok (.isub, 1) := by decide +kernel
theorem dX1_lowAt_71 : decode cX1_lowAt 71 = .ok (.istore_n 2, 1) := by decide +kernel
theorem dX1_lowAt_72 : decode cX1_lowAt 72 = .ok (.iinc 3 1, 3) := by decide +kernel
theorem dX1_lowAt_75 : decode cX1_lowAt 75 = .ok (.goto (-71), 3) := by decide +kernel
theorem dX1_lowAt_78 : decode cX1_lowAt 78 = .ok (.iconst (-1), 1) := by decide +kernel
theorem dX1_lowAt_79 : decode cX1_lowAt 79 = .ok (.ireturn, 1) := by decide +kernel
set_option maxRecDepth 20000 in
theorem ggX1_firstIn_X1_firstBit : GoodIn wsX1_firstIn wsX1_firstBit := goodIn_r _ [5, 6, 7, 8, 9, 10, 11, 12, 13, 14, 15, 16, 17, 18, 19, 20, 21] (by decide +kernel) (by decide +kernel)
set_option maxRecDepth 20000 in
theorem gX1_firstIn_X1_firstBit : GoodIn wsX1_firstIn (wsV RX1 81 RX1 yX1_firstBit wsX1_firstBit) := goodIn_app (goodIn_of _ (by decide +kernel)) ggX1_firstIn_X1_firstBit
theorem dX1_firstIn_0 : decode cX1_firstIn 0 = .ok (.aload_n 0, 1) := by decide +kernel
theorem dX1_firstIn_1 : decode cX1_firstIn 1 = .ok (.iload_n 1, 1) := by decide +kernel
theorem dX1_firstIn_2 : decode cX1_firstIn 2 = .ok (.lconst 0, 1) := by decide +kernel
theorem dX1_firstIn_3 : decode cX1_firstIn 3 = .ok (.invokevirtual 81, 3) := by decide +kernel
theorem dX1_firstIn_6 : decode cX1_firstIn 6 = .ok (.ireturn, 1) := by decide +kernel
set_option maxRecDepth 20000 in
theorem ggX1_firstOut_X1_firstBit : GoodIn wsX1_firstOut wsX1_firstBit := goodIn_r _ [6, 7, 1, 8, 9, 10, 11, 12, 13, 14, 15, 16, 17, 18, 19, 20, 21] (by decide +kernel) (by decide +kernel)
set_option maxRecDepth 20000 in
theorem gX1_firstOut_X1_firstBit : GoodIn wsX1_firstOut (wsV RX1 81 RX1 yX1_firstBit wsX1_firstBit) := goodIn_app (goodIn_of _ (by decide +kernel)) ggX1_firstOut_X1_firstBit
theorem dX1_firstOut_0 : decode cX1_firstOut 0 = .ok (.aload_n 0, 1) := by decide +kernel
theorem dX1_firstOut_1 : decode cX1_firstOut 1 = .ok (.iload_n 1, 1) := by decide +kernel
theorem dX1_firstOut_2 : decode cX1_firstOut 2 = .ok (.ldc2_w 50, 3) := by decide +kernel
theorem dX1_firstOut_5 : decode cX1_firstOut 5 = .ok (.invokevirtual 81, 3) := by decide +kernel
theorem dX1_firstOut_8 : decode cX1_firstOut 8 = .ok (.ireturn, 1) := by decide +kernel
set_option maxRecDepth 20000 in
theorem ggX1_firstBit_J13_numberOfTrailingZeros_95d88 : GoodIn wsX1_firstBit wsJ13_numberOfTrailingZeros_95d88 := goodIn_r _ [7, 8, 9, 10, 11, 12] (by decide +kernel) (by decide +kernel)
set_option maxRecDepth 20000 in
theorem gX1_firstBit_J13_numberOfTrailingZeros_95d88 : GoodIn wsX1_firstBit (va_wsS RX1 78 yJ13_numberOfTrailingZeros_95d88 wsJ13_numberOfTrailingZeros_95d88) := goodIn_app (goodIn_of _ (by decide +kernel)) ggX1_firstBit_J13_numberOfTrailingZeros_95d88
theorem dX1_firstBit_0 : decode cX1_firstBit 0 = .ok (.iload_n 1, 1) := by decide +kernel
theorem dX1_firstBit_1 : decode cX1_firstBit 1 = .ok (.bipush 6, 2) := by decide +kernel
theorem dX1_firstBit_3 : decode cX1_firstBit 3 = .ok (.ishr, 1) := by decide +kernel
theorem dX1_firstBit_4 : decode cX1_firstBit 4 = .ok (.istore 4, 2) := by decide +kernel
theorem dX1_firstBit_6 : decode cX1_firstBit 6 = .ok (.iload 4, 2) := by decide +kernel
theorem dX1_firstBit_8 : decode cX1_firstBit 8 = .ok (.istore 5, 2) := by decide +kernel
theorem dX1_firstBit_10 : decode cX1_firstBit 10 = .ok (.iload 5, 2) := by decide +kernel
theorem dX1_firstBit_12 : decode cX1_firstBit 12 = .ok (.sipush 1024, 3) := by decide +kernel
theorem dX1_firstBit_15 : decode cX1_firstBit 15 = .ok (.if_icmp .ge 56, 3) := by decide +kernel
theorem dX1_firstBit_18 : decode cX1_firstBit 18 = .ok (.aload_n 0, 1) := by decide +kernel
theorem dX1_firstBit_19 : decode cX1_firstBit 19 = .ok (.getfield 13, 3) := by decide +kernel
theorem dX1_firstBit_22 : decode cX1_firstBit 22 = .ok (.iload 5, 2) := by decide +kernel
theorem dX1_firstBit_24 : decode cX1_firstBit 24 = .ok (.laload, 1) := by decide +kernel
theorem dX1_firstBit_25 : decode cX1_firstBit 25 = .ok (.lload_n 2, 1) := by decide +kernel
theorem dX1_firstBit_26 : decode cX1_firstBit 26 = .ok (.lxor, 1) := by decide +kernel
theorem dX1_firstBit_27 : decode cX1_firstBit 27 = .ok (.lstore 6, 2) := by decide +kernel
theorem dX1_firstBit_29 : decode cX1_firstBit 29 = .ok (.iload 5, 2) := by decide +kernel
theorem dX1_firstBit_31 : decode cX1_firstBit 31 = .ok (.iload 4, 2) := by decide +kernel
theorem dX1_firstBit_33 : decode cX1_firstBit 33 = .ok (.if_icmp .ne 13, 3) := by decide +kernel
theorem dX1_firstBit_36 : decode cX1_firstBit 36 = .ok (.lload 6, 2) := by decide +kernel
theorem dX1_firstBit_38 : decode cX1_firstBit 38 = .ok (.ldc2_w 50, 3) := by decide +kernel
theorem dX1_firstBit_41 : decode cX1_firstBit 41 = .ok (.iload_n 1, 1) := by decide +kernel
theorem dX1_firstBit_42 : decode cX1_firstBit 42 = .ok (.lshl, 1) := by decide +kernel
theorem dX1_firstBit_43 : decode cX1_firstBit 43 = .ok (.land, 1) := by decide +kernel
theorem dX1_firstBit_44 : decode cX1_firstBit 44 = .ok (.lstore 6, 2) := by decide +kernel
theorem dX1_firstBit_46 : decode cX1_firstBit 46 = .ok (.lload 6, 2) := by decide +kernel
theorem dX1_firstBit_48 : decode cX1_firstBit 48 = .ok (.lconst 0, 1) := by decide +kernel
theorem dX1_firstBit_49 : decode cX1_firstBit 49 = .ok (.lcmp, 1) := by decide +kernel
theorem dX1_firstBit_50 : decode cX1_firstBit 50 = .ok (.ifCond .eq 15, 3) := by decide +kernel
theorem dX1_firstBit_53 : decode cX1_firstBit 53 = .ok (.iload 5, 2) := by decide +kernel
theorem dX1_firstBit_55 : decode cX1_firstBit 55 = .ok (.bipush 6, 2) := by decide +kernel
theorem dX1_firstBit_57 : decode cX1_firstBit 57 = .ok (.ishl, 1) := by decide +kernel
theorem dX1_firstBit_58 : decode cX1_firstBit 58 = .ok (.lload 6, 2) := by decide +kernel
theorem dX1_firstBit_60 : decode cX1_firstBit 60 = .ok (.invokestatic 78, 3) := by decide +kernel
theorem dX1_firstBit_63 : decode cX1_firstBit 63 = .ok (.iadd, 1) := by decide +kernel
theorem dX1_firstBit_64 : decode cX1_firstBit 64 = .ok (.ireturn, 1) := by decide +kernel
theorem dX1_firstBit_65 : decode cX1_firstBit 65 = .ok (.iinc 5 1, 3) := by decide +kernel
theorem dX1_firstBit_68 : decode cX1_firstBit 68 = .ok (.goto (-58), 3) := by decide +kernel
theorem dX1_firstBit_71 : decode cX1_firstBit 71 = .ok (.ldc 85, 2) := by decide +kernel
theorem dX1_firstBit_73 : decode cX1_firstBit 73 = .ok (.ireturn, 1) := by decide +kernel
set_option maxRecDepth 20000 in
theorem ggX1_digestFrom_X1_totalRuns : GoodIn wsX1_digestFrom wsX1_totalRuns := goodIn_r _ [10, 5, 11, 12, 13, 14, 15, 16, 17, 18, 19, 20, 21, 22] (by decide +kernel) (by decide +kernel)
set_option maxRecDepth 20000 in
theorem gX1_digestFrom_X1_totalRuns : GoodIn wsX1_digestFrom (wsV RX1 43 RX1 yX1_totalRuns wsX1_totalRuns) := goodIn_app (goodIn_of _ (by decide +kernel)) ggX1_digestFrom_X1_totalRuns
theorem dX1_digestFrom_0 : decode cX1_digestFrom 0 = .ok (.ldc2_w 86, 3) := by decide +kernel
theorem dX1_digestFrom_3 : decode cX1_digestFrom 3 = .ok (.lload_n 1, 1) := by decide +kernel
theorem dX1_digestFrom_4 : decode cX1_digestFrom 4 = .ok (.lmul, 1) := by decide +kernel
theorem dX1_digestFrom_5 : decode cX1_digestFrom 5 = .ok (.aload_n 0, 1) := by decide +kernel
theorem dX1_digestFrom_6 : decode cX1_digestFrom 6 = .ok (.getfield 27, 3) := by decide +kernel
theorem dX1_digestFrom_9 : decode cX1_digestFrom 9 = .ok (.i2l, 1) := by decide +kernel
theorem dX1_digestFrom_10 : decode cX1_digestFrom 10 = .ok (.ladd, 1) := by decide +kernel
theorem dX1_digestFrom_11 : decode cX1_digestFrom 11 = .ok (.lstore_n 3, 1) := by decide +kernel
theorem dX1_digestFrom_12 : decode cX1_digestFrom 12 = .ok (.ldc2_w 86, 3) := by decide +kernel
theorem dX1_digestFrom_15 : decode cX1_digestFrom 15 = .ok (.lload_n 3, 1) := by decide +kernel
theorem dX1_digestFrom_16 : decode cX1_digestFrom 16 = .ok (.lmul, 1) := by decide +kernel
theorem dX1_digestFrom_17 : decode cX1_digestFrom 17 = .ok (.aload_n 0, 1) := by decide +kernel
theorem dX1_digestFrom_18 : decode cX1_digestFrom 18 = .ok (.getfield 31, 3) := by decide +kernel
theorem dX1_digestFrom_21 : decode cX1_digestFrom 21 = .ok (.i2l, 1) := by decide +kernel
theorem dX1_digestFrom_22 : decode cX1_digestFrom 22 = .ok (.ladd, 1) := by decide +kernel
theorem dX1_digestFrom_23 : decode cX1_digestFrom 23 = .ok (.lstore_n 3, 1) := by decide +kernel
theorem dX1_digestFrom_24 : decode cX1_digestFrom 24 = .ok (.ldc2_w 86, 3) := by decide +kernel
theorem dX1_digestFrom_27 : decode cX1_digestFrom 27 = .ok (.lload_n 3, 1) := by decide +kernel
theorem dX1_digestFrom_28 : decode cX1_digestFrom 28 = .ok (.lmul, 1) := by decide +kernel
theorem dX1_digestFrom_29 : decode cX1_digestFrom 29 = .ok (.aload_n 0, 1) := by decide +kernel
theorem dX1_digestFrom_30 : decode cX1_digestFrom 30 = .ok (.getfield 34, 3) := by decide +kernel
theorem dX1_digestFrom_33 : decode cX1_digestFrom 33 = .ok (.i2l, 1) := by decide +kernel
theorem dX1_digestFrom_34 : decode cX1_digestFrom 34 = .ok (.ladd, 1) := by decide +kernel
theorem dX1_digestFrom_35 : decode cX1_digestFrom 35 = .ok (.lstore_n 3, 1) := by decide +kernel
theorem dX1_digestFrom_36 : decode cX1_digestFrom 36 = .ok (.ldc2_w 86, 3) := by decide +kernel
theorem dX1_digestFrom_39 : decode cX1_digestFrom 39 = .ok (.lload_n 3, 1) := by decide +kernel
theorem dX1_digestFrom_40 : decode cX1_digestFrom 40 = .ok (.lmul, 1) := by decide +kernel
theorem dX1_digestFrom_41 : decode cX1_digestFrom 41 = .ok (.aload_n 0, 1) := by decide +kernel
theorem dX1_digestFrom_42 : decode cX1_digestFrom 42 = .ok (.invokevirtual 43, 3) := by decide +kernel
theorem dX1_digestFrom_45 : decode cX1_digestFrom 45 = .ok (.i2l, 1) := by decide +kernel
theorem dX1_digestFrom_46 : decode cX1_digestFrom 46 = .ok (.ladd, 1) := by decide +kernel
theorem dX1_digestFrom_47 : decode cX1_digestFrom 47 = .ok (.lstore_n 3, 1) := by decide +kernel
theorem dX1_digestFrom_48 : decode cX1_digestFrom 48 = .ok (.iconst 0, 1) := by decide +kernel
theorem dX1_digestFrom_49 : decode cX1_digestFrom 49 = .ok (.istore 5, 2) := by decide +kernel
theorem dX1_digestFrom_51 : decode cX1_digestFrom 51 = .ok (.iload 5, 2) := by decide +kernel
theorem dX1_digestFrom_53 : decode cX1_digestFrom 53 = .ok (.sipush 1024, 3) := by decide +kernel
theorem dX1_digestFrom_56 : decode cX1_digestFrom 56 = .ok (.if_icmp .ge 23, 3) := by decide +kernel
theorem dX1_digestFrom_59 : decode cX1_digestFrom 59 = .ok (.ldc2_w 86, 3) := by decide +kernel
theorem dX1_digestFrom_62 : decode cX1_digestFrom 62 = .ok (.lload_n 3, 1) := by decide +kernel
theorem dX1_digestFrom_63 : decode cX1_digestFrom 63 = .ok (.lmul, 1) := by decide +kernel
theorem dX1_digestFrom_64 : decode cX1_digestFrom 64 = .ok (.aload_n 0, 1) := by decide +kernel
theorem dX1_digestFrom_65 : decode cX1_digestFrom 65 = .ok (.getfield 13, 3) := by decide +kernel
theorem dX1_digestFrom_68 : decode cX1_digestFrom 68 = .ok (.iload 5, 2) := by decide +kernel
theorem dX1_digestFrom_70 : decode cX1_digestFrom 70 = .ok (.laload, 1) := by decide +kernel
theorem dX1_digestFrom_71 : decode cX1_digestFrom 71 = .ok (.ladd, 1) := by decide +kernel
theorem dX1_digestFrom_72 : decode cX1_digestFrom 72 = .ok (.lstore_n 3, 1) := by decide +kernel
theorem dX1_digestFrom_73 : decode cX1_digestFrom 73 = .ok (.iinc 5 1, 3) := by decide +kernel
theorem dX1_digestFrom_76 : decode cX1_digestFrom 76 = .ok (.goto (-25), 3) := by decide +kernel
theorem dX1_digestFrom_79 : decode cX1_digestFrom 79 = .ok (.lload_n 3, 1) := by decide +kernel
theorem dX1_digestFrom_80 : decode cX1_digestFrom 80 = .ok (.lreturn, 1) := by decide +kernel
theorem dX1_mix_0 : decode cX1_mix 0 = .ok (.iload_n 0, 1) := by decide +kernel
theorem dX1_mix_1 : decode cX1_mix 1 = .ok (.tableswitch 39 0 2 #[27, 31, 35], 27) := by decide +kernel
theorem dX1_mix_28 : decode cX1_mix 28 = .ok (.lload_n 1, 1) := by decide +kernel
theorem dX1_mix_29 : decode cX1_mix 29 = .ok (.lload_n 3, 1) := by decide +kernel
theorem dX1_mix_30 : decode cX1_mix 30 = .ok (.land, 1) := by decide +kernel
theorem dX1_mix_31 : decode cX1_mix 31 = .ok (.lreturn, 1) := by decide +kernel
theorem dX1_mix_32 : decode cX1_mix 32 = .ok (.lload_n 1, 1) := by decide +kernel
theorem dX1_mix_33 : decode cX1_mix 33 = .ok (.lload_n 3, 1) := by decide +kernel
theorem dX1_mix_34 : decode cX1_mix 34 = .ok (.lor, 1) := by decide +kernel
theorem dX1_mix_35 : decode cX1_mix 35 = .ok (.lreturn, 1) := by decide +kernel
theorem dX1_mix_36 : decode cX1_mix 36 = .ok (.lload_n 1, 1) := by decide +kernel
theorem dX1_mix_37 : decode cX1_mix 37 = .ok (.lload_n 3, 1) := by decide +kernel
theorem dX1_mix_38 : decode cX1_mix 38 = .ok (.lxor, 1) := by decide +kernel
theorem dX1_mix_39 : decode cX1_mix 39 = .ok (.lreturn, 1) := by decide +kernel
theorem dX1_mix_40 : decode cX1_mix 40 = .ok (.lload_n 1, 1) := by decide +kernel
theorem dX1_mix_41 : decode cX1_mix 41 = .ok (.lload_n 3, 1) := by decide +kernel
theorem dX1_mix_42 : decode cX1_mix 42 = .ok (.ldc2_w 50, 3) := by decide +kernel
theorem dX1_mix_45 : decode cX1_mix 45 = .ok (.lxor, 1) := by decide +kernel
theorem dX1_mix_46 : decode cX1_mix 46 = .ok (.land, 1) := by decide +kernel
theorem dX1_mix_47 : decode cX1_mix 47 = .ok (.lreturn, 1) := by decide +kernel
theorem dX1_upTo_0 : decode cX1_upTo 0 = .ok (.ldc2_w 50, 3) := by decide +kernel
theorem dX1_upTo_3 : decode cX1_upTo 3 = .ok (.bipush 63, 2) := by decide +kernel
theorem dX1_upTo_5 : decode cX1_upTo 5 = .ok (.iload_n 0, 1) := by decide +kernel
theorem dX1_upTo_6 : decode cX1_upTo 6 = .ok (.bipush 63, 2) := by decide +kernel
theorem dX1_upTo_8 : decode cX1_upTo 8 = .ok (.iand, 1) := by decide +kernel
theorem dX1_upTo_9 : decode cX1_upTo 9 = .ok (.isub, 1) := by decide +kernel
theorem dX1_upTo_10 : decode cX1_upTo 10 = .ok (.lushr, 1) := by decide +kernel
theorem dX1_upTo_11 : decode cX1_upTo 11 = .ok (.lreturn, 1) := by decide +kernel
set_option maxRecDepth 20000 in
theorem ggX2_init_X1_init : GoodIn wsX2_init wsX1_init := goodIn_r _ [9, 10, 2, 3, 11, 14, 15, 16, 17] (by decide +kernel) (by decide +kernel)
set_option maxRecDepth 20000 in
theorem gX2_init_X1_init_n17 : GoodIn wsX2_init (wsX1_init) := ggX2_init_X1_init
end
section
theorem dX2_init_0 : decode cX2_init 0 = .ok (.aload_n 0, 1) := by decide +kernel
theorem dX2_init_1 : decode cX2_init 1 = .ok (.invokespecial 3, 3) := by decide +kernel
theorem dX2_init_4 : decode cX2_init 4 = .ok (.aload_n 0, 1) := by decide +kernel
theorem dX2_init_5 : decode cX2_init 5 = .ok (.bipush 7, 2) := by decide +kernel
theorem dX2_init_7 : decode cX2_init 7 = .ok (.anewarray 9, 3) := by decide +kernel
theorem dX2_init_10 : decode cX2_init 10 = .ok (.putfield 11, 3) := by decide +kernel
theorem dX2_init_13 : decode cX2_init 13 = .ok (.iconst 0, 1) := by decide +kernel
theorem dX2_init_14 : decode cX2_init 14 = .ok (.istore_n 1, 1) := by decide +kernel
theorem dX2_init_15 : decode cX2_init 15 = .ok (.iload_n 1, 1) := by decide +kernel
theorem dX2_init_16 : decode cX2_init 16 = .ok (.aload_n 0, 1) := by decide +kernel
theorem dX2_init_17 : decode cX2_init 17 = .ok (.getfield 11, 3) := by decide +kernel
theorem dX2_init_20 : decode cX2_init 20 = .ok (.arraylength, 1) := by decide +kernel
theorem dX2_init_21 : decode cX2_init 21 = .ok (.if_icmp .ge 22, 3) := by decide +kernel
theorem dX2_init_24 : decode cX2_init 24 = .ok (.aload_n 0, 1) := by decide +kernel
theorem dX2_init_25 : decode cX2_init 25 = .ok (.getfield 11, 3) := by decide +kernel
theorem dX2_init_28 : decode cX2_init 28 = .ok (.iload_n 1, 1) := by decide +kernel
theorem dX2_init_29 : decode cX2_init 29 = .ok (.new 9, 3) := by decide +kernel
theorem dX2_init_32 : decode cX2_init 32 = .ok (.dup, 1) := by decide +kernel
theorem dX2_init_33 : decode cX2_init 33 = .ok (.invokespecial 17, 3) := by decide +kernel
theorem dX2_init_36 : decode cX2_init 36 = .ok (.aastore, 1) := by decide +kernel
theorem dX2_init_37 : decode cX2_init 37 = .ok (.iinc 1 1, 3) := by decide +kernel
theorem dX2_init_40 : decode cX2_init 40 = .ok (.goto (-25), 3) := by decide +kernel
theorem dX2_init_43 : decode cX2_init 43 = .ok (.return_, 1) := by decide +kernel
theorem dX2_exchange_0 : decode cX2_exchange 0 = .ok (.aload_n 1, 1) := by decide +kernel
theorem dX2_exchange_1 : decode cX2_exchange 1 = .ok (.getfield 11, 3) := by decide +kernel
theorem dX2_exchange_4 : decode cX2_exchange 4 = .ok (.astore_n 2, 1) := by decide +kernel
theorem dX2_exchange_5 : decode cX2_exchange 5 = .ok (.aload_n 1, 1) := by decide +kernel
theorem dX2_exchange_6 : decode cX2_exchange 6 = .ok (.getfield 18, 3) := by decide +kernel
theorem dX2_exchange_9 : decode cX2_exchange 9 = .ok (.istore_n 3, 1) := by decide +kernel
theorem dX2_exchange_10 : decode cX2_exchange 10 = .ok (.aload_n 1, 1) := by decide +kernel
theorem dX2_exchange_11 : decode cX2_exchange 11 = .ok (.aload_n 0, 1) := by decide +kernel
theorem dX2_exchange_12 : decode cX2_exchange 12 = .ok (.getfield 11, 3) := by decide +kernel
theorem dX2_exchange_15 : decode cX2_exchange 15 = .ok (.putfield 11, 3) := by decide +kernel
theorem dX2_exchange_18 : decode cX2_exchange 18 = .ok (.aload_n 1, 1) := by decide +kernel
theorem dX2_exchange_19 : decode cX2_exchange 19 = .ok (.aload_n 0, 1) := by decide +kernel
theorem dX2_exchange_20 : decode cX2_exchange 20 = .ok (.getfield 18, 3) := by decide +kernel
theorem dX2_exchange_23 : decode cX2_exchange 23 = .ok (.putfield 18, 3) := by decide +kernel
theorem dX2_exchange_26 : decode cX2_exchange 26 = .ok (.aload_n 0, 1) := by decide +kernel
theorem dX2_exchange_27 : decode cX2_exchange 27 = .ok (.aload_n 2, 1) := by decide +kernel
theorem dX2_exchange_28 : decode cX2_exchange 28 = .ok (.putfield 11, 3) := by decide +kernel
theorem dX2_exchange_31 : decode cX2_exchange 31 = .ok (.aload_n 0, 1) := by decide +kernel
theorem dX2_exchange_32 : decode cX2_exchange 32 = .ok (.iload_n 3, 1) := by decide +kernel
theorem dX2_exchange_33 : decode cX2_exchange 33 = .ok (.putfield 18, 3) := by decide +kernel
theorem dX2_exchange_36 : decode cX2_exchange 36 = .ok (.return_, 1) := by decide +kernel
set_option maxRecDepth 20000 in
theorem ggX2_copyFrom_X1_copyLowsOf : GoodIn wsX2_copyFrom wsX1_copyLowsOf := goodIn_r _ [7, 8, 9, 10, 11, 12, 13, 14, 15, 16, 17, 18, 6, 19, 20, 23, 24, 25, 26] (by decide +kernel) (by decide +kernel)
set_option maxRecDepth 20000 in
theorem gX2_copyFrom_X1_copyLowsOf : GoodIn wsX2_copyFrom (wsV RX2 22 RX1 yX1_copyLowsOf wsX1_copyLowsOf) := goodIn_app (goodIn_of _ (by decide +kernel)) ggX2_copyFrom_X1_copyLowsOf
theorem dX2_copyFrom_0 : decode cX2_copyFrom 0 = .ok (.aload_n 0, 1) := by decide +kernel
theorem dX2_copyFrom_1 : decode cX2_copyFrom 1 = .ok (.aload_n 1, 1) := by decide +kernel
theorem dX2_copyFrom_2 : decode cX2_copyFrom 2 = .ok (.getfield 18, 3) := by decide +kernel
theorem dX2_copyFrom_5 : decode cX2_copyFrom 5 = .ok (.putfield 18, 3) := by decide +kernel
theorem dX2_copyFrom_8 : decode cX2_copyFrom 8 = .ok (.iconst 0, 1) := by decide +kernel
theorem dX2_copyFrom_9 : decode cX2_copyFrom 9 = .ok (.istore_n 2, 1) := by decide +kernel
theorem dX2_copyFrom_10 : decode cX2_copyFrom 10 = .ok (.iload_n 2, 1) := by decide +kernel
theorem dX2_copyFrom_11 : decode cX2_copyFrom 11 = .ok (.aload_n 0, 1) := by decide +kernel
theorem dX2_copyFrom_12 : decode cX2_copyFrom 12 = .ok (.getfield 18, 3) := by decide +kernel
theorem dX2_copyFrom_15 : decode cX2_copyFrom 15 = .ok (.if_icmp .ge 24, 3) := by decide +kernel
theorem dX2_copyFrom_18 : decode cX2_copyFrom 18 = .ok (.aload_n 0, 1) := by decide +kernel
theorem dX2_copyFrom_19 : decode cX2_copyFrom 19 = .ok (.getfield 11, 3) := by decide +kernel
theorem dX2_copyFrom_22 : decode cX2_copyFrom 22 = .ok (.iload_n 2, 1) := by decide +kernel
theorem dX2_copyFrom_23 : decode cX2_copyFrom 23 = .ok (.aaload, 1) := by decide +kernel
theorem dX2_copyFrom_24 : decode cX2_copyFrom 24 = .ok (.aload_n 1, 1) := by decide +kernel
theorem dX2_copyFrom_25 : decode cX2_copyFrom 25 = .ok (.getfield 11, 3) := by decide +kernel
theorem dX2_copyFrom_28 : decode cX2_copyFrom 28 = .ok (.iload_n 2, 1) := by decide +kernel
theorem dX2_copyFrom_29 : decode cX2_copyFrom 29 = .ok (.aaload, 1) := by decide +kernel
theorem dX2_copyFrom_30 : decode cX2_copyFrom 30 = .ok (.invokevirtual 22, 3) := by decide +kernel
theorem dX2_copyFrom_33 : decode cX2_copyFrom 33 = .ok (.iinc 2 1, 3) := by decide +kernel
theorem dX2_copyFrom_36 : decode cX2_copyFrom 36 = .ok (.goto (-26), 3) := by decide +kernel
theorem dX2_copyFrom_39 : decode cX2_copyFrom 39 = .ok (.return_, 1) := by decide +kernel
theorem dX2_keyAt_0 : decode cX2_keyAt 0 = .ok (.iload_n 1, 1) := by decide +kernel
theorem dX2_keyAt_1 : decode cX2_keyAt 1 = .ok (.aload_n 0, 1) := by decide +kernel
theorem dX2_keyAt_2 : decode cX2_keyAt 2 = .ok (.getfield 18, 3) := by decide +kernel
theorem dX2_keyAt_5 : decode cX2_keyAt 5 = .ok (.if_icmp .ge 15, 3) := by decide +kernel
theorem dX2_keyAt_8 : decode cX2_keyAt 8 = .ok (.aload_n 0, 1) := by decide +kernel
theorem dX2_keyAt_9 : decode cX2_keyAt 9 = .ok (.getfield 11, 3) := by decide +kernel
theorem dX2_keyAt_12 : decode cX2_keyAt 12 = .ok (.iload_n 1, 1) := by decide +kernel
theorem dX2_keyAt_13 : decode cX2_keyAt 13 = .ok (.aaload, 1) := by decide +kernel
theorem dX2_keyAt_14 : decode cX2_keyAt 14 = .ok (.getfield 26, 3) := by decide +kernel
theorem dX2_keyAt_17 : decode cX2_keyAt 17 = .ok (.goto 5, 3) := by decide +kernel
theorem dX2_keyAt_20 : decode cX2_keyAt 20 = .ok (.ldc 29, 2) := by decide +kernel
theorem dX2_keyAt_22 : decode cX2_keyAt 22 = .ok (.ireturn, 1) := by decide +kernel
theorem dX2_indexOf_0 : decode cX2_indexOf 0 = .ok (.iconst 0, 1) := by decide +kernel
theorem dX2_indexOf_1 : decode cX2_indexOf 1 = .ok (.istore_n 2, 1) := by decide +kernel
theorem dX2_indexOf_2 : decode cX2_indexOf 2 = .ok (.iload_n 2, 1) := by decide +kernel
theorem dX2_indexOf_3 : decode cX2_indexOf 3 = .ok (.aload_n 0, 1) := by decide +kernel
theorem dX2_indexOf_4 : decode cX2_indexOf 4 = .ok (.getfield 18, 3) := by decide +kernel
theorem dX2_indexOf_7 : decode cX2_indexOf 7 = .ok (.if_icmp .ge 22, 3) := by decide +kernel
theorem dX2_indexOf_10 : decode cX2_indexOf 10 = .ok (.aload_n 0, 1) := by decide +kernel
theorem dX2_indexOf_11 : decode cX2_indexOf 11 = .ok (.getfield 11, 3) := by decide +kernel
theorem dX2_indexOf_14 : decode cX2_indexOf 14 = .ok (.iload_n 2, 1) := by decide +kernel
theorem dX2_indexOf_15 : decode cX2_indexOf 15 = .ok (.aaload, 1) := by decide +kernel
theorem dX2_indexOf_16 : decode cX2_indexOf 16 = .ok (.getfield 26, 3) := by decide +kernel
theorem dX2_indexOf_19 : decode cX2_indexOf 19 = .ok (.iload_n 1, 1) := by decide +kernel
theorem dX2_indexOf_20 : decode cX2_indexOf 20 = .ok (.if_icmp .ge 9, 3) := by decide +kernel
theorem dX2_indexOf_23 : decode cX2_indexOf 23 = .ok (.iinc 2 1, 3) := by decide +kernel
theorem dX2_indexOf_26 : decode cX2_indexOf 26 = .ok (.goto (-24), 3) := by decide +kernel
theorem dX2_indexOf_29 : decode cX2_indexOf 29 = .ok (.iload_n 2, 1) := by decide +kernel
theorem dX2_indexOf_30 : decode cX2_indexOf 30 = .ok (.ireturn, 1) := by decide +kernel
set_option maxRecDepth 20000 in
theorem ggX2_find_X2_indexOf : GoodIn wsX2_find wsX2_indexOf := goodIn_r _ [6, 7, 1, 8, 14, 15, 16, 17, 18, 19] (by decide +kernel) (by decide +kernel)
set_option maxRecDepth 20000 in
theorem gX2_find_X2_indexOf : GoodIn wsX2_find (wsV RX2 30 RX2 yX2_indexOf wsX2_indexOf) := goodIn_app (goodIn_of _ (by decide +kernel)) ggX2_find_X2_indexOf
set_option maxRecDepth 20000 in
theorem ggX2_find_X2_keyAt : GoodIn wsX2_find wsX2_keyAt := goodIn_r _ [12, 7, 1, 8, 13, 14, 15, 16, 17, 18, 19] (by decide +kernel) (by decide +kernel)
set_option maxRecDepth 20000 in
theorem gX2_find_X2_keyAt : GoodIn wsX2_find (wsV RX2 34 RX2 yX2_keyAt wsX2_keyAt) := goodIn_app (goodIn_of _ (by decide +kernel)) ggX2_find_X2_keyAt
theorem dX2_find_0 : decode cX2_find 0 = .ok (.aload_n 0, 1) := by decide +kernel
theorem dX2_find_1 : decode cX2_find 1 = .ok (.iload_n 1, 1) := by decide +kernel
theorem dX2_find_2 : decode cX2_find 2 = .ok (.invokevirtual 30, 3) := by decide +kernel
theorem dX2_find_5 : decode cX2_find 5 = .ok (.istore_n 2, 1) := by decide +kernel
theorem dX2_find_6 : decode cX2_find 6 = .ok (.aload_n 0, 1) := by decide +kernel
theorem dX2_find_7 : decode cX2_find 7 = .ok (.iload_n 2, 1) := by decide +kernel
theorem dX2_find_8 : decode cX2_find 8 = .ok (.invokevirtual 34, 3) := by decide +kernel
theorem dX2_find_11 : decode cX2_find 11 = .ok (.iload_n 1, 1) := by decide +kernel
theorem dX2_find_12 : decode cX2_find 12 = .ok (.if_icmp .ne 12, 3) := by decide +kernel
theorem dX2_find_15 : decode cX2_find 15 = .ok (.aload_n 0, 1) := by decide +kernel
theorem dX2_find_16 : decode cX2_find 16 = .ok (.getfield 11, 3) := by decide +kernel
theorem dX2_find_19 : decode cX2_find 19 = .ok (.iload_n 2, 1) := by decide +kernel
theorem dX2_find_20 : decode cX2_find 20 = .ok (.aaload, 1) := by decide +kernel
theorem dX2_find_21 : decode cX2_find 21 = .ok (.goto 4, 3) := by decide +kernel
theorem dX2_find_24 : decode cX2_find 24 = .ok (.aconst_null, 1) := by decide +kernel
theorem dX2_find_25 : decode cX2_find 25 = .ok (.areturn, 1) := by decide +kernel
set_option maxRecDepth 20000 in
theorem ggX2_findOrMake_X2_indexOf : GoodIn wsX2_findOrMake wsX2_indexOf := goodIn_r _ [7, 2, 1, 8, 32, 33, 34, 35, 36, 37] (by decide +kernel) (by decide +kernel)
set_option maxRecDepth 20000 in
theorem gX2_findOrMake_X2_indexOf : GoodIn wsX2_findOrMake (wsV RX2 30 RX2 yX2_indexOf wsX2_indexOf) := goodIn_app (goodIn_of _ (by decide +kernel)) ggX2_findOrMake_X2_indexOf
set_option maxRecDepth 20000 in
theorem ggX2_findOrMake_X2_keyAt : GoodIn wsX2_findOrMake wsX2_keyAt := goodIn_r _ [12, 2, 1, 8, 13, 32, 33, 34, 35, 36, 37] (by decide +kernel) (by decide +kernel)
set_option maxRecDepth 20000 in
theorem gX2_findOrMake_X2_keyAt : GoodIn wsX2_findOrMake (wsV RX2 34 RX2 yX2_keyAt wsX2_keyAt) := goodIn_app (goodIn_of _ (by decide +kernel)) ggX2_findOrMake_X2_keyAt
set_option maxRecDepth 20000 in
theorem ggX2_findOrMake_X1_begin : GoodIn wsX2_findOrMake wsX1_begin := goodIn_r _ [18, 19, 20, 21, 22, 23, 24, 25, 17, 26, 27, 28, 29, 30, 31, 34, 35, 36, 37] (by decide +kernel) (by decide +kernel)
set_option maxRecDepth 20000 in
theorem gX2_findOrMake_X1_begin : GoodIn wsX2_findOrMake (wsV RX2 37 RX1 yX1_begin wsX1_begin) := goodIn_app (goodIn_of _ (by decide +kernel)) ggX2_findOrMake_X1_begin
theorem dX2_findOrMake_0 : decode cX2_findOrMake 0 = .ok (.aload_n 0, 1) := by decide +kernel
theorem dX2_findOrMake_1 : decode cX2_findOrMake 1 = .ok (.iload_n 1, 1) := by decide +kernel
theorem dX2_findOrMake_2 : decode cX2_findOrMake 2 = .ok (.invokevirtual 30, 3) := by decide +kernel
theorem dX2_findOrMake_5 : decode cX2_findOrMake 5 = .ok (.istore_n 2, 1) := by decide +kernel
theorem dX2_findOrMake_6 : decode cX2_findOrMake 6 = .ok (.aload_n 0, 1) := by decide +kernel
theorem dX2_findOrMake_7 : decode cX2_findOrMake 7 = .ok (.iload_n 2, 1) := by decide +kernel
theorem dX2_findOrMake_8 : decode cX2_findOrMake 8 = .ok (.invokevirtual 34, 3) := by decide +kernel
theorem dX2_findOrMake_11 : decode cX2_findOrMake 11 = .ok (.iload_n 1, 1) := by decide +kernel
theorem dX2_findOrMake_12 : decode cX2_findOrMake 12 = .ok (.if_icmp .ne 10, 3) := by decide +kernel
theorem dX2_findOrMake_15 : decode cX2_findOrMake 15 = .ok (.aload_n 0, 1) := by decide +kernel
theorem dX2_findOrMake_16 : decode cX2_findOrMake 16 = .ok (.getfield 11, 3) := by decide +kernel
theorem dX2_findOrMake_19 : decode cX2_findOrMake 19 = .ok (.iload_n 2, 1) := by decide +kernel
theorem dX2_findOrMake_20 : decode cX2_findOrMake 20 = .ok (.aaload, 1) := by decide +kernel
theorem dX2_findOrMake_21 : decode cX2_findOrMake 21 = .ok (.areturn, 1) := by decide +kernel
theorem dX2_findOrMake_22 : decode cX2_findOrMake 22 = .ok (.aload_n 0, 1) := by decide +kernel
theorem dX2_findOrMake_23 : decode cX2_findOrMake 23 = .ok (.getfield 18, 3) := by decide +kernel
theorem dX2_findOrMake_26 : decode cX2_findOrMake 26 = .ok (.bipush 6, 2) := by decide +kernel
theorem dX2_findOrMake_28 : decode cX2_findOrMake 28 = .ok (.if_icmp .lt 5, 3) := by decide +kernel
theorem dX2_findOrMake_31 : decode cX2_findOrMake 31 = .ok (.aconst_null, 1) := by decide +kernel
theorem dX2_findOrMake_32 : decode cX2_findOrMake 32 = .ok (.areturn, 1) := by decide +kernel
theorem dX2_findOrMake_33 : decode cX2_findOrMake 33 = .ok (.aload_n 0, 1) := by decide +kernel
theorem dX2_findOrMake_34 : decode cX2_findOrMake 34 = .ok (.getfield 11, 3) := by decide +kernel
theorem dX2_findOrMake_37 : decode cX2_findOrMake 37 = .ok (.aload_n 0, 1) := by decide +kernel
theorem dX2_findOrMake_38 : decode cX2_findOrMake 38 = .ok (.getfield 18, 3) := by decide +kernel
theorem dX2_findOrMake_41 : decode cX2_findOrMake 41 = .ok (.aaload, 1) := by decide +kernel
theorem dX2_findOrMake_42 : decode cX2_findOrMake 42 = .ok (.astore_n 3, 1) := by decide +kernel
theorem dX2_findOrMake_43 : decode cX2_findOrMake 43 = .ok (.aload_n 0, 1) := by decide +kernel
theorem dX2_findOrMake_44 : decode cX2_findOrMake 44 = .ok (.getfield 18, 3) := by decide +kernel
theorem dX2_findOrMake_47 : decode cX2_findOrMake 47 = .ok (.istore 4, 2) := by decide +kernel
theorem dX2_findOrMake_49 : decode cX2_findOrMake 49 = .ok (.iload 4, 2) := by decide +kernel
theorem dX2_findOrMake_51 : decode cX2_findOrMake 51 = .ok (.iload_n 2, 1) := by decide +kernel
theorem dX2_findOrMake_52 : decode cX2_findOrMake 52 = .ok (.if_icmp .le 25, 3) := by decide +kernel
theorem dX2_findOrMake_55 : decode cX2_findOrMake 55 = .ok (.aload_n 0, 1) := by decide +kernel
theorem dX2_findOrMake_56 : decode cX2_findOrMake 56 = .ok (.getfield 11, 3) := by decide +kernel
theorem dX2_findOrMake_59 : decode cX2_findOrMake 59 = .ok (.iload 4, 2) := by decide +kernel
theorem dX2_findOrMake_61 : decode cX2_findOrMake 61 = .ok (.aload_n 0, 1) := by decide +kernel
theorem dX2_findOrMake_62 : decode cX2_findOrMake 62 = .ok (.getfield 11, 3) := by decide +kernel
theorem dX2_findOrMake_65 : decode cX2_findOrMake 65 = .ok (.iload 4, 2) := by decide +kernel
theorem dX2_findOrMake_67 : decode cX2_findOrMake 67 = .ok (.iconst 1, 1) := by decide +kernel
theorem dX2_findOrMake_68 : decode cX2_findOrMake 68 = .ok (.isub, 1) := by decide +kernel
theorem dX2_findOrMake_69 : decode cX2_findOrMake 69 = .ok (.aaload, 1) := by decide +kernel
theorem dX2_findOrMake_70 : decode cX2_findOrMake 70 = .ok (.aastore, 1) := by decide +kernel
theorem dX2_findOrMake_71 : decode cX2_findOrMake 71 = .ok (.iinc 4 (-1), 3) := by decide +kernel
theorem dX2_findOrMake_74 : decode cX2_findOrMake 74 = .ok (.goto (-25), 3) := by decide +kernel
theorem dX2_findOrMake_77 : decode cX2_findOrMake 77 = .ok (.aload_n 0, 1) := by decide +kernel
theorem dX2_findOrMake_78 : decode cX2_findOrMake 78 = .ok (.getfield 11, 3) := by decide +kernel
theorem dX2_findOrMake_81 : decode cX2_findOrMake 81 = .ok (.iload_n 2, 1) := by decide +kernel
theorem dX2_findOrMake_82 : decode cX2_findOrMake 82 = .ok (.aload_n 3, 1) := by decide +kernel
theorem dX2_findOrMake_83 : decode cX2_findOrMake 83 = .ok (.aastore, 1) := by decide +kernel
theorem dX2_findOrMake_84 : decode cX2_findOrMake 84 = .ok (.aload_n 0, 1) := by decide +kernel
theorem dX2_findOrMake_85 : decode cX2_findOrMake 85 = .ok (.dup, 1) := by decide +kernel
theorem dX2_findOrMake_86 : decode cX2_findOrMake 86 = .ok (.getfield 18, 3) := by decide +kernel
theorem dX2_findOrMake_89 : decode cX2_findOrMake 89 = .ok (.iconst 1, 1) := by decide +kernel
theorem dX2_findOrMake_90 : decode cX2_findOrMake 90 = .ok (.iadd, 1) := by decide +kernel
theorem dX2_findOrMake_91 : decode cX2_findOrMake 91 = .ok (.putfield 18, 3) := by decide +kernel
theorem dX2_findOrMake_94 : decode cX2_findOrMake 94 = .ok (.aload_n 3, 1) := by decide +kernel
theorem dX2_findOrMake_95 : decode cX2_findOrMake 95 = .ok (.iload_n 1, 1) := by decide +kernel
theorem dX2_findOrMake_96 : decode cX2_findOrMake 96 = .ok (.invokevirtual 37, 3) := by decide +kernel
theorem dX2_findOrMake_99 : decode cX2_findOrMake 99 = .ok (.aload_n 3, 1) := by decide +kernel
theorem dX2_findOrMake_100 : decode cX2_findOrMake 100 = .ok (.areturn, 1) := by decide +kernel
set_option maxRecDepth 20000 in
theorem ggX2_leaveOut_X2_indexOf : GoodIn wsX2_leaveOut wsX2_indexOf := goodIn_r _ [7, 2, 1, 8, 14, 15, 16, 17, 18, 19] (by decide +kernel) (by decide +kernel)
set_option maxRecDepth 20000 in
theorem gX2_leaveOut_X2_indexOf : GoodIn wsX2_leaveOut (wsV RX2 30 RX2 yX2_indexOf wsX2_indexOf) := goodIn_app (goodIn_of _ (by decide +kernel)) ggX2_leaveOut_X2_indexOf
set_option maxRecDepth 20000 in
theorem ggX2_leaveOut_X2_keyAt : GoodIn wsX2_leaveOut wsX2_keyAt := goodIn_r _ [12, 2, 1, 8, 13, 14, 15, 16, 17, 18, 19] (by decide +kernel) (by decide +kernel)
set_option maxRecDepth 20000 in
theorem gX2_leaveOut_X2_keyAt : GoodIn wsX2_leaveOut (wsV RX2 34 RX2 yX2_keyAt wsX2_keyAt) := goodIn_app (goodIn_of _ (by decide +kernel)) ggX2_leaveOut_X2_keyAt
theorem dX2_leaveOut_0 : decode cX2_leaveOut 0 = .ok (.aload_n 0, 1) := by decide +kernel
theorem dX2_leaveOut_1 : decode cX2_leaveOut 1 = .ok (.iload_n 1, 1) := by decide +kernel
theorem dX2_leaveOut_2 : decode cX2_leaveOut 2 = .ok (.invokevirtual 30, 3) := by decide +kernel
theorem dX2_leaveOut_5 : decode cX2_leaveOut 5 = .ok (.istore_n 2, 1) := by decide +kernel
theorem dX2_leaveOut_6 : decode cX2_leaveOut 6 = .ok (.aload_n 0, 1) := by decide +kernel
theorem dX2_leaveOut_7 : decode cX2_leaveOut 7 = .ok (.iload_n 2, 1) := by decide +kernel
theorem dX2_leaveOut_8 : decode cX2_leaveOut 8 = .ok (.invokevirtual 34, 3) := by decide +kernel
theorem dX2_leaveOut_11 : decode cX2_leaveOut 11 = .ok (.iload_n 1, 1) := by decide +kernel
theorem dX2_leaveOut_12 : decode cX2_leaveOut 12 = .ok (.if_icmp .eq 4, 3) := by decide +kernel
theorem dX2_leaveOut_15 : decode cX2_leaveOut 15 = .ok (.return_, 1) := by decide +kernel
theorem dX2_leaveOut_16 : decode cX2_leaveOut 16 = .ok (.aload_n 0, 1) := by decide +kernel
theorem dX2_leaveOut_17 : decode cX2_leaveOut 17 = .ok (.getfield 11, 3) := by decide +kernel
theorem dX2_leaveOut_20 : decode cX2_leaveOut 20 = .ok (.iload_n 2, 1) := by decide +kernel
theorem dX2_leaveOut_21 : decode cX2_leaveOut 21 = .ok (.aaload, 1) := by decide +kernel
theorem dX2_leaveOut_22 : decode cX2_leaveOut 22 = .ok (.astore_n 3, 1) := by decide +kernel
theorem dX2_leaveOut_23 : decode cX2_leaveOut 23 = .ok (.aload_n 0, 1) := by decide +kernel
theorem dX2_leaveOut_24 : decode cX2_leaveOut 24 = .ok (.dup, 1) := by decide +kernel
theorem dX2_leaveOut_25 : decode cX2_leaveOut 25 = .ok (.getfield 18, 3) := by decide +kernel
theorem dX2_leaveOut_28 : decode cX2_leaveOut 28 = .ok (.iconst 1, 1) := by decide +kernel
theorem dX2_leaveOut_29 : decode cX2_leaveOut 29 = .ok (.isub, 1) := by decide +kernel
theorem dX2_leaveOut_30 : decode cX2_leaveOut 30 = .ok (.putfield 18, 3) := by decide +kernel
theorem dX2_leaveOut_33 : decode cX2_leaveOut 33 = .ok (.iload_n 2, 1) := by decide +kernel
theorem dX2_leaveOut_34 : decode cX2_leaveOut 34 = .ok (.istore 4, 2) := by decide +kernel
theorem dX2_leaveOut_36 : decode cX2_leaveOut 36 = .ok (.iload 4, 2) := by decide +kernel
theorem dX2_leaveOut_38 : decode cX2_leaveOut 38 = .ok (.aload_n 0, 1) := by decide +kernel
theorem dX2_leaveOut_39 : decode cX2_leaveOut 39 = .ok (.getfield 18, 3) := by decide +kernel
theorem dX2_leaveOut_42 : decode cX2_leaveOut 42 = .ok (.if_icmp .ge 25, 3) := by decide +kernel
theorem dX2_leaveOut_45 : decode cX2_leaveOut 45 = .ok (.aload_n 0, 1) := by decide +kernel
theorem dX2_leaveOut_46 : decode cX2_leaveOut 46 = .ok (.getfield 11, 3) := by decide +kernel
theorem dX2_leaveOut_49 : decode cX2_leaveOut 49 = .ok (.iload 4, 2) := by decide +kernel
theorem dX2_leaveOut_51 : decode cX2_leaveOut 51 = .ok (.aload_n 0, 1) := by decide +kernel
theorem dX2_leaveOut_52 : decode cX2_leaveOut 52 = .ok (.getfield 11, 3) := by decide +kernel
theorem dX2_leaveOut_55 : decode cX2_leaveOut 55 = .ok (.iload 4, 2) := by decide +kernel
theorem dX2_leaveOut_57 : decode cX2_leaveOut 57 = .ok (.iconst 1, 1) := by decide +kernel
theorem dX2_leaveOut_58 : decode cX2_leaveOut 58 = .ok (.iadd, 1) := by decide +kernel
theorem dX2_leaveOut_59 : decode cX2_leaveOut 59 = .ok (.aaload, 1) := by decide +kernel
theorem dX2_leaveOut_60 : decode cX2_leaveOut 60 = .ok (.aastore, 1) := by decide +kernel
theorem dX2_leaveOut_61 : decode cX2_leaveOut 61 = .ok (.iinc 4 1, 3) := by decide +kernel
theorem dX2_leaveOut_64 : decode cX2_leaveOut 64 = .ok (.goto (-28), 3) := by decide +kernel
theorem dX2_leaveOut_67 : decode cX2_leaveOut 67 = .ok (.aload_n 0, 1) := by decide +kernel
theorem dX2_leaveOut_68 : decode cX2_leaveOut 68 = .ok (.getfield 11, 3) := by decide +kernel
theorem dX2_leaveOut_71 : decode cX2_leaveOut 71 = .ok (.aload_n 0, 1) := by decide +kernel
theorem dX2_leaveOut_72 : decode cX2_leaveOut 72 = .ok (.getfield 18, 3) := by decide +kernel
theorem dX2_leaveOut_75 : decode cX2_leaveOut 75 = .ok (.aload_n 3, 1) := by decide +kernel
theorem dX2_leaveOut_76 : decode cX2_leaveOut 76 = .ok (.aastore, 1) := by decide +kernel
theorem dX2_leaveOut_77 : decode cX2_leaveOut 77 = .ok (.return_, 1) := by decide +kernel
set_option maxRecDepth 20000 in
theorem ggX2_changeSpan_X2_find : GoodIn wsX2_changeSpan wsX2_find := goodIn_r _ [5, 6, 7, 8, 9, 4, 10, 11, 12, 13, 14, 15, 16, 17, 68, 69, 70, 71, 72, 73] (by decide +kernel) (by decide +kernel)
set_option maxRecDepth 20000 in
theorem gX2_changeSpan_X2_find : GoodIn wsX2_changeSpan (wsV RX2 41 RX2 yX2_find wsX2_find) := goodIn_app (goodIn_of _ (by decide +kernel)) ggX2_changeSpan_X2_find
set_option maxRecDepth 20000 in
theorem ggX2_changeSpan_X2_findOrMake : GoodIn wsX2_changeSpan wsX2_findOrMake := goodIn_r _ [21, 6, 11, 7, 8, 9, 4, 10, 12, 13, 14, 15, 16, 17, 22, 23, 24, 25, 26, 27, 28, 29, 30, 31, 32, 33, 34, 35, 36, 37, 38, 39, 68, 69, 70, 71, 72, 73] (by decide +kernel) (by decide +kernel)
set_option maxRecDepth 20000 in
theorem gX2_changeSpan_X2_findOrMake : GoodIn wsX2_changeSpan (wsV RX2 45 RX2 yX2_findOrMake wsX2_findOrMake) := goodIn_app (goodIn_of _ (by decide +kernel)) ggX2_changeSpan_X2_findOrMake
set_option maxRecDepth 20000 in
theorem ggX2_changeSpan_X1_changeLows : GoodIn wsX2_changeSpan wsX1_changeLows := goodIn_r _ [43, 44, 27, 30, 45, 46, 25, 47, 48, 49, 50, 51, 52, 53, 54, 70, 71, 72, 73] (by decide +kernel) (by decide +kernel)
set_option maxRecDepth 20000 in
theorem gX2_changeSpan_X1_changeLows : GoodIn wsX2_changeSpan (wsV RX2 48 RX1 yX1_changeLows wsX1_changeLows) := goodIn_app (goodIn_of _ (by decide +kernel)) ggX2_changeSpan_X1_changeLows
set_option maxRecDepth 20000 in
theorem ggX2_changeSpan_X2_settle : GoodIn wsX2_changeSpan wsX2_settle := goodIn_r _ [58, 59, 12, 60, 61, 62, 25, 63, 30, 29, 64, 65, 66, 4, 67, 6, 11, 7, 8, 9, 10, 13, 14, 15, 16, 17, 70, 71, 72, 73, 68, 69] (by decide +kernel) (by decide +kernel)
set_option maxRecDepth 20000 in
theorem gX2_changeSpan_X2_settle : GoodIn wsX2_changeSpan (wsV RX2 52 RX2 yX2_settle wsX2_settle) := goodIn_app (goodIn_of _ (by decide +kernel)) ggX2_changeSpan_X2_settle
theorem dX2_changeSpan_0 : decode cX2_changeSpan 0 = .ok (.iload 4, 2) := by decide +kernel
theorem dX2_changeSpan_2 : decode cX2_changeSpan 2 = .ok (.iconst 1, 1) := by decide +kernel
theorem dX2_changeSpan_3 : decode cX2_changeSpan 3 = .ok (.if_icmp .ne 13, 3) := by decide +kernel
theorem dX2_changeSpan_6 : decode cX2_changeSpan 6 = .ok (.aload_n 0, 1) := by decide +kernel
theorem dX2_changeSpan_7 : decode cX2_changeSpan 7 = .ok (.iload_n 1, 1) := by decide +kernel
theorem dX2_changeSpan_8 : decode cX2_changeSpan 8 = .ok (.invokevirtual 41, 3) := by decide +kernel
theorem dX2_changeSpan_11 : decode cX2_changeSpan 11 = .ok (.ifnonnull 5, 3) := by decide +kernel
theorem dX2_changeSpan_14 : decode cX2_changeSpan 14 = .ok (.iconst 0, 1) := by decide +kernel
theorem dX2_changeSpan_15 : decode cX2_changeSpan 15 = .ok (.ireturn, 1) := by decide +kernel
theorem dX2_changeSpan_16 : decode cX2_changeSpan 16 = .ok (.aload_n 0, 1) := by decide +kernel
theorem dX2_changeSpan_17 : decode cX2_changeSpan 17 = .ok (.iload_n 1, 1) := by decide +kernel
theorem dX2_changeSpan_18 : decode cX2_changeSpan 18 = .ok (.invokevirtual 45, 3) := by decide +kernel
theorem dX2_changeSpan_21 : decode cX2_changeSpan 21 = .ok (.astore 5, 2) := by decide +kernel
theorem dX2_changeSpan_23 : decode cX2_changeSpan 23 = .ok (.aload 5, 2) := by decide +kernel
theorem dX2_changeSpan_25 : decode cX2_changeSpan 25 = .ok (.ifnonnull 6, 3) := by decide +kernel
theorem dX2_changeSpan_28 : decode cX2_changeSpan 28 = .ok (.bipush (-3), 2) := by decide +kernel
theorem dX2_changeSpan_30 : decode cX2_changeSpan 30 = .ok (.ireturn, 1) := by decide +kernel
theorem dX2_changeSpan_31 : decode cX2_changeSpan 31 = .ok (.aload_n 0, 1) := by decide +kernel
theorem dX2_changeSpan_32 : decode cX2_changeSpan 32 = .ok (.aload 5, 2) := by decide +kernel
theorem dX2_changeSpan_34 : decode cX2_changeSpan 34 = .ok (.aload 5, 2) := by decide +kernel
theorem dX2_changeSpan_36 : decode cX2_changeSpan 36 = .ok (.iload_n 2, 1) := by decide +kernel
theorem dX2_changeSpan_37 : decode cX2_changeSpan 37 = .ok (.iload_n 3, 1) := by decide +kernel
theorem dX2_changeSpan_38 : decode cX2_changeSpan 38 = .ok (.iload 4, 2) := by decide +kernel
theorem dX2_changeSpan_40 : decode cX2_changeSpan 40 = .ok (.invokevirtual 48, 3) := by decide +kernel
theorem dX2_changeSpan_43 : decode cX2_changeSpan 43 = .ok (.invokevirtual 52, 3) := by decide +kernel
theorem dX2_changeSpan_46 : decode cX2_changeSpan 46 = .ok (.ireturn, 1) := by decide +kernel
set_option maxRecDepth 20000 in
theorem ggX2_putSteps_X2_findOrMake : GoodIn wsX2_putSteps wsX2_findOrMake := goodIn_r _ [5, 6, 7, 8, 9, 10, 4, 11, 12, 13, 14, 15, 16, 17, 18, 19, 20, 21, 22, 23, 24, 25, 26, 27, 28, 29, 30, 31, 32, 33, 34, 35, 58, 59, 60, 61, 62, 63] (by decide +kernel) (by decide +kernel)
set_option maxRecDepth 20000 in
theorem gX2_putSteps_X2_findOrMake : GoodIn wsX2_putSteps (wsV RX2 45 RX2 yX2_findOrMake wsX2_findOrMake) := goodIn_app (goodIn_of _ (by decide +kernel)) ggX2_putSteps_X2_findOrMake
set_option maxRecDepth 20000 in
theorem ggX2_putSteps_X1_putLowsBySteps : GoodIn wsX2_putSteps wsX1_putLowsBySteps := goodIn_r _ [39, 26, 40, 23, 41, 42, 43, 21, 44, 60, 61, 62, 63] (by decide +kernel) (by decide +kernel)
set_option maxRecDepth 20000 in
theorem gX2_putSteps_X1_putLowsBySteps : GoodIn wsX2_putSteps (wsV RX2 56 RX1 yX1_putLowsBySteps wsX1_putLowsBySteps) := goodIn_app (goodIn_of _ (by decide +kernel)) ggX2_putSteps_X1_putLowsBySteps
set_option maxRecDepth 20000 in
theorem ggX2_putSteps_X2_settle : GoodIn wsX2_putSteps wsX2_settle := goodIn_r _ [48, 49, 12, 50, 51, 52, 21, 53, 26, 25, 54, 55, 56, 4, 57, 6, 7, 8, 9, 10, 11, 13, 14, 15, 16, 17, 60, 61, 62, 63, 58, 59] (by decide +kernel) (by decide +kernel)
set_option maxRecDepth 20000 in
theorem gX2_putSteps_X2_settle : GoodIn wsX2_putSteps (wsV RX2 52 RX2 yX2_settle wsX2_settle) := goodIn_app (goodIn_of _ (by decide +kernel)) ggX2_putSteps_X2_settle
theorem dX2_putSteps_0 : decode cX2_putSteps 0 = .ok (.aload_n 0, 1) := by decide +kernel
theorem dX2_putSteps_1 : decode cX2_putSteps 1 = .ok (.iload_n 1, 1) := by decide +kernel
theorem dX2_putSteps_2 : decode cX2_putSteps 2 = .ok (.invokevirtual 45, 3) := by decide +kernel
theorem dX2_putSteps_5 : decode cX2_putSteps 5 = .ok (.astore 4, 2) := by decide +kernel
theorem dX2_putSteps_7 : decode cX2_putSteps 7 = .ok (.aload 4, 2) := by decide +kernel
theorem dX2_putSteps_9 : decode cX2_putSteps 9 = .ok (.ifnonnull 6, 3) := by decide +kernel
theorem dX2_putSteps_12 : decode cX2_putSteps 12 = .ok (.bipush (-3), 2) := by decide +kernel
theorem dX2_putSteps_14 : decode cX2_putSteps 14 = .ok (.ireturn, 1) := by decide +kernel
theorem dX2_putSteps_15 : decode cX2_putSteps 15 = .ok (.aload_n 0, 1) := by decide +kernel
theorem dX2_putSteps_16 : decode cX2_putSteps 16 = .ok (.aload 4, 2) := by decide +kernel
theorem dX2_putSteps_18 : decode cX2_putSteps 18 = .ok (.aload 4, 2) := by decide +kernel
theorem dX2_putSteps_20 : decode cX2_putSteps 20 = .ok (.iload_n 2, 1) := by decide +kernel
theorem dX2_putSteps_21 : decode cX2_putSteps 21 = .ok (.iload_n 3, 1) := by decide +kernel
theorem dX2_putSteps_22 : decode cX2_putSteps 22 = .ok (.invokevirtual 56, 3) := by decide +kernel
theorem dX2_putSteps_25 : decode cX2_putSteps 25 = .ok (.invokevirtual 52, 3) := by decide +kernel
theorem dX2_putSteps_28 : decode cX2_putSteps 28 = .ok (.ireturn, 1) := by decide +kernel
set_option maxRecDepth 20000 in
theorem ggX2_settle_X1_setPlainKind : GoodIn wsX2_settle wsX1_setPlainKind := goodIn_r _ [7, 8, 9, 26, 27, 28, 29] (by decide +kernel) (by decide +kernel)
set_option maxRecDepth 20000 in
theorem gX2_settle_X1_setPlainKind : GoodIn wsX2_settle (wsV RX2 60 RX1 yX1_setPlainKind wsX1_setPlainKind) := goodIn_app (goodIn_of _ (by decide +kernel)) ggX2_settle_X1_setPlainKind
set_option maxRecDepth 20000 in
theorem ggX2_settle_X2_leaveOut : GoodIn wsX2_settle wsX2_leaveOut := goodIn_r _ [14, 15, 16, 17, 18, 19, 13, 20, 2, 21, 22, 23, 24, 25, 30, 31, 26, 27, 28, 29] (by decide +kernel) (by decide +kernel)
set_option maxRecDepth 20000 in
theorem gX2_settle_X2_leaveOut : GoodIn wsX2_settle (wsV RX2 66 RX2 yX2_leaveOut wsX2_leaveOut) := goodIn_app (goodIn_of _ (by decide +kernel)) ggX2_settle_X2_leaveOut
theorem dX2_settle_0 : decode cX2_settle 0 = .ok (.iload_n 2, 1) := by decide +kernel
theorem dX2_settle_1 : decode cX2_settle 1 = .ok (.ifCond .ne 5, 3) := by decide +kernel
theorem dX2_settle_4 : decode cX2_settle 4 = .ok (.iconst 0, 1) := by decide +kernel
theorem dX2_settle_5 : decode cX2_settle 5 = .ok (.ireturn, 1) := by decide +kernel
theorem dX2_settle_6 : decode cX2_settle 6 = .ok (.aload_n 1, 1) := by decide +kernel
theorem dX2_settle_7 : decode cX2_settle 7 = .ok (.invokevirtual 60, 3) := by decide +kernel
theorem dX2_settle_10 : decode cX2_settle 10 = .ok (.aload_n 1, 1) := by decide +kernel
theorem dX2_settle_11 : decode cX2_settle 11 = .ok (.getfield 63, 3) := by decide +kernel
theorem dX2_settle_14 : decode cX2_settle 14 = .ok (.ifCond .ne 11, 3) := by decide +kernel
theorem dX2_settle_17 : decode cX2_settle 17 = .ok (.aload_n 0, 1) := by decide +kernel
theorem dX2_settle_18 : decode cX2_settle 18 = .ok (.aload_n 1, 1) := by decide +kernel
theorem dX2_settle_19 : decode cX2_settle 19 = .ok (.getfield 26, 3) := by decide +kernel
theorem dX2_settle_22 : decode cX2_settle 22 = .ok (.invokevirtual 66, 3) := by decide +kernel
theorem dX2_settle_25 : decode cX2_settle 25 = .ok (.iconst 1, 1) := by decide +kernel
theorem dX2_settle_26 : decode cX2_settle 26 = .ok (.ireturn, 1) := by decide +kernel
set_option maxRecDepth 20000 in
theorem ggX2_becomeJoin_X2_keyAt : GoodIn wsX2_becomeJoin wsX2_keyAt := goodIn_r _ [9, 1, 3, 10, 2, 56, 57, 58, 59, 60, 61] (by decide +kernel) (by decide +kernel)
set_option maxRecDepth 20000 in
theorem gX2_becomeJoin_X2_keyAt : GoodIn wsX2_becomeJoin (wsV RX2 34 RX2 yX2_keyAt wsX2_keyAt) := goodIn_app (goodIn_of _ (by decide +kernel)) ggX2_becomeJoin_X2_keyAt
set_option maxRecDepth 20000 in
theorem ggX2_becomeJoin_X1_copyLowsOf : GoodIn wsX2_becomeJoin wsX1_copyLowsOf := goodIn_r _ [15, 16, 17, 18, 19, 20, 21, 22, 23, 24, 25, 26, 14, 27, 28, 58, 59, 60, 61] (by decide +kernel) (by decide +kernel)
set_option maxRecDepth 20000 in
theorem gX2_becomeJoin_X1_copyLowsOf : GoodIn wsX2_becomeJoin (wsV RX2 22 RX1 yX1_copyLowsOf wsX1_copyLowsOf) := goodIn_app (goodIn_of _ (by decide +kernel)) ggX2_becomeJoin_X1_copyLowsOf
set_option maxRecDepth 20000 in
theorem ggX2_becomeJoin_X1_becomeMix : GoodIn wsX2_becomeJoin wsX1_becomeMix := goodIn_r _ [32, 21, 23, 16, 22, 24, 25, 26, 14, 27, 28, 33, 34, 35, 36, 37, 38, 39, 40, 41, 42, 43, 44, 45, 46, 47, 48, 49, 50, 51, 52, 53, 54, 55, 58, 59, 60, 61] (by decide +kernel) (by decide +kernel)
set_option maxRecDepth 20000 in
theorem gX2_becomeJoin_X1_becomeMix : GoodIn wsX2_becomeJoin (wsV RX2 69 RX1 yX1_becomeMix wsX1_becomeMix) := goodIn_app (goodIn_of _ (by decide +kernel)) ggX2_becomeJoin_X1_becomeMix
theorem dX2_becomeJoin_0 : decode cX2_becomeJoin 0 = .ok (.iconst 0, 1) := by decide +kernel
theorem dX2_becomeJoin_1 : decode cX2_becomeJoin 1 = .ok (.istore 4, 2) := by decide +kernel
theorem dX2_becomeJoin_3 : decode cX2_becomeJoin 3 = .ok (.iconst 0, 1) := by decide +kernel
theorem dX2_becomeJoin_4 : decode cX2_becomeJoin 4 = .ok (.istore 5, 2) := by decide +kernel
theorem dX2_becomeJoin_6 : decode cX2_becomeJoin 6 = .ok (.aload_n 0, 1) := by decide +kernel
theorem dX2_becomeJoin_7 : decode cX2_becomeJoin 7 = .ok (.iconst 0, 1) := by decide +kernel
theorem dX2_becomeJoin_8 : decode cX2_becomeJoin 8 = .ok (.putfield 18, 3) := by decide +kernel
theorem dX2_becomeJoin_11 : decode cX2_becomeJoin 11 = .ok (.iconst 0, 1) := by decide +kernel
theorem dX2_becomeJoin_12 : decode cX2_becomeJoin 12 = .ok (.istore 6, 2) := by decide +kernel
theorem dX2_becomeJoin_14 : decode cX2_becomeJoin 14 = .ok (.iload 6, 2) := by decide +kernel
theorem dX2_becomeJoin_16 : decode cX2_becomeJoin 16 = .ok (.bipush 12, 2) := by decide +kernel
theorem dX2_becomeJoin_18 : decode cX2_becomeJoin 18 = .ok (.if_icmp .ge 201, 3) := by decide +kernel
theorem dX2_becomeJoin_21 : decode cX2_becomeJoin 21 = .ok (.aload_n 0, 1) := by decide +kernel
theorem dX2_becomeJoin_22 : decode cX2_becomeJoin 22 = .ok (.getfield 18, 3) := by decide +kernel
theorem dX2_becomeJoin_25 : decode cX2_becomeJoin 25 = .ok (.bipush 6, 2) := by decide +kernel
theorem dX2_becomeJoin_27 : decode cX2_becomeJoin 27 = .ok (.if_icmp .gt 192, 3) := by decide +kernel
theorem dX2_becomeJoin_30 : decode cX2_becomeJoin 30 = .ok (.aload_n 2, 1) := by decide +kernel
theorem dX2_becomeJoin_31 : decode cX2_becomeJoin 31 = .ok (.iload 4, 2) := by decide +kernel
theorem dX2_becomeJoin_33 : decode cX2_becomeJoin 33 = .ok (.invokevirtual 34, 3) := by decide +kernel
theorem dX2_becomeJoin_36 : decode cX2_becomeJoin 36 = .ok (.istore 7, 2) := by decide +kernel
theorem dX2_becomeJoin_38 : decode cX2_becomeJoin 38 = .ok (.aload_n 3, 1) := by decide +kernel
theorem dX2_becomeJoin_39 : decode cX2_becomeJoin 39 = .ok (.iload 5, 2) := by decide +kernel
theorem dX2_becomeJoin_41 : decode cX2_becomeJoin 41 = .ok (.invokevirtual 34, 3) := by decide +kernel
theorem dX2_becomeJoin_44 : decode cX2_becomeJoin 44 = .ok (.istore 8, 2) := by decide +kernel
theorem dX2_becomeJoin_46 : decode cX2_becomeJoin 46 = .ok (.iload 7, 2) := by decide +kernel
theorem dX2_becomeJoin_48 : decode cX2_becomeJoin 48 = .ok (.ldc 29, 2) := by decide +kernel
theorem dX2_becomeJoin_50 : decode cX2_becomeJoin 50 = .ok (.if_icmp .ne 13, 3) := by decide +kernel
theorem dX2_becomeJoin_53 : decode cX2_becomeJoin 53 = .ok (.iload 8, 2) := by decide +kernel
theorem dX2_becomeJoin_55 : decode cX2_becomeJoin 55 = .ok (.ldc 29, 2) := by decide +kernel
theorem dX2_becomeJoin_57 : decode cX2_becomeJoin 57 = .ok (.if_icmp .ne 6, 3) := by decide +kernel
theorem dX2_becomeJoin_60 : decode cX2_becomeJoin 60 = .ok (.goto 159, 3) := by decide +kernel
theorem dX2_becomeJoin_63 : decode cX2_becomeJoin 63 = .ok (.iload 7, 2) := by decide +kernel
theorem dX2_becomeJoin_65 : decode cX2_becomeJoin 65 = .ok (.iload 8, 2) := by decide +kernel
theorem dX2_becomeJoin_67 : decode cX2_becomeJoin 67 = .ok (.if_icmp .ge 39, 3) := by decide +kernel
theorem dX2_becomeJoin_70 : decode cX2_becomeJoin 70 = .ok (.iload_n 1, 1) := by decide +kernel
theorem dX2_becomeJoin_71 : decode cX2_becomeJoin 71 = .ok (.ifCond .eq 29, 3) := by decide +kernel
theorem dX2_becomeJoin_74 : decode cX2_becomeJoin 74 = .ok (.aload_n 0, 1) := by decide +kernel
theorem dX2_becomeJoin_75 : decode cX2_becomeJoin 75 = .ok (.getfield 11, 3) := by decide +kernel
theorem dX2_becomeJoin_78 : decode cX2_becomeJoin 78 = .ok (.aload_n 0, 1) := by decide +kernel
theorem dX2_becomeJoin_79 : decode cX2_becomeJoin 79 = .ok (.dup, 1) := by decide +kernel
theorem dX2_becomeJoin_80 : decode cX2_becomeJoin 80 = .ok (.getfield 18, 3) := by decide +kernel
theorem dX2_becomeJoin_83 : decode cX2_becomeJoin 83 = .ok (.dup_x1, 1) := by decide +kernel
theorem dX2_becomeJoin_84 : decode cX2_becomeJoin 84 = .ok (.iconst 1, 1) := by decide +kernel
theorem dX2_becomeJoin_85 : decode cX2_becomeJoin 85 = .ok (.iadd, 1) := by decide +kernel
theorem dX2_becomeJoin_86 : decode cX2_becomeJoin 86 = .ok (.putfield 18, 3) := by decide +kernel
theorem dX2_becomeJoin_89 : decode cX2_becomeJoin 89 = .ok (.aaload, 1) := by decide +kernel
theorem dX2_becomeJoin_90 : decode cX2_becomeJoin 90 = .ok (.aload_n 2, 1) := by decide +kernel
theorem dX2_becomeJoin_91 : decode cX2_becomeJoin 91 = .ok (.getfield 11, 3) := by decide +kernel
theorem dX2_becomeJoin_94 : decode cX2_becomeJoin 94 = .ok (.iload 4, 2) := by decide +kernel
theorem dX2_becomeJoin_96 : decode cX2_becomeJoin 96 = .ok (.aaload, 1) := by decide +kernel
theorem dX2_becomeJoin_97 : decode cX2_becomeJoin 97 = .ok (.invokevirtual 22, 3) := by decide +kernel
theorem dX2_becomeJoin_100 : decode cX2_becomeJoin 100 = .ok (.iinc 4 1, 3) := by decide +kernel
theorem dX2_becomeJoin_103 : decode cX2_becomeJoin 103 = .ok (.goto 110, 3) := by decide +kernel
theorem dX2_becomeJoin_106 : decode cX2_becomeJoin 106 = .ok (.iload 8, 2) := by decide +kernel
theorem dX2_becomeJoin_108 : decode cX2_becomeJoin 108 = .ok (.iload 7, 2) := by decide +kernel
theorem dX2_becomeJoin_110 : decode cX2_becomeJoin 110 = .ok (.if_icmp .ge 45, 3) := by decide +kernel
theorem dX2_becomeJoin_113 : decode cX2_becomeJoin 113 = .ok (.iload_n 1, 1) := by decide +kernel
theorem dX2_becomeJoin_114 : decode cX2_becomeJoin 114 = .ok (.iconst 1, 1) := by decide +kernel
theorem dX2_becomeJoin_115 : decode cX2_becomeJoin 115 = .ok (.if_icmp .eq 8, 3) := by decide +kernel
theorem dX2_becomeJoin_118 : decode cX2_becomeJoin 118 = .ok (.iload_n 1, 1) := by decide +kernel
theorem dX2_becomeJoin_119 : decode cX2_becomeJoin 119 = .ok (.iconst 2, 1) := by decide +kernel
theorem dX2_becomeJoin_120 : decode cX2_becomeJoin 120 = .ok (.if_icmp .ne 29, 3) := by decide +kernel
theorem dX2_becomeJoin_123 : decode cX2_becomeJoin 123 = .ok (.aload_n 0, 1) := by decide +kernel
theorem dX2_becomeJoin_124 : decode cX2_becomeJoin 124 = .ok (.getfield 11, 3) := by decide +kernel
theorem dX2_becomeJoin_127 : decode cX2_becomeJoin 127 = .ok (.aload_n 0, 1) := by decide +kernel
theorem dX2_becomeJoin_128 : decode cX2_becomeJoin 128 = .ok (.dup, 1) := by decide +kernel
theorem dX2_becomeJoin_129 : decode cX2_becomeJoin 129 = .ok (.getfield 18, 3) := by decide +kernel
theorem dX2_becomeJoin_132 : decode cX2_becomeJoin 132 = .ok (.dup_x1, 1) := by decide +kernel
theorem dX2_becomeJoin_133 : decode cX2_becomeJoin 133 = .ok (.iconst 1, 1) := by decide +kernel
theorem dX2_becomeJoin_134 : decode cX2_becomeJoin 134 = .ok (.iadd, 1) := by decide +kernel
theorem dX2_becomeJoin_135 : decode cX2_becomeJoin 135 = .ok (.putfield 18, 3) := by decide +kernel
theorem dX2_becomeJoin_138 : decode cX2_becomeJoin 138 = .ok (.aaload, 1) := by decide +kernel
theorem dX2_becomeJoin_139 : decode cX2_becomeJoin 139 = .ok (.aload_n 3, 1) := by decide +kernel
theorem dX2_becomeJoin_140 : decode cX2_becomeJoin 140 = .ok (.getfield 11, 3) := by decide +kernel
theorem dX2_becomeJoin_143 : decode cX2_becomeJoin 143 = .ok (.iload 5, 2) := by decide +kernel
theorem dX2_becomeJoin_145 : decode cX2_becomeJoin 145 = .ok (.aaload, 1) := by decide +kernel
theorem dX2_becomeJoin_146 : decode cX2_becomeJoin 146 = .ok (.invokevirtual 22, 3) := by decide +kernel
theorem dX2_becomeJoin_149 : decode cX2_becomeJoin 149 = .ok (.iinc 5 1, 3) := by decide +kernel
theorem dX2_becomeJoin_152 : decode cX2_becomeJoin 152 = .ok (.goto 61, 3) := by decide +kernel
theorem dX2_becomeJoin_155 : decode cX2_becomeJoin 155 = .ok (.aload_n 0, 1) := by decide +kernel
theorem dX2_becomeJoin_156 : decode cX2_becomeJoin 156 = .ok (.getfield 11, 3) := by decide +kernel
theorem dX2_becomeJoin_159 : decode cX2_becomeJoin 159 = .ok (.aload_n 0, 1) := by decide +kernel
theorem dX2_becomeJoin_160 : decode cX2_becomeJoin 160 = .ok (.getfield 18, 3) := by decide +kernel
theorem dX2_becomeJoin_163 : decode cX2_becomeJoin 163 = .ok (.aaload, 1) := by decide +kernel
theorem dX2_becomeJoin_164 : decode cX2_becomeJoin 164 = .ok (.iload_n 1, 1) := by decide +kernel
theorem dX2_becomeJoin_165 : decode cX2_becomeJoin 165 = .ok (.aload_n 2, 1) := by decide +kernel
theorem dX2_becomeJoin_166 : decode cX2_becomeJoin 166 = .ok (.getfield 11, 3) := by decide +kernel
theorem dX2_becomeJoin_169 : decode cX2_becomeJoin 169 = .ok (.iload 4, 2) := by decide +kernel
theorem dX2_becomeJoin_171 : decode cX2_becomeJoin 171 = .ok (.iinc 4 1, 3) := by decide +kernel
theorem dX2_becomeJoin_174 : decode cX2_becomeJoin 174 = .ok (.aaload, 1) := by decide +kernel
theorem dX2_becomeJoin_175 : decode cX2_becomeJoin 175 = .ok (.aload_n 3, 1) := by decide +kernel
theorem dX2_becomeJoin_176 : decode cX2_becomeJoin 176 = .ok (.getfield 11, 3) := by decide +kernel
theorem dX2_becomeJoin_179 : decode cX2_becomeJoin 179 = .ok (.iload 5, 2) := by decide +kernel
theorem dX2_becomeJoin_181 : decode cX2_becomeJoin 181 = .ok (.iinc 5 1, 3) := by decide +kernel
theorem dX2_becomeJoin_184 : decode cX2_becomeJoin 184 = .ok (.aaload, 1) := by decide +kernel
theorem dX2_becomeJoin_185 : decode cX2_becomeJoin 185 = .ok (.invokevirtual 69, 3) := by decide +kernel
theorem dX2_becomeJoin_188 : decode cX2_becomeJoin 188 = .ok (.aload_n 0, 1) := by decide +kernel
theorem dX2_becomeJoin_189 : decode cX2_becomeJoin 189 = .ok (.getfield 11, 3) := by decide +kernel
theorem dX2_becomeJoin_192 : decode cX2_becomeJoin 192 = .ok (.aload_n 0, 1) := by decide +kernel
theorem dX2_becomeJoin_193 : decode cX2_becomeJoin 193 = .ok (.getfield 18, 3) := by decide +kernel
theorem dX2_becomeJoin_196 : decode cX2_becomeJoin 196 = .ok (.aaload, 1) := by decide +kernel
theorem dX2_becomeJoin_197 : decode cX2_becomeJoin 197 = .ok (.getfield 63, 3) := by decide +kernel
theorem dX2_becomeJoin_200 : decode cX2_becomeJoin 200 = .ok (.ifCond .le 13, 3) := by decide +kernel
theorem dX2_becomeJoin_203 : decode cX2_becomeJoin 203 = .ok (.aload_n 0, 1) := by decide +kernel
theorem dX2_becomeJoin_204 : decode cX2_becomeJoin 204 = .ok (.dup, 1) := by decide +kernel
theorem dX2_becomeJoin_205 : decode cX2_becomeJoin 205 = .ok (.getfield 18, 3) := by decide +kernel
theorem dX2_becomeJoin_208 : decode cX2_becomeJoin 208 = .ok (.iconst 1, 1) := by decide +kernel
theorem dX2_becomeJoin_209 : decode cX2_becomeJoin 209 = .ok (.iadd, 1) := by decide +kernel
theorem dX2_becomeJoin_210 : decode cX2_becomeJoin 210 = .ok (.putfield 18, 3) := by decide +kernel
theorem dX2_becomeJoin_213 : decode cX2_becomeJoin 213 = .ok (.iinc 6 1, 3) := by decide +kernel
theorem dX2_becomeJoin_216 : decode cX2_becomeJoin 216 = .ok (.goto (-202), 3) := by decide +kernel
theorem dX2_becomeJoin_219 : decode cX2_becomeJoin 219 = .ok (.aload_n 0, 1) := by decide +kernel
theorem dX2_becomeJoin_220 : decode cX2_becomeJoin 220 = .ok (.getfield 18, 3) := by decide +kernel
theorem dX2_becomeJoin_223 : decode cX2_becomeJoin 223 = .ok (.bipush 6, 2) := by decide +kernel
theorem dX2_becomeJoin_225 : decode cX2_becomeJoin 225 = .ok (.if_icmp .gt 7, 3) := by decide +kernel
theorem dX2_becomeJoin_228 : decode cX2_becomeJoin 228 = .ok (.iconst 1, 1) := by decide +kernel
theorem dX2_becomeJoin_229 : decode cX2_becomeJoin 229 = .ok (.goto 4, 3) := by decide +kernel
theorem dX2_becomeJoin_232 : decode cX2_becomeJoin 232 = .ok (.iconst 0, 1) := by decide +kernel
theorem dX2_becomeJoin_233 : decode cX2_becomeJoin 233 = .ok (.ireturn, 1) := by decide +kernel
set_option maxRecDepth 20000 in
theorem ggX2_becomeAll_X2_changeSpan : GoodIn wsX2_becomeAll wsX2_changeSpan := goodIn_r _ [7, 8, 9, 10, 6, 11, 12, 13, 14, 15, 16, 1, 17, 18, 19, 20, 21, 22, 23, 24, 25, 26, 27, 28, 29, 30, 31, 32, 33, 34, 35, 36, 37, 38, 39, 40, 41, 42, 43, 44, 45, 46, 47, 48, 49, 50, 51, 52, 53, 54, 55, 56, 57, 58, 59, 60, 61, 62, 63, 64, 65, 66, 67, 68, 69, 70, 71, 72, 73, 74, 75, 76, 77, 78] (by decide +kernel) (by decide +kernel)
set_option maxRecDepth 20000 in
theorem gX2_becomeAll_X2_changeSpan : GoodIn wsX2_becomeAll (wsV RX2 74 RX2 yX2_changeSpan wsX2_changeSpan) := goodIn_app (goodIn_of _ (by decide +kernel)) ggX2_becomeAll_X2_changeSpan
theorem dX2_becomeAll_0 : decode cX2_becomeAll 0 = .ok (.aload_n 0, 1) := by decide +kernel
theorem dX2_becomeAll_1 : decode cX2_becomeAll 1 = .ok (.iconst 0, 1) := by decide +kernel
theorem dX2_becomeAll_2 : decode cX2_becomeAll 2 = .ok (.putfield 18, 3) := by decide +kernel
theorem dX2_becomeAll_5 : decode cX2_becomeAll 5 = .ok (.aload_n 0, 1) := by decide +kernel
theorem dX2_becomeAll_6 : decode cX2_becomeAll 6 = .ok (.iconst 0, 1) := by decide +kernel
theorem dX2_becomeAll_7 : decode cX2_becomeAll 7 = .ok (.iconst 0, 1) := by decide +kernel
theorem dX2_becomeAll_8 : decode cX2_becomeAll 8 = .ok (.ldc 73, 2) := by decide +kernel
theorem dX2_becomeAll_10 : decode cX2_becomeAll 10 = .ok (.iconst 0, 1) := by decide +kernel
theorem dX2_becomeAll_11 : decode cX2_becomeAll 11 = .ok (.invokevirtual 74, 3) := by decide +kernel
theorem dX2_becomeAll_14 : decode cX2_becomeAll 14 = .ok (.pop, 1) := by decide +kernel
theorem dX2_becomeAll_15 : decode cX2_becomeAll 15 = .ok (.return_, 1) := by decide +kernel
set_option maxRecDepth 20000 in
theorem ggX2_shrinkAll_X1_setSmallestKind : GoodIn wsX2_shrinkAll wsX1_setSmallestKind := goodIn_r _ [7, 8, 9, 10, 11, 12, 6, 13, 14, 15, 16, 17, 18, 19, 20, 21, 22, 23, 24, 25, 26, 29, 30, 31, 32] (by decide +kernel) (by decide +kernel)
set_option maxRecDepth 20000 in
theorem gX2_shrinkAll_X1_setSmallestKind : GoodIn wsX2_shrinkAll (wsV RX2 78 RX1 yX1_setSmallestKind wsX1_setSmallestKind) := goodIn_app (goodIn_of _ (by decide +kernel)) ggX2_shrinkAll_X1_setSmallestKind
theorem dX2_shrinkAll_0 : decode cX2_shrinkAll 0 = .ok (.iconst 0, 1) := by decide +kernel
theorem dX2_shrinkAll_1 : decode cX2_shrinkAll 1 = .ok (.istore_n 1, 1) := by decide +kernel
theorem dX2_shrinkAll_2 : decode cX2_shrinkAll 2 = .ok (.iload_n 1, 1) := by decide +kernel
theorem dX2_shrinkAll_3 : decode cX2_shrinkAll 3 = .ok (.aload_n 0, 1) := by decide +kernel
theorem dX2_shrinkAll_4 : decode cX2_shrinkAll 4 = .ok (.getfield 18, 3) := by decide +kernel
theorem dX2_shrinkAll_7 : decode cX2_shrinkAll 7 = .ok (.if_icmp .ge 18, 3) := by decide +kernel
theorem dX2_shrinkAll_10 : decode cX2_shrinkAll 10 = .ok (.aload_n 0, 1) := by decide +kernel
theorem dX2_shrinkAll_11 : decode cX2_shrinkAll 11 = .ok (.getfield 11, 3) := by decide +kernel
theorem dX2_shrinkAll_14 : decode cX2_shrinkAll 14 = .ok (.iload_n 1, 1) := by decide +kernel
theorem dX2_shrinkAll_15 : decode cX2_shrinkAll 15 = .ok (.aaload, 1) := by decide +kernel
theorem dX2_shrinkAll_16 : decode cX2_shrinkAll 16 = .ok (.invokevirtual 78, 3) := by decide +kernel
theorem dX2_shrinkAll_19 : decode cX2_shrinkAll 19 = .ok (.iinc 1 1, 3) := by decide +kernel
theorem dX2_shrinkAll_22 : decode cX2_shrinkAll 22 = .ok (.goto (-20), 3) := by decide +kernel
theorem dX2_shrinkAll_25 : decode cX2_shrinkAll 25 = .ok (.return_, 1) := by decide +kernel
theorem dX2_total_0 : decode cX2_total 0 = .ok (.iconst 0, 1) := by decide +kernel
theorem dX2_total_1 : decode cX2_total 1 = .ok (.istore_n 1, 1) := by decide +kernel
theorem dX2_total_2 : decode cX2_total 2 = .ok (.iconst 0, 1) := by decide +kernel
theorem dX2_total_3 : decode cX2_total 3 = .ok (.istore_n 2, 1) := by decide +kernel
theorem dX2_total_4 : decode cX2_total 4 = .ok (.iload_n 2, 1) := by decide +kernel
theorem dX2_total_5 : decode cX2_total 5 = .ok (.aload_n 0, 1) := by decide +kernel
theorem dX2_total_6 : decode cX2_total 6 = .ok (.getfield 18, 3) := by decide +kernel
theorem dX2_total_9 : decode cX2_total 9 = .ok (.if_icmp .ge 21, 3) := by decide +kernel
theorem dX2_total_12 : decode cX2_total 12 = .ok (.iload_n 1, 1) := by decide +kernel
theorem dX2_total_13 : decode cX2_total 13 = .ok (.aload_n 0, 1) := by decide +kernel
theorem dX2_total_14 : decode cX2_total 14 = .ok (.getfield 11, 3) := by decide +kernel
theorem dX2_total_17 : decode cX2_total 17 = .ok (.iload_n 2, 1) := by decide +kernel
theorem dX2_total_18 : decode cX2_total 18 = .ok (.aaload, 1) := by decide +kernel
theorem dX2_total_19 : decode cX2_total 19 = .ok (.getfield 63, 3) := by decide +kernel
theorem dX2_total_22 : decode cX2_total 22 = .ok (.iadd, 1) := by decide +kernel
theorem dX2_total_23 : decode cX2_total 23 = .ok (.istore_n 1, 1) := by decide +kernel
theorem dX2_total_24 : decode cX2_total 24 = .ok (.iinc 2 1, 3) := by decide +kernel
theorem dX2_total_27 : decode cX2_total 27 = .ok (.goto (-23), 3) := by decide +kernel
theorem dX2_total_30 : decode cX2_total 30 = .ok (.iload_n 1, 1) := by decide +kernel
theorem dX2_total_31 : decode cX2_total 31 = .ok (.ireturn, 1) := by decide +kernel
theorem dX2_totalOfKind_0 : decode cX2_totalOfKind 0 = .ok (.iconst 0, 1) := by decide +kernel
theorem dX2_totalOfKind_1 : decode cX2_totalOfKind 1 = .ok (.istore_n 2, 1) := by decide +kernel
theorem dX2_totalOfKind_2 : decode cX2_totalOfKind 2 = .ok (.iconst 0, 1) := by decide +kernel
theorem dX2_totalOfKind_3 : decode cX2_totalOfKind 3 = .ok (.istore_n 3, 1) := by decide +kernel
theorem dX2_totalOfKind_4 : decode cX2_totalOfKind 4 = .ok (.iload_n 3, 1) := by decide +kernel
theorem dX2_totalOfKind_5 : decode cX2_totalOfKind 5 = .ok (.aload_n 0, 1) := by decide +kernel
theorem dX2_totalOfKind_6 : decode cX2_totalOfKind 6 = .ok (.getfield 18, 3) := by decide +kernel
theorem dX2_totalOfKind_9 : decode cX2_totalOfKind 9 = .ok (.if_icmp .ge 25, 3) := by decide +kernel
theorem dX2_totalOfKind_12 : decode cX2_totalOfKind 12 = .ok (.aload_n 0, 1) := by decide +kernel
theorem dX2_totalOfKind_13 : decode cX2_totalOfKind 13 = .ok (.getfield 11, 3) := by decide +kernel
theorem dX2_totalOfKind_16 : decode cX2_totalOfKind 16 = .ok (.iload_n 3, 1) := by decide +kernel
theorem dX2_totalOfKind_17 : decode cX2_totalOfKind 17 = .ok (.aaload, 1) := by decide +kernel
theorem dX2_totalOfKind_18 : decode cX2_totalOfKind 18 = .ok (.getfield 81, 3) := by decide +kernel
theorem dX2_totalOfKind_21 : decode cX2_totalOfKind 21 = .ok (.iload_n 1, 1) := by decide +kernel
theorem dX2_totalOfKind_22 : decode cX2_totalOfKind 22 = .ok (.if_icmp .ne 6, 3) := by decide +kernel
theorem dX2_totalOfKind_25 : decode cX2_totalOfKind 25 = .ok (.iinc 2 1, 3) := by decide +kernel
theorem dX2_totalOfKind_28 : decode cX2_totalOfKind 28 = .ok (.iinc 3 1, 3) := by decide +kernel
theorem dX2_totalOfKind_31 : decode cX2_totalOfKind 31 = .ok (.goto (-27), 3) := by decide +kernel
theorem dX2_totalOfKind_34 : decode cX2_totalOfKind 34 = .ok (.iload_n 2, 1) := by decide +kernel
theorem dX2_totalOfKind_35 : decode cX2_totalOfKind 35 = .ok (.ireturn, 1) := by decide +kernel
set_option maxRecDepth 20000 in
theorem ggX2_totalUpTo_X1_lowsUpTo : GoodIn wsX2_totalUpTo wsX1_lowsUpTo := goodIn_r _ [9, 10, 11, 12, 8, 13, 14, 15, 16, 17, 18, 19, 20, 21, 24, 25, 26, 27] (by decide +kernel) (by decide +kernel)
set_option maxRecDepth 20000 in
theorem gX2_totalUpTo_X1_lowsUpTo : GoodIn wsX2_totalUpTo (wsV RX2 84 RX1 yX1_lowsUpTo wsX1_lowsUpTo) := goodIn_app (goodIn_of _ (by decide +kernel)) ggX2_totalUpTo_X1_lowsUpTo
theorem dX2_totalUpTo_0 : decode cX2_totalUpTo 0 = .ok (.iconst 0, 1) := by decide +kernel
theorem dX2_totalUpTo_1 : decode cX2_totalUpTo 1 = .ok (.istore_n 3, 1) := by decide +kernel
theorem dX2_totalUpTo_2 : decode cX2_totalUpTo 2 = .ok (.iconst 0, 1) := by decide +kernel
theorem dX2_totalUpTo_3 : decode cX2_totalUpTo 3 = .ok (.istore 4, 2) := by decide +kernel
theorem dX2_totalUpTo_5 : decode cX2_totalUpTo 5 = .ok (.iload 4, 2) := by decide +kernel
theorem dX2_totalUpTo_7 : decode cX2_totalUpTo 7 = .ok (.aload_n 0, 1) := by decide +kernel
theorem dX2_totalUpTo_8 : decode cX2_totalUpTo 8 = .ok (.getfield 18, 3) := by decide +kernel
theorem dX2_totalUpTo_11 : decode cX2_totalUpTo 11 = .ok (.if_icmp .ge 64, 3) := by decide +kernel
theorem dX2_totalUpTo_14 : decode cX2_totalUpTo 14 = .ok (.aload_n 0, 1) := by decide +kernel
theorem dX2_totalUpTo_15 : decode cX2_totalUpTo 15 = .ok (.getfield 11, 3) := by decide +kernel
theorem dX2_totalUpTo_18 : decode cX2_totalUpTo 18 = .ok (.iload 4, 2) := by decide +kernel
theorem dX2_totalUpTo_20 : decode cX2_totalUpTo 20 = .ok (.aaload, 1) := by decide +kernel
theorem dX2_totalUpTo_21 : decode cX2_totalUpTo 21 = .ok (.getfield 26, 3) := by decide +kernel
theorem dX2_totalUpTo_24 : decode cX2_totalUpTo 24 = .ok (.iload_n 1, 1) := by decide +kernel
theorem dX2_totalUpTo_25 : decode cX2_totalUpTo 25 = .ok (.if_icmp .gt 50, 3) := by decide +kernel
theorem dX2_totalUpTo_28 : decode cX2_totalUpTo 28 = .ok (.iload_n 3, 1) := by decide +kernel
theorem dX2_totalUpTo_29 : decode cX2_totalUpTo 29 = .ok (.aload_n 0, 1) := by decide +kernel
theorem dX2_totalUpTo_30 : decode cX2_totalUpTo 30 = .ok (.getfield 11, 3) := by decide +kernel
theorem dX2_totalUpTo_33 : decode cX2_totalUpTo 33 = .ok (.iload 4, 2) := by decide +kernel
theorem dX2_totalUpTo_35 : decode cX2_totalUpTo 35 = .ok (.aaload, 1) := by decide +kernel
theorem dX2_totalUpTo_36 : decode cX2_totalUpTo 36 = .ok (.getfield 26, 3) := by decide +kernel
theorem dX2_totalUpTo_39 : decode cX2_totalUpTo 39 = .ok (.iload_n 1, 1) := by decide +kernel
theorem dX2_totalUpTo_40 : decode cX2_totalUpTo 40 = .ok (.if_icmp .ge 16, 3) := by decide +kernel
theorem dX2_totalUpTo_43 : decode cX2_totalUpTo 43 = .ok (.aload_n 0, 1) := by decide +kernel
theorem dX2_totalUpTo_44 : decode cX2_totalUpTo 44 = .ok (.getfield 11, 3) := by decide +kernel
theorem dX2_totalUpTo_47 : decode cX2_totalUpTo 47 = .ok (.iload 4, 2) := by decide +kernel
theorem dX2_totalUpTo_49 : decode cX2_totalUpTo 49 = .ok (.aaload, 1) := by decide +kernel
theorem dX2_totalUpTo_50 : decode cX2_totalUpTo 50 = .ok (.getfield 63, 3) := by decide +kernel
theorem dX2_totalUpTo_53 : decode cX2_totalUpTo 53 = .ok (.goto 14, 3) := by decide +kernel
theorem dX2_totalUpTo_56 : decode cX2_totalUpTo 56 = .ok (.aload_n 0, 1) := by decide +kernel
theorem dX2_totalUpTo_57 : decode cX2_totalUpTo 57 = .ok (.getfield 11, 3) := by decide +kernel
theorem dX2_totalUpTo_60 : decode cX2_totalUpTo 60 = .ok (.iload 4, 2) := by decide +kernel
theorem dX2_totalUpTo_62 : decode cX2_totalUpTo 62 = .ok (.aaload, 1) := by decide +kernel
theorem dX2_totalUpTo_63 : decode cX2_totalUpTo 63 = .ok (.iload_n 2, 1) := by decide +kernel
theorem dX2_totalUpTo_64 : decode cX2_totalUpTo 64 = .ok (.invokevirtual 84, 3) := by decide +kernel
theorem dX2_totalUpTo_67 : decode cX2_totalUpTo 67 = .ok (.iadd, 1) := by decide +kernel
theorem dX2_totalUpTo_68 : decode cX2_totalUpTo 68 = .ok (.istore_n 3, 1) := by decide +kernel
theorem dX2_totalUpTo_69 : decode cX2_totalUpTo 69 = .ok (.iinc 4 1, 3) := by decide +kernel
theorem dX2_totalUpTo_72 : decode cX2_totalUpTo 72 = .ok (.goto (-67), 3) := by decide +kernel
theorem dX2_totalUpTo_75 : decode cX2_totalUpTo 75 = .ok (.iload_n 3, 1) := by decide +kernel
theorem dX2_totalUpTo_76 : decode cX2_totalUpTo 76 = .ok (.ireturn, 1) := by decide +kernel
set_option maxRecDepth 20000 in
theorem ggX2_numberAt_X1_lowAt : GoodIn wsX2_numberAt wsX1_lowAt := goodIn_r _ [10, 11, 12, 13, 14, 15, 16, 17, 18, 19, 20, 21, 22, 23, 24, 25, 26, 33, 34, 35, 36] (by decide +kernel) (by decide +kernel)
set_option maxRecDepth 20000 in
theorem gX2_numberAt_X1_lowAt : GoodIn wsX2_numberAt (wsV RX2 87 RX1 yX1_lowAt wsX1_lowAt) := goodIn_app (goodIn_of _ (by decide +kernel)) ggX2_numberAt_X1_lowAt
set_option maxRecDepth 20000 in
theorem ggX2_numberAt_X2_numberOf : GoodIn wsX2_numberAt wsX2_numberOf := goodIn_r _ [30] (by decide +kernel) (by decide +kernel)
set_option maxRecDepth 20000 in
theorem gX2_numberAt_X2_numberOf : GoodIn wsX2_numberAt (va_wsS RX2 90 yX2_numberOf wsX2_numberOf) := goodIn_app (goodIn_of _ (by decide +kernel)) ggX2_numberAt_X2_numberOf
theorem dX2_numberAt_0 : decode cX2_numberAt 0 = .ok (.iload_n 1, 1) := by decide +kernel
theorem dX2_numberAt_1 : decode cX2_numberAt 1 = .ok (.istore_n 2, 1) := by decide +kernel
theorem dX2_numberAt_2 : decode cX2_numberAt 2 = .ok (.iconst 0, 1) := by decide +kernel
theorem dX2_numberAt_3 : decode cX2_numberAt 3 = .ok (.istore_n 3, 1) := by decide +kernel
theorem dX2_numberAt_4 : decode cX2_numberAt 4 = .ok (.iload_n 3, 1) := by decide +kernel
theorem dX2_numberAt_5 : decode cX2_numberAt 5 = .ok (.aload_n 0, 1) := by decide +kernel
theorem dX2_numberAt_6 : decode cX2_numberAt 6 = .ok (.getfield 18, 3) := by decide +kernel
theorem dX2_numberAt_9 : decode cX2_numberAt 9 = .ok (.if_icmp .ge 57, 3) := by decide +kernel
theorem dX2_numberAt_12 : decode cX2_numberAt 12 = .ok (.iload_n 2, 1) := by decide +kernel
theorem dX2_numberAt_13 : decode cX2_numberAt 13 = .ok (.aload_n 0, 1) := by decide +kernel
theorem dX2_numberAt_14 : decode cX2_numberAt 14 = .ok (.getfield 11, 3) := by decide +kernel
theorem dX2_numberAt_17 : decode cX2_numberAt 17 = .ok (.iload_n 3, 1) := by decide +kernel
theorem dX2_numberAt_18 : decode cX2_numberAt 18 = .ok (.aaload, 1) := by decide +kernel
theorem dX2_numberAt_19 : decode cX2_numberAt 19 = .ok (.getfield 63, 3) := by decide +kernel
theorem dX2_numberAt_22 : decode cX2_numberAt 22 = .ok (.if_icmp .ge 26, 3) := by decide +kernel
theorem dX2_numberAt_25 : decode cX2_numberAt 25 = .ok (.aload_n 0, 1) := by decide +kernel
theorem dX2_numberAt_26 : decode cX2_numberAt 26 = .ok (.getfield 11, 3) := by decide +kernel
theorem dX2_numberAt_29 : decode cX2_numberAt 29 = .ok (.iload_n 3, 1) := by decide +kernel
theorem dX2_numberAt_30 : decode cX2_numberAt 30 = .ok (.aaload, 1) := by decide +kernel
theorem dX2_numberAt_31 : decode cX2_numberAt 31 = .ok (.getfield 26, 3) := by decide +kernel
theorem dX2_numberAt_34 : decode cX2_numberAt 34 = .ok (.aload_n 0, 1) := by decide +kernel
theorem dX2_numberAt_35 : decode cX2_numberAt 35 = .ok (.getfield 11, 3) := by decide +kernel
theorem dX2_numberAt_38 : decode cX2_numberAt 38 = .ok (.iload_n 3, 1) := by decide +kernel
theorem dX2_numberAt_39 : decode cX2_numberAt 39 = .ok (.aaload, 1) := by decide +kernel
theorem dX2_numberAt_40 : decode cX2_numberAt 40 = .ok (.iload_n 2, 1) := by decide +kernel
theorem dX2_numberAt_41 : decode cX2_numberAt 41 = .ok (.invokevirtual 87, 3) := by decide +kernel
theorem dX2_numberAt_44 : decode cX2_numberAt 44 = .ok (.invokestatic 90, 3) := by decide +kernel
theorem dX2_numberAt_47 : decode cX2_numberAt 47 = .ok (.lreturn, 1) := by decide +kernel
theorem dX2_numberAt_48 : decode cX2_numberAt 48 = .ok (.iload_n 2, 1) := by decide +kernel
theorem dX2_numberAt_49 : decode cX2_numberAt 49 = .ok (.aload_n 0, 1) := by decide +kernel
theorem dX2_numberAt_50 : decode cX2_numberAt 50 = .ok (.getfield 11, 3) := by decide +kernel
theorem dX2_numberAt_53 : decode cX2_numberAt 53 = .ok (.iload_n 3, 1) := by decide +kernel
theorem dX2_numberAt_54 : decode cX2_numberAt 54 = .ok (.aaload, 1) := by decide +kernel
theorem dX2_numberAt_55 : decode cX2_numberAt 55 = .ok (.getfield 63, 3) := by decide +kernel
theorem dX2_numberAt_58 : decode cX2_numberAt 58 = .ok (.isub, 1) := by decide +kernel
theorem dX2_numberAt_59 : decode cX2_numberAt 59 = .ok (.istore_n 2, 1) := by decide +kernel
theorem dX2_numberAt_60 : decode cX2_numberAt 60 = .ok (.iinc 3 1, 3) := by decide +kernel
theorem dX2_numberAt_63 : decode cX2_numberAt 63 = .ok (.goto (-59), 3) := by decide +kernel
theorem dX2_numberAt_66 : decode cX2_numberAt 66 = .ok (.ldc2_w 94, 3) := by decide +kernel
theorem dX2_numberAt_69 : decode cX2_numberAt 69 = .ok (.lreturn, 1) := by decide +kernel
set_option maxRecDepth 20000 in
theorem ggX2_firstFrom_X2_indexOf : GoodIn wsX2_firstFrom wsX2_indexOf := goodIn_r _ [10, 1, 2, 3, 35, 36, 37, 38, 39, 40] (by decide +kernel) (by decide +kernel)
set_option maxRecDepth 20000 in
theorem gX2_firstFrom_X2_indexOf : GoodIn wsX2_firstFrom (wsV RX2 30 RX2 yX2_indexOf wsX2_indexOf) := goodIn_app (goodIn_of _ (by decide +kernel)) ggX2_firstFrom_X2_indexOf
set_option maxRecDepth 20000 in
theorem ggX2_firstFrom_X1_firstIn : GoodIn wsX2_firstFrom wsX1_firstIn := goodIn_r _ [15, 16, 17, 18, 14, 19, 20, 21, 22, 23, 24, 25, 26, 27, 28, 29, 30, 31, 37, 38, 39, 40] (by decide +kernel) (by decide +kernel)
set_option maxRecDepth 20000 in
theorem gX2_firstFrom_X1_firstIn : GoodIn wsX2_firstFrom (wsV RX2 96 RX1 yX1_firstIn wsX1_firstIn) := goodIn_app (goodIn_of _ (by decide +kernel)) ggX2_firstFrom_X1_firstIn
set_option maxRecDepth 20000 in
theorem ggX2_firstFrom_X2_numberOf : GoodIn wsX2_firstFrom wsX2_numberOf := goodIn_r _ [34] (by decide +kernel) (by decide +kernel)
set_option maxRecDepth 20000 in
theorem gX2_firstFrom_X2_numberOf : GoodIn wsX2_firstFrom (va_wsS RX2 90 yX2_numberOf wsX2_numberOf) := goodIn_app (goodIn_of _ (by decide +kernel)) ggX2_firstFrom_X2_numberOf
theorem dX2_firstFrom_0 : decode cX2_firstFrom 0 = .ok (.aload_n 0, 1) := by decide +kernel
theorem dX2_firstFrom_1 : decode cX2_firstFrom 1 = .ok (.iload_n 1, 1) := by decide +kernel
theorem dX2_firstFrom_2 : decode cX2_firstFrom 2 = .ok (.invokevirtual 30, 3) := by decide +kernel
theorem dX2_firstFrom_5 : decode cX2_firstFrom 5 = .ok (.istore_n 3, 1) := by decide +kernel
theorem dX2_firstFrom_6 : decode cX2_firstFrom 6 = .ok (.iload_n 3, 1) := by decide +kernel
theorem dX2_firstFrom_7 : decode cX2_firstFrom 7 = .ok (.aload_n 0, 1) := by decide +kernel
theorem dX2_firstFrom_8 : decode cX2_firstFrom 8 = .ok (.getfield 18, 3) := by decide +kernel
theorem dX2_firstFrom_11 : decode cX2_firstFrom 11 = .ok (.if_icmp .ge 60, 3) := by decide +kernel
theorem dX2_firstFrom_14 : decode cX2_firstFrom 14 = .ok (.aload_n 0, 1) := by decide +kernel
theorem dX2_firstFrom_15 : decode cX2_firstFrom 15 = .ok (.getfield 11, 3) := by decide +kernel
theorem dX2_firstFrom_18 : decode cX2_firstFrom 18 = .ok (.iload_n 3, 1) := by decide +kernel
theorem dX2_firstFrom_19 : decode cX2_firstFrom 19 = .ok (.aaload, 1) := by decide +kernel
theorem dX2_firstFrom_20 : decode cX2_firstFrom 20 = .ok (.aload_n 0, 1) := by decide +kernel
theorem dX2_firstFrom_21 : decode cX2_firstFrom 21 = .ok (.getfield 11, 3) := by decide +kernel
theorem dX2_firstFrom_24 : decode cX2_firstFrom 24 = .ok (.iload_n 3, 1) := by decide +kernel
theorem dX2_firstFrom_25 : decode cX2_firstFrom 25 = .ok (.aaload, 1) := by decide +kernel
theorem dX2_firstFrom_26 : decode cX2_firstFrom 26 = .ok (.getfield 26, 3) := by decide +kernel
theorem dX2_firstFrom_29 : decode cX2_firstFrom 29 = .ok (.iload_n 1, 1) := by decide +kernel
theorem dX2_firstFrom_30 : decode cX2_firstFrom 30 = .ok (.if_icmp .ne 7, 3) := by decide +kernel
theorem dX2_firstFrom_33 : decode cX2_firstFrom 33 = .ok (.iload_n 2, 1) := by decide +kernel
theorem dX2_firstFrom_34 : decode cX2_firstFrom 34 = .ok (.goto 4, 3) := by decide +kernel
theorem dX2_firstFrom_37 : decode cX2_firstFrom 37 = .ok (.iconst 0, 1) := by decide +kernel
theorem dX2_firstFrom_38 : decode cX2_firstFrom 38 = .ok (.invokevirtual 96, 3) := by decide +kernel
theorem dX2_firstFrom_41 : decode cX2_firstFrom 41 = .ok (.istore 4, 2) := by decide +kernel
theorem dX2_firstFrom_43 : decode cX2_firstFrom 43 = .ok (.iload 4, 2) := by decide +kernel
theorem dX2_firstFrom_45 : decode cX2_firstFrom 45 = .ok (.ldc 29, 2) := by decide +kernel
theorem dX2_firstFrom_47 : decode cX2_firstFrom 47 = .ok (.if_icmp .eq 18, 3) := by decide +kernel
theorem dX2_firstFrom_50 : decode cX2_firstFrom 50 = .ok (.aload_n 0, 1) := by decide +kernel
theorem dX2_firstFrom_51 : decode cX2_firstFrom 51 = .ok (.getfield 11, 3) := by decide +kernel
theorem dX2_firstFrom_54 : decode cX2_firstFrom 54 = .ok (.iload_n 3, 1) := by decide +kernel
theorem dX2_firstFrom_55 : decode cX2_firstFrom 55 = .ok (.aaload, 1) := by decide +kernel
theorem dX2_firstFrom_56 : decode cX2_firstFrom 56 = .ok (.getfield 26, 3) := by decide +kernel
theorem dX2_firstFrom_59 : decode cX2_firstFrom 59 = .ok (.iload 4, 2) := by decide +kernel
theorem dX2_firstFrom_61 : decode cX2_firstFrom 61 = .ok (.invokestatic 90, 3) := by decide +kernel
theorem dX2_firstFrom_64 : decode cX2_firstFrom 64 = .ok (.lreturn, 1) := by decide +kernel
theorem dX2_firstFrom_65 : decode cX2_firstFrom 65 = .ok (.iinc 3 1, 3) := by decide +kernel
theorem dX2_firstFrom_68 : decode cX2_firstFrom 68 = .ok (.goto (-62), 3) := by decide +kernel
theorem dX2_firstFrom_71 : decode cX2_firstFrom 71 = .ok (.ldc2_w 94, 3) := by decide +kernel
theorem dX2_firstFrom_74 : decode cX2_firstFrom 74 = .ok (.lreturn, 1) := by decide +kernel
set_option maxRecDepth 20000 in
theorem ggX2_isInside_X2_find : GoodIn wsX2_isInside wsX2_find := goodIn_r _ [8, 2, 9, 10, 11, 7, 12, 1, 3, 13, 14, 15, 16, 17, 25, 26, 27, 28, 29, 30] (by decide +kernel) (by decide +kernel)
set_option maxRecDepth 20000 in
theorem gX2_isInside_X2_find : GoodIn wsX2_isInside (wsV RX2 41 RX2 yX2_find wsX2_find) := goodIn_app (goodIn_of _ (by decide +kernel)) ggX2_isInside_X2_find
set_option maxRecDepth 20000 in
theorem ggX2_isInside_X1_hasNoLowBut : GoodIn wsX2_isInside wsX1_hasNoLowBut := goodIn_r _ [22, 23, 24, 27, 28, 29, 30] (by decide +kernel) (by decide +kernel)
set_option maxRecDepth 20000 in
theorem gX2_isInside_X1_hasNoLowBut : GoodIn wsX2_isInside (wsV RX2 99 RX1 yX1_hasNoLowBut wsX1_hasNoLowBut) := goodIn_app (goodIn_of _ (by decide +kernel)) ggX2_isInside_X1_hasNoLowBut
theorem dX2_isInside_0 : decode cX2_isInside 0 = .ok (.iconst 0, 1) := by decide +kernel
theorem dX2_isInside_1 : decode cX2_isInside 1 = .ok (.istore_n 2, 1) := by decide +kernel
theorem dX2_isInside_2 : decode cX2_isInside 2 = .ok (.iload_n 2, 1) := by decide +kernel
theorem dX2_isInside_3 : decode cX2_isInside 3 = .ok (.aload_n 0, 1) := by decide +kernel
theorem dX2_isInside_4 : decode cX2_isInside 4 = .ok (.getfield 18, 3) := by decide +kernel
theorem dX2_isInside_7 : decode cX2_isInside 7 = .ok (.if_icmp .ge 42, 3) := by decide +kernel
theorem dX2_isInside_10 : decode cX2_isInside 10 = .ok (.aload_n 1, 1) := by decide +kernel
theorem dX2_isInside_11 : decode cX2_isInside 11 = .ok (.aload_n 0, 1) := by decide +kernel
theorem dX2_isInside_12 : decode cX2_isInside 12 = .ok (.getfield 11, 3) := by decide +kernel
theorem dX2_isInside_15 : decode cX2_isInside 15 = .ok (.iload_n 2, 1) := by decide +kernel
theorem dX2_isInside_16 : decode cX2_isInside 16 = .ok (.aaload, 1) := by decide +kernel
theorem dX2_isInside_17 : decode cX2_isInside 17 = .ok (.getfield 26, 3) := by decide +kernel
theorem dX2_isInside_20 : decode cX2_isInside 20 = .ok (.invokevirtual 41, 3) := by decide +kernel
theorem dX2_isInside_23 : decode cX2_isInside 23 = .ok (.astore_n 3, 1) := by decide +kernel
theorem dX2_isInside_24 : decode cX2_isInside 24 = .ok (.aload_n 3, 1) := by decide +kernel
theorem dX2_isInside_25 : decode cX2_isInside 25 = .ok (.ifnull 16, 3) := by decide +kernel
theorem dX2_isInside_28 : decode cX2_isInside 28 = .ok (.aload_n 0, 1) := by decide +kernel
theorem dX2_isInside_29 : decode cX2_isInside 29 = .ok (.getfield 11, 3) := by decide +kernel
theorem dX2_isInside_32 : decode cX2_isInside 32 = .ok (.iload_n 2, 1) := by decide +kernel
theorem dX2_isInside_33 : decode cX2_isInside 33 = .ok (.aaload, 1) := by decide +kernel
theorem dX2_isInside_34 : decode cX2_isInside 34 = .ok (.aload_n 3, 1) := by decide +kernel
theorem dX2_isInside_35 : decode cX2_isInside 35 = .ok (.invokevirtual 99, 3) := by decide +kernel
theorem dX2_isInside_38 : decode cX2_isInside 38 = .ok (.ifCond .ne 5, 3) := by decide +kernel
theorem dX2_isInside_41 : decode cX2_isInside 41 = .ok (.iconst 0, 1) := by decide +kernel
theorem dX2_isInside_42 : decode cX2_isInside 42 = .ok (.ireturn, 1) := by decide +kernel
theorem dX2_isInside_43 : decode cX2_isInside 43 = .ok (.iinc 2 1, 3) := by decide +kernel
theorem dX2_isInside_46 : decode cX2_isInside 46 = .ok (.goto (-44), 3) := by decide +kernel
theorem dX2_isInside_49 : decode cX2_isInside 49 = .ok (.iconst 1, 1) := by decide +kernel
theorem dX2_isInside_50 : decode cX2_isInside 50 = .ok (.ireturn, 1) := by decide +kernel
set_option maxRecDepth 20000 in
theorem ggX2_meets_X2_find : GoodIn wsX2_meets wsX2_find := goodIn_r _ [8, 2, 9, 10, 11, 7, 12, 1, 3, 13, 14, 15, 16, 17, 24, 25, 26, 27, 28, 29] (by decide +kernel) (by decide +kernel)
set_option maxRecDepth 20000 in
theorem gX2_meets_X2_find : GoodIn wsX2_meets (wsV RX2 41 RX2 yX2_find wsX2_find) := goodIn_app (goodIn_of _ (by decide +kernel)) ggX2_meets_X2_find
set_option maxRecDepth 20000 in
theorem ggX2_meets_X1_hasLowIn : GoodIn wsX2_meets wsX1_hasLowIn := goodIn_r _ [22, 23, 26, 27, 28, 29] (by decide +kernel) (by decide +kernel)
set_option maxRecDepth 20000 in
theorem gX2_meets_X1_hasLowIn : GoodIn wsX2_meets (wsV RX2 103 RX1 yX1_hasLowIn wsX1_hasLowIn) := goodIn_app (goodIn_of _ (by decide +kernel)) ggX2_meets_X1_hasLowIn
theorem dX2_meets_0 : decode cX2_meets 0 = .ok (.iconst 0, 1) := by decide +kernel
theorem dX2_meets_1 : decode cX2_meets 1 = .ok (.istore_n 2, 1) := by decide +kernel
theorem dX2_meets_2 : decode cX2_meets 2 = .ok (.iload_n 2, 1) := by decide +kernel
theorem dX2_meets_3 : decode cX2_meets 3 = .ok (.aload_n 0, 1) := by decide +kernel
theorem dX2_meets_4 : decode cX2_meets 4 = .ok (.getfield 18, 3) := by decide +kernel
theorem dX2_meets_7 : decode cX2_meets 7 = .ok (.if_icmp .ge 42, 3) := by decide +kernel
theorem dX2_meets_10 : decode cX2_meets 10 = .ok (.aload_n 1, 1) := by decide +kernel
theorem dX2_meets_11 : decode cX2_meets 11 = .ok (.aload_n 0, 1) := by decide +kernel
theorem dX2_meets_12 : decode cX2_meets 12 = .ok (.getfield 11, 3) := by decide +kernel
theorem dX2_meets_15 : decode cX2_meets 15 = .ok (.iload_n 2, 1) := by decide +kernel
theorem dX2_meets_16 : decode cX2_meets 16 = .ok (.aaload, 1) := by decide +kernel
theorem dX2_meets_17 : decode cX2_meets 17 = .ok (.getfield 26, 3) := by decide +kernel
theorem dX2_meets_20 : decode cX2_meets 20 = .ok (.invokevirtual 41, 3) := by decide +kernel
theorem dX2_meets_23 : decode cX2_meets 23 = .ok (.astore_n 3, 1) := by decide +kernel
theorem dX2_meets_24 : decode cX2_meets 24 = .ok (.aload_n 3, 1) := by decide +kernel
theorem dX2_meets_25 : decode cX2_meets 25 = .ok (.ifnull 18, 3) := by decide +kernel
theorem dX2_meets_28 : decode cX2_meets 28 = .ok (.aload_n 0, 1) := by decide +kernel
theorem dX2_meets_29 : decode cX2_meets 29 = .ok (.getfield 11, 3) := by decide +kernel
theorem dX2_meets_32 : decode cX2_meets 32 = .ok (.iload_n 2, 1) := by decide +kernel
theorem dX2_meets_33 : decode cX2_meets 33 = .ok (.aaload, 1) := by decide +kernel
theorem dX2_meets_34 : decode cX2_meets 34 = .ok (.aload_n 3, 1) := by decide +kernel
theorem dX2_meets_35 : decode cX2_meets 35 = .ok (.invokevirtual 103, 3) := by decide +kernel
theorem dX2_meets_38 : decode cX2_meets 38 = .ok (.ifCond .eq 5, 3) := by decide +kernel
theorem dX2_meets_41 : decode cX2_meets 41 = .ok (.iconst 1, 1) := by decide +kernel
theorem dX2_meets_42 : decode cX2_meets 42 = .ok (.ireturn, 1) := by decide +kernel
theorem dX2_meets_43 : decode cX2_meets 43 = .ok (.iinc 2 1, 3) := by decide +kernel
theorem dX2_meets_46 : decode cX2_meets 46 = .ok (.goto (-44), 3) := by decide +kernel
theorem dX2_meets_49 : decode cX2_meets 49 = .ok (.iconst 0, 1) := by decide +kernel
theorem dX2_meets_50 : decode cX2_meets 50 = .ok (.ireturn, 1) := by decide +kernel
set_option maxRecDepth 20000 in
theorem ggX2_digestSetFrom_X2_total : GoodIn wsX2_digestSetFrom wsX2_total := goodIn_r _ [8, 2, 3, 9, 32, 33, 34, 35, 36, 37] (by decide +kernel) (by decide +kernel)
set_option maxRecDepth 20000 in
theorem gX2_digestSetFrom_X2_total : GoodIn wsX2_digestSetFrom (wsV RX2 108 RX2 yX2_total wsX2_total) := goodIn_app (goodIn_of _ (by decide +kernel)) ggX2_digestSetFrom_X2_total
set_option maxRecDepth 20000 in
theorem ggX2_digestSetFrom_X1_digestFrom : GoodIn wsX2_digestSetFrom wsX1_digestFrom := goodIn_r _ [14, 15, 16, 17, 18, 19, 20, 21, 22, 13, 23, 24, 25, 26, 27, 28, 29, 30, 31, 34, 35, 36, 37] (by decide +kernel) (by decide +kernel)
set_option maxRecDepth 20000 in
theorem gX2_digestSetFrom_X1_digestFrom : GoodIn wsX2_digestSetFrom (wsV RX2 111 RX1 yX1_digestFrom wsX1_digestFrom) := goodIn_app (goodIn_of _ (by decide +kernel)) ggX2_digestSetFrom_X1_digestFrom
theorem dX2_digestSetFrom_0 : decode cX2_digestSetFrom 0 = .ok (.ldc2_w 106, 3) := by decide +kernel
theorem dX2_digestSetFrom_3 : decode cX2_digestSetFrom 3 = .ok (.lload_n 1, 1) := by decide +kernel
theorem dX2_digestSetFrom_4 : decode cX2_digestSetFrom 4 = .ok (.lmul, 1) := by decide +kernel
theorem dX2_digestSetFrom_5 : decode cX2_digestSetFrom 5 = .ok (.aload_n 0, 1) := by decide +kernel
theorem dX2_digestSetFrom_6 : decode cX2_digestSetFrom 6 = .ok (.invokevirtual 108, 3) := by decide +kernel
theorem dX2_digestSetFrom_9 : decode cX2_digestSetFrom 9 = .ok (.i2l, 1) := by decide +kernel
theorem dX2_digestSetFrom_10 : decode cX2_digestSetFrom 10 = .ok (.ladd, 1) := by decide +kernel
theorem dX2_digestSetFrom_11 : decode cX2_digestSetFrom 11 = .ok (.lstore_n 3, 1) := by decide +kernel
theorem dX2_digestSetFrom_12 : decode cX2_digestSetFrom 12 = .ok (.ldc2_w 106, 3) := by decide +kernel
theorem dX2_digestSetFrom_15 : decode cX2_digestSetFrom 15 = .ok (.lload_n 3, 1) := by decide +kernel
theorem dX2_digestSetFrom_16 : decode cX2_digestSetFrom 16 = .ok (.lmul, 1) := by decide +kernel
theorem dX2_digestSetFrom_17 : decode cX2_digestSetFrom 17 = .ok (.aload_n 0, 1) := by decide +kernel
theorem dX2_digestSetFrom_18 : decode cX2_digestSetFrom 18 = .ok (.getfield 18, 3) := by decide +kernel
theorem dX2_digestSetFrom_21 : decode cX2_digestSetFrom 21 = .ok (.i2l, 1) := by decide +kernel
theorem dX2_digestSetFrom_22 : decode cX2_digestSetFrom 22 = .ok (.ladd, 1) := by decide +kernel
theorem dX2_digestSetFrom_23 : decode cX2_digestSetFrom 23 = .ok (.lstore_n 3, 1) := by decide +kernel
theorem dX2_digestSetFrom_24 : decode cX2_digestSetFrom 24 = .ok (.iconst 0, 1) := by decide +kernel
theorem dX2_digestSetFrom_25 : decode cX2_digestSetFrom 25 = .ok (.istore 5, 2) := by decide +kernel
theorem dX2_digestSetFrom_27 : decode cX2_digestSetFrom 27 = .ok (.iload 5, 2) := by decide +kernel
theorem dX2_digestSetFrom_29 : decode cX2_digestSetFrom 29 = .ok (.aload_n 0, 1) := by decide +kernel
theorem dX2_digestSetFrom_30 : decode cX2_digestSetFrom 30 = .ok (.getfield 18, 3) := by decide +kernel
theorem dX2_digestSetFrom_33 : decode cX2_digestSetFrom 33 = .ok (.if_icmp .ge 21, 3) := by decide +kernel
theorem dX2_digestSetFrom_36 : decode cX2_digestSetFrom 36 = .ok (.aload_n 0, 1) := by decide +kernel
theorem dX2_digestSetFrom_37 : decode cX2_digestSetFrom 37 = .ok (.getfield 11, 3) := by decide +kernel
theorem dX2_digestSetFrom_40 : decode cX2_digestSetFrom 40 = .ok (.iload 5, 2) := by decide +kernel
theorem dX2_digestSetFrom_42 : decode cX2_digestSetFrom 42 = .ok (.aaload, 1) := by decide +kernel
theorem dX2_digestSetFrom_43 : decode cX2_digestSetFrom 43 = .ok (.lload_n 3, 1) := by decide +kernel
theorem dX2_digestSetFrom_44 : decode cX2_digestSetFrom 44 = .ok (.invokevirtual 111, 3) := by decide +kernel
theorem dX2_digestSetFrom_47 : decode cX2_digestSetFrom 47 = .ok (.lstore_n 3, 1) := by decide +kernel
theorem dX2_digestSetFrom_48 : decode cX2_digestSetFrom 48 = .ok (.iinc 5 1, 3) := by decide +kernel
theorem dX2_digestSetFrom_51 : decode cX2_digestSetFrom 51 = .ok (.goto (-24), 3) := by decide +kernel
theorem dX2_digestSetFrom_54 : decode cX2_digestSetFrom 54 = .ok (.lload_n 3, 1) := by decide +kernel
theorem dX2_digestSetFrom_55 : decode cX2_digestSetFrom 55 = .ok (.lreturn, 1) := by decide +kernel
theorem dX2_numberOf_0 : decode cX2_numberOf 0 = .ok (.iload_n 0, 1) := by decide +kernel
theorem dX2_numberOf_1 : decode cX2_numberOf 1 = .ok (.i2l, 1) := by decide +kernel
theorem dX2_numberOf_2 : decode cX2_numberOf 2 = .ok (.bipush 16, 2) := by decide +kernel
theorem dX2_numberOf_4 : decode cX2_numberOf 4 = .ok (.lshl, 1) := by decide +kernel
theorem dX2_numberOf_5 : decode cX2_numberOf 5 = .ok (.iload_n 1, 1) := by decide +kernel
theorem dX2_numberOf_6 : decode cX2_numberOf 6 = .ok (.i2l, 1) := by decide +kernel
theorem dX2_numberOf_7 : decode cX2_numberOf 7 = .ok (.lor, 1) := by decide +kernel
theorem dX2_numberOf_8 : decode cX2_numberOf 8 = .ok (.lreturn, 1) := by decide +kernel
set_option maxRecDepth 20000 in
theorem ggX3_init_X2_init : GoodIn wsX3_init wsX2_init := goodIn_r _ [10, 11, 2, 3, 12, 13, 14, 15, 16, 17, 18, 19, 22, 23, 24, 25, 26, 27] (by decide +kernel) (by decide +kernel)
set_option maxRecDepth 20000 in
theorem gX3_init_X2_init : GoodIn wsX3_init (wsX2_init) := ggX3_init_X2_init
theorem dX3_init_0 : decode cX3_init 0 = .ok (.aload_n 0, 1) := by decide +kernel
theorem dX3_init_1 : decode cX3_init 1 = .ok (.invokespecial 3, 3) := by decide +kernel
theorem dX3_init_4 : decode cX3_init 4 = .ok (.aload_n 0, 1) := by decide +kernel
theorem dX3_init_5 : decode cX3_init 5 = .ok (.bipush 8, 2) := by decide +kernel
theorem dX3_init_7 : decode cX3_init 7 = .ok (.anewarray 9, 3) := by decide +kernel
theorem dX3_init_10 : decode cX3_init 10 = .ok (.putfield 11, 3) := by decide +kernel
theorem dX3_init_13 : decode cX3_init 13 = .ok (.iconst 0, 1) := by decide +kernel
theorem dX3_init_14 : decode cX3_init 14 = .ok (.istore_n 1, 1) := by decide +kernel
theorem dX3_init_15 : decode cX3_init 15 = .ok (.iload_n 1, 1) := by decide +kernel
theorem dX3_init_16 : decode cX3_init 16 = .ok (.aload_n 0, 1) := by decide +kernel
theorem dX3_init_17 : decode cX3_init 17 = .ok (.getfield 11, 3) := by decide +kernel
theorem dX3_init_20 : decode cX3_init 20 = .ok (.arraylength, 1) := by decide +kernel
theorem dX3_init_21 : decode cX3_init 21 = .ok (.if_icmp .ge 22, 3) := by decide +kernel
theorem dX3_init_24 : decode cX3_init 24 = .ok (.aload_n 0, 1) := by decide +kernel
theorem dX3_init_25 : decode cX3_init 25 = .ok (.getfield 11, 3) := by decide +kernel
theorem dX3_init_28 : decode cX3_init 28 = .ok (.iload_n 1, 1) := by decide +kernel
theorem dX3_init_29 : decode cX3_init 29 = .ok (.new 9, 3) := by decide +kernel
theorem dX3_init_32 : decode cX3_init 32 = .ok (.dup, 1) := by decide +kernel
theorem dX3_init_33 : decode cX3_init 33 = .ok (.invokespecial 17, 3) := by decide +kernel
theorem dX3_init_36 : decode cX3_init 36 = .ok (.aastore, 1) := by decide +kernel
theorem dX3_init_37 : decode cX3_init 37 = .ok (.iinc 1 1, 3) := by decide +kernel
theorem dX3_init_40 : decode cX3_init 40 = .ok (.goto (-25), 3) := by decide +kernel
theorem dX3_init_43 : decode cX3_init 43 = .ok (.return_, 1) := by decide +kernel
set_option maxRecDepth 20000 in
theorem ggX3_isSound_X3_signAt : GoodIn wsX3_isSound wsX3_signAt := goodIn_r _ [4] (by decide +kernel) (by decide +kernel)
set_option maxRecDepth 20000 in
theorem gX3_isSound_X3_signAt : GoodIn wsX3_isSound (va_wsS RX3 18 yX3_signAt wsX3_signAt) := goodIn_app (goodIn_of _ (by decide +kernel)) ggX3_isSound_X3_signAt
set_option maxRecDepth 20000 in
theorem ggX3_isSound_X3_isJoin : GoodIn wsX3_isSound wsX3_isJoin := goodIn_r _ [7] (by decide +kernel) (by decide +kernel)
set_option maxRecDepth 20000 in
theorem gX3_isSound_X3_isJoin : GoodIn wsX3_isSound (va_wsS RX3 22 yX3_isJoin wsX3_isJoin) := goodIn_app (goodIn_of _ (by decide +kernel)) ggX3_isSound_X3_isJoin
theorem dX3_isSound_0 : decode cX3_isSound 0 = .ok (.iload_n 2, 1) := by decide +kernel
theorem dX3_isSound_1 : decode cX3_isSound 1 = .ok (.iconst 1, 1) := by decide +kernel
theorem dX3_isSound_2 : decode cX3_isSound 2 = .ok (.if_icmp .lt 9, 3) := by decide +kernel
theorem dX3_isSound_5 : decode cX3_isSound 5 = .ok (.iload_n 2, 1) := by decide +kernel
theorem dX3_isSound_6 : decode cX3_isSound 6 = .ok (.bipush 8, 2) := by decide +kernel
theorem dX3_isSound_8 : decode cX3_isSound 8 = .ok (.if_icmp .le 5, 3) := by decide +kernel
theorem dX3_isSound_11 : decode cX3_isSound 11 = .ok (.iconst 0, 1) := by decide +kernel
theorem dX3_isSound_12 : decode cX3_isSound 12 = .ok (.ireturn, 1) := by decide +kernel
theorem dX3_isSound_13 : decode cX3_isSound 13 = .ok (.iconst 0, 1) := by decide +kernel
theorem dX3_isSound_14 : decode cX3_isSound 14 = .ok (.istore_n 3, 1) := by decide +kernel
theorem dX3_isSound_15 : decode cX3_isSound 15 = .ok (.iconst 0, 1) := by decide +kernel
theorem dX3_isSound_16 : decode cX3_isSound 16 = .ok (.istore 4, 2) := by decide +kernel
theorem dX3_isSound_18 : decode cX3_isSound 18 = .ok (.iload 4, 2) := by decide +kernel
theorem dX3_isSound_20 : decode cX3_isSound 20 = .ok (.iload_n 2, 1) := by decide +kernel
theorem dX3_isSound_21 : decode cX3_isSound 21 = .ok (.if_icmp .ge 74, 3) := by decide +kernel
theorem dX3_isSound_24 : decode cX3_isSound 24 = .ok (.lload_n 0, 1) := by decide +kernel
theorem dX3_isSound_25 : decode cX3_isSound 25 = .ok (.iload 4, 2) := by decide +kernel
theorem dX3_isSound_27 : decode cX3_isSound 27 = .ok (.invokestatic 18, 3) := by decide +kernel
theorem dX3_isSound_30 : decode cX3_isSound 30 = .ok (.istore 5, 2) := by decide +kernel
theorem dX3_isSound_32 : decode cX3_isSound 32 = .ok (.iload 5, 2) := by decide +kernel
theorem dX3_isSound_34 : decode cX3_isSound 34 = .ok (.bipush 8, 2) := by decide +kernel
theorem dX3_isSound_36 : decode cX3_isSound 36 = .ok (.if_icmp .lt 10, 3) := by decide +kernel
theorem dX3_isSound_39 : decode cX3_isSound 39 = .ok (.iload 5, 2) := by decide +kernel
theorem dX3_isSound_41 : decode cX3_isSound 41 = .ok (.bipush 20, 2) := by decide +kernel
theorem dX3_isSound_43 : decode cX3_isSound 43 = .ok (.if_icmp .ne 9, 3) := by decide +kernel
theorem dX3_isSound_46 : decode cX3_isSound 46 = .ok (.iinc 3 1, 3) := by decide +kernel
theorem dX3_isSound_49 : decode cX3_isSound 49 = .ok (.goto 32, 3) := by decide +kernel
theorem dX3_isSound_52 : decode cX3_isSound 52 = .ok (.iload 5, 2) := by decide +kernel
theorem dX3_isSound_54 : decode cX3_isSound 54 = .ok (.invokestatic 22, 3) := by decide +kernel
theorem dX3_isSound_57 : decode cX3_isSound 57 = .ok (.ifCond .eq 14, 3) := by decide +kernel
theorem dX3_isSound_60 : decode cX3_isSound 60 = .ok (.iload_n 3, 1) := by decide +kernel
theorem dX3_isSound_61 : decode cX3_isSound 61 = .ok (.iconst 2, 1) := by decide +kernel
theorem dX3_isSound_62 : decode cX3_isSound 62 = .ok (.if_icmp .lt 9, 3) := by decide +kernel
theorem dX3_isSound_65 : decode cX3_isSound 65 = .ok (.iinc 3 (-1), 3) := by decide +kernel
theorem dX3_isSound_68 : decode cX3_isSound 68 = .ok (.goto 13, 3) := by decide +kernel
theorem dX3_isSound_71 : decode cX3_isSound 71 = .ok (.iload 5, 2) := by decide +kernel
theorem dX3_isSound_73 : decode cX3_isSound 73 = .ok (.sipush 255, 3) := by decide +kernel
theorem dX3_isSound_76 : decode cX3_isSound 76 = .ok (.if_icmp .eq 5, 3) := by decide +kernel
theorem dX3_isSound_79 : decode cX3_isSound 79 = .ok (.iconst 0, 1) := by decide +kernel
theorem dX3_isSound_80 : decode cX3_isSound 80 = .ok (.ireturn, 1) := by decide +kernel
theorem dX3_isSound_81 : decode cX3_isSound 81 = .ok (.iload_n 3, 1) := by decide +kernel
theorem dX3_isSound_82 : decode cX3_isSound 82 = .ok (.bipush 8, 2) := by decide +kernel
theorem dX3_isSound_84 : decode cX3_isSound 84 = .ok (.if_icmp .le 5, 3) := by decide +kernel
theorem dX3_isSound_87 : decode cX3_isSound 87 = .ok (.iconst 0, 1) := by decide +kernel
theorem dX3_isSound_88 : decode cX3_isSound 88 = .ok (.ireturn, 1) := by decide +kernel
theorem dX3_isSound_89 : decode cX3_isSound 89 = .ok (.iinc 4 1, 3) := by decide +kernel
theorem dX3_isSound_92 : decode cX3_isSound 92 = .ok (.goto (-74), 3) := by decide +kernel
theorem dX3_isSound_95 : decode cX3_isSound 95 = .ok (.iload_n 3, 1) := by decide +kernel
theorem dX3_isSound_96 : decode cX3_isSound 96 = .ok (.iconst 1, 1) := by decide +kernel
theorem dX3_isSound_97 : decode cX3_isSound 97 = .ok (.if_icmp .ne 7, 3) := by decide +kernel
theorem dX3_isSound_100 : decode cX3_isSound 100 = .ok (.iconst 1, 1) := by decide +kernel
theorem dX3_isSound_101 : decode cX3_isSound 101 = .ok (.goto 4, 3) := by decide +kernel
theorem dX3_isSound_104 : decode cX3_isSound 104 = .ok (.iconst 0, 1) := by decide +kernel
theorem dX3_isSound_105 : decode cX3_isSound 105 = .ok (.ireturn, 1) := by decide +kernel
set_option maxRecDepth 20000 in
theorem ggX3_evaluate_X3_signAt : GoodIn wsX3_evaluate wsX3_signAt := goodIn_r _ [6] (by decide +kernel) (by decide +kernel)
set_option maxRecDepth 20000 in
theorem gX3_evaluate_X3_signAt : GoodIn wsX3_evaluate (va_wsS RX3 18 yX3_signAt wsX3_signAt) := goodIn_app (goodIn_of _ (by decide +kernel)) ggX3_evaluate_X3_signAt
set_option maxRecDepth 20000 in
theorem ggX3_evaluate_X3_isJoin : GoodIn wsX3_evaluate wsX3_isJoin := goodIn_r _ [9] (by decide +kernel) (by decide +kernel)
set_option maxRecDepth 20000 in
theorem gX3_evaluate_X3_isJoin : GoodIn wsX3_evaluate (va_wsS RX3 22 yX3_isJoin wsX3_isJoin) := goodIn_app (goodIn_of _ (by decide +kernel)) ggX3_evaluate_X3_isJoin
set_option maxRecDepth 20000 in
theorem ggX3_evaluate_X3_joinUpperTwo : GoodIn wsX3_evaluate wsX3_joinUpperTwo := goodIn_r _ [13, 1, 2, 14, 15, 16, 17, 18, 19, 20, 21, 22, 23, 24, 25, 26, 27, 28, 29, 30, 31, 32, 33, 34, 35, 36, 37, 38, 39, 40, 41, 42, 43, 44, 45, 46, 47, 48, 49, 50, 51, 52, 53, 54, 55, 56, 57, 58, 59, 60, 61, 62, 63, 64, 65, 66, 67, 68, 69, 70, 71, 72, 73, 74, 75, 76, 126, 127, 128, 129, 130, 131, 132, 133] (by decide +kernel) (by decide +kernel)
set_option maxRecDepth 20000 in
theorem gX3_evaluate_X3_joinUpperTwo : GoodIn wsX3_evaluate (wsV RX3 30 RX3 yX3_joinUpperTwo wsX3_joinUpperTwo) := goodIn_app (goodIn_of _ (by decide +kernel)) ggX3_evaluate_X3_joinUpperTwo
set_option maxRecDepth 20000 in
theorem ggX3_evaluate_X2_becomeAll : GoodIn wsX3_evaluate wsX2_becomeAll := goodIn_r _ [80, 19, 81, 82, 83, 84, 17, 85, 86, 87, 88, 89, 21, 90, 91, 92, 93, 27, 23, 24, 25, 26, 20, 94, 95, 96, 97, 98, 99, 100, 31, 101, 33, 38, 39, 40, 41, 42, 43, 44, 45, 102, 103, 104, 105, 106, 107, 108, 109, 53, 110, 111, 112, 54, 55, 56, 57, 58, 59, 60, 113, 114, 115, 116, 22, 117, 70, 71, 72, 118, 119, 120, 121, 128, 129, 130, 131, 132, 133] (by decide +kernel) (by decide +kernel)
set_option maxRecDepth 20000 in
theorem gX3_evaluate_X2_becomeAll : GoodIn wsX3_evaluate (wsV RX3 34 RX2 yX2_becomeAll wsX2_becomeAll) := goodIn_app (goodIn_of _ (by decide +kernel)) ggX3_evaluate_X2_becomeAll
set_option maxRecDepth 20000 in
theorem ggX3_evaluate_X2_copyFrom : GoodIn wsX3_evaluate wsX2_copyFrom := goodIn_r _ [125, 19, 21, 28, 29, 30, 31, 32, 33, 34, 35, 36, 37, 38, 39, 40, 41, 42, 43, 44, 45, 128, 129, 130, 131, 132, 133] (by decide +kernel) (by decide +kernel)
set_option maxRecDepth 20000 in
theorem gX3_evaluate_X2_copyFrom : GoodIn wsX3_evaluate (wsV RX3 37 RX2 yX2_copyFrom wsX2_copyFrom) := goodIn_app (goodIn_of _ (by decide +kernel)) ggX3_evaluate_X2_copyFrom
theorem dX3_evaluate_0 : decode cX3_evaluate 0 = .ok (.aload_n 0, 1) := by decide +kernel
theorem dX3_evaluate_1 : decode cX3_evaluate 1 = .ok (.iconst 0, 1) := by decide +kernel
theorem dX3_evaluate_2 : decode cX3_evaluate 2 = .ok (.putfield 26, 3) := by decide +kernel
theorem dX3_evaluate_5 : decode cX3_evaluate 5 = .ok (.iconst 0, 1) := by decide +kernel
theorem dX3_evaluate_6 : decode cX3_evaluate 6 = .ok (.istore 6, 2) := by decide +kernel
theorem dX3_evaluate_8 : decode cX3_evaluate 8 = .ok (.iload 6, 2) := by decide +kernel
theorem dX3_evaluate_10 : decode cX3_evaluate 10 = .ok (.iload_n 3, 1) := by decide +kernel
theorem dX3_evaluate_11 : decode cX3_evaluate 11 = .ok (.if_icmp .ge 119, 3) := by decide +kernel
theorem dX3_evaluate_14 : decode cX3_evaluate 14 = .ok (.lload_n 1, 1) := by decide +kernel
theorem dX3_evaluate_15 : decode cX3_evaluate 15 = .ok (.iload 6, 2) := by decide +kernel
theorem dX3_evaluate_17 : decode cX3_evaluate 17 = .ok (.invokestatic 18, 3) := by decide +kernel
theorem dX3_evaluate_20 : decode cX3_evaluate 20 = .ok (.istore 7, 2) := by decide +kernel
theorem dX3_evaluate_22 : decode cX3_evaluate 22 = .ok (.iload 7, 2) := by decide +kernel
theorem dX3_evaluate_24 : decode cX3_evaluate 24 = .ok (.invokestatic 22, 3) := by decide +kernel
theorem dX3_evaluate_27 : decode cX3_evaluate 27 = .ok (.ifCond .eq 19, 3) := by decide +kernel
theorem dX3_evaluate_30 : decode cX3_evaluate 30 = .ok (.aload_n 0, 1) := by decide +kernel
theorem dX3_evaluate_31 : decode cX3_evaluate 31 = .ok (.iload 7, 2) := by decide +kernel
theorem dX3_evaluate_33 : decode cX3_evaluate 33 = .ok (.bipush 16, 2) := by decide +kernel
theorem dX3_evaluate_35 : decode cX3_evaluate 35 = .ok (.isub, 1) := by decide +kernel
theorem dX3_evaluate_36 : decode cX3_evaluate 36 = .ok (.aload 5, 2) := by decide +kernel
theorem dX3_evaluate_38 : decode cX3_evaluate 38 = .ok (.invokevirtual 30, 3) := by decide +kernel
theorem dX3_evaluate_41 : decode cX3_evaluate 41 = .ok (.ifCond .ne 83, 3) := by decide +kernel
theorem dX3_evaluate_44 : decode cX3_evaluate 44 = .ok (.iconst 0, 1) := by decide +kernel
theorem dX3_evaluate_45 : decode cX3_evaluate 45 = .ok (.ireturn, 1) := by decide +kernel
theorem dX3_evaluate_46 : decode cX3_evaluate 46 = .ok (.aload_n 0, 1) := by decide +kernel
theorem dX3_evaluate_47 : decode cX3_evaluate 47 = .ok (.getfield 26, 3) := by decide +kernel
theorem dX3_evaluate_50 : decode cX3_evaluate 50 = .ok (.bipush 8, 2) := by decide +kernel
theorem dX3_evaluate_52 : decode cX3_evaluate 52 = .ok (.if_icmp .ge 32, 3) := by decide +kernel
theorem dX3_evaluate_55 : decode cX3_evaluate 55 = .ok (.iload 7, 2) := by decide +kernel
theorem dX3_evaluate_57 : decode cX3_evaluate 57 = .ok (.bipush 20, 2) := by decide +kernel
theorem dX3_evaluate_59 : decode cX3_evaluate 59 = .ok (.if_icmp .ne 25, 3) := by decide +kernel
theorem dX3_evaluate_62 : decode cX3_evaluate 62 = .ok (.aload_n 0, 1) := by decide +kernel
theorem dX3_evaluate_63 : decode cX3_evaluate 63 = .ok (.getfield 11, 3) := by decide +kernel
theorem dX3_evaluate_66 : decode cX3_evaluate 66 = .ok (.aload_n 0, 1) := by decide +kernel
theorem dX3_evaluate_67 : decode cX3_evaluate 67 = .ok (.dup, 1) := by decide +kernel
theorem dX3_evaluate_68 : decode cX3_evaluate 68 = .ok (.getfield 26, 3) := by decide +kernel
theorem dX3_evaluate_71 : decode cX3_evaluate 71 = .ok (.dup_x1, 1) := by decide +kernel
theorem dX3_evaluate_72 : decode cX3_evaluate 72 = .ok (.iconst 1, 1) := by decide +kernel
theorem dX3_evaluate_73 : decode cX3_evaluate 73 = .ok (.iadd, 1) := by decide +kernel
theorem dX3_evaluate_74 : decode cX3_evaluate 74 = .ok (.putfield 26, 3) := by decide +kernel
theorem dX3_evaluate_77 : decode cX3_evaluate 77 = .ok (.aaload, 1) := by decide +kernel
theorem dX3_evaluate_78 : decode cX3_evaluate 78 = .ok (.invokevirtual 34, 3) := by decide +kernel
theorem dX3_evaluate_81 : decode cX3_evaluate 81 = .ok (.goto 43, 3) := by decide +kernel
theorem dX3_evaluate_84 : decode cX3_evaluate 84 = .ok (.aload_n 0, 1) := by decide +kernel
theorem dX3_evaluate_85 : decode cX3_evaluate 85 = .ok (.getfield 26, 3) := by decide +kernel
theorem dX3_evaluate_88 : decode cX3_evaluate 88 = .ok (.bipush 8, 2) := by decide +kernel
theorem dX3_evaluate_90 : decode cX3_evaluate 90 = .ok (.if_icmp .ge 34, 3) := by decide +kernel
theorem dX3_evaluate_93 : decode cX3_evaluate 93 = .ok (.iload 7, 2) := by decide +kernel
theorem dX3_evaluate_95 : decode cX3_evaluate 95 = .ok (.bipush 8, 2) := by decide +kernel
theorem dX3_evaluate_97 : decode cX3_evaluate 97 = .ok (.if_icmp .ge 27, 3) := by decide +kernel
theorem dX3_evaluate_100 : decode cX3_evaluate 100 = .ok (.aload_n 0, 1) := by decide +kernel
theorem dX3_evaluate_101 : decode cX3_evaluate 101 = .ok (.getfield 11, 3) := by decide +kernel
theorem dX3_evaluate_104 : decode cX3_evaluate 104 = .ok (.aload_n 0, 1) := by decide +kernel
theorem dX3_evaluate_105 : decode cX3_evaluate 105 = .ok (.dup, 1) := by decide +kernel
theorem dX3_evaluate_106 : decode cX3_evaluate 106 = .ok (.getfield 26, 3) := by decide +kernel
theorem dX3_evaluate_109 : decode cX3_evaluate 109 = .ok (.dup_x1, 1) := by decide +kernel
theorem dX3_evaluate_110 : decode cX3_evaluate 110 = .ok (.iconst 1, 1) := by decide +kernel
theorem dX3_evaluate_111 : decode cX3_evaluate 111 = .ok (.iadd, 1) := by decide +kernel
theorem dX3_evaluate_112 : decode cX3_evaluate 112 = .ok (.putfield 26, 3) := by decide +kernel
theorem dX3_evaluate_115 : decode cX3_evaluate 115 = .ok (.aaload, 1) := by decide +kernel
theorem dX3_evaluate_116 : decode cX3_evaluate 116 = .ok (.aload 4, 2) := by decide +kernel
theorem dX3_evaluate_118 : decode cX3_evaluate 118 = .ok (.iload 7, 2) := by decide +kernel
theorem dX3_evaluate_120 : decode cX3_evaluate 120 = .ok (.aaload, 1) := by decide +kernel
theorem dX3_evaluate_121 : decode cX3_evaluate 121 = .ok (.invokevirtual 37, 3) := by decide +kernel
theorem dX3_evaluate_124 : decode cX3_evaluate 124 = .ok (.iinc 6 1, 3) := by decide +kernel
theorem dX3_evaluate_127 : decode cX3_evaluate 127 = .ok (.goto (-119), 3) := by decide +kernel
theorem dX3_evaluate_130 : decode cX3_evaluate 130 = .ok (.iconst 1, 1) := by decide +kernel
theorem dX3_evaluate_131 : decode cX3_evaluate 131 = .ok (.ireturn, 1) := by decide +kernel
set_option maxRecDepth 20000 in
theorem ggX3_joinUpperTwo_X2_becomeJoin : GoodIn wsX3_joinUpperTwo wsX2_becomeJoin := goodIn_r _ [7, 8, 9, 10, 11, 12, 13, 14, 6, 15, 16, 17, 18, 19, 20, 21, 22, 23, 24, 25, 26, 27, 28, 29, 30, 31, 32, 33, 34, 35, 36, 37, 38, 39, 40, 41, 42, 43, 44, 45, 46, 47, 48, 49, 50, 51, 52, 53, 54, 55, 56, 57, 58, 59, 60, 61, 68, 69, 70, 71, 72, 73] (by decide +kernel) (by decide +kernel)
set_option maxRecDepth 20000 in
theorem gX3_joinUpperTwo_X2_becomeJoin : GoodIn wsX3_joinUpperTwo (wsV RX3 41 RX2 yX2_becomeJoin wsX2_becomeJoin) := goodIn_app (goodIn_of _ (by decide +kernel)) ggX3_joinUpperTwo_X2_becomeJoin
set_option maxRecDepth 20000 in
theorem ggX3_joinUpperTwo_X2_exchange : GoodIn wsX3_joinUpperTwo wsX2_exchange := goodIn_r _ [65, 10, 8, 68, 69] (by decide +kernel) (by decide +kernel)
set_option maxRecDepth 20000 in
theorem gX3_joinUpperTwo_X2_exchange : GoodIn wsX3_joinUpperTwo (wsV RX3 45 RX2 yX2_exchange wsX2_exchange) := goodIn_app (goodIn_of _ (by decide +kernel)) ggX3_joinUpperTwo_X2_exchange
theorem dX3_joinUpperTwo_0 : decode cX3_joinUpperTwo 0 = .ok (.aload_n 0, 1) := by decide +kernel
theorem dX3_joinUpperTwo_1 : decode cX3_joinUpperTwo 1 = .ok (.getfield 26, 3) := by decide +kernel
theorem dX3_joinUpperTwo_4 : decode cX3_joinUpperTwo 4 = .ok (.iconst 2, 1) := by decide +kernel
theorem dX3_joinUpperTwo_5 : decode cX3_joinUpperTwo 5 = .ok (.if_icmp .lt 33, 3) := by decide +kernel
theorem dX3_joinUpperTwo_8 : decode cX3_joinUpperTwo 8 = .ok (.aload_n 2, 1) := by decide +kernel
theorem dX3_joinUpperTwo_9 : decode cX3_joinUpperTwo 9 = .ok (.iload_n 1, 1) := by decide +kernel
theorem dX3_joinUpperTwo_10 : decode cX3_joinUpperTwo 10 = .ok (.aload_n 0, 1) := by decide +kernel
theorem dX3_joinUpperTwo_11 : decode cX3_joinUpperTwo 11 = .ok (.getfield 11, 3) := by decide +kernel
theorem dX3_joinUpperTwo_14 : decode cX3_joinUpperTwo 14 = .ok (.aload_n 0, 1) := by decide +kernel
theorem dX3_joinUpperTwo_15 : decode cX3_joinUpperTwo 15 = .ok (.getfield 26, 3) := by decide +kernel
theorem dX3_joinUpperTwo_18 : decode cX3_joinUpperTwo 18 = .ok (.iconst 2, 1) := by decide +kernel
theorem dX3_joinUpperTwo_19 : decode cX3_joinUpperTwo 19 = .ok (.isub, 1) := by decide +kernel
theorem dX3_joinUpperTwo_20 : decode cX3_joinUpperTwo 20 = .ok (.aaload, 1) := by decide +kernel
theorem dX3_joinUpperTwo_21 : decode cX3_joinUpperTwo 21 = .ok (.aload_n 0, 1) := by decide +kernel
theorem dX3_joinUpperTwo_22 : decode cX3_joinUpperTwo 22 = .ok (.getfield 11, 3) := by decide +kernel
theorem dX3_joinUpperTwo_25 : decode cX3_joinUpperTwo 25 = .ok (.aload_n 0, 1) := by decide +kernel
theorem dX3_joinUpperTwo_26 : decode cX3_joinUpperTwo 26 = .ok (.getfield 26, 3) := by decide +kernel
theorem dX3_joinUpperTwo_29 : decode cX3_joinUpperTwo 29 = .ok (.iconst 1, 1) := by decide +kernel
theorem dX3_joinUpperTwo_30 : decode cX3_joinUpperTwo 30 = .ok (.isub, 1) := by decide +kernel
theorem dX3_joinUpperTwo_31 : decode cX3_joinUpperTwo 31 = .ok (.aaload, 1) := by decide +kernel
theorem dX3_joinUpperTwo_32 : decode cX3_joinUpperTwo 32 = .ok (.invokevirtual 41, 3) := by decide +kernel
theorem dX3_joinUpperTwo_35 : decode cX3_joinUpperTwo 35 = .ok (.ifCond .ne 5, 3) := by decide +kernel
theorem dX3_joinUpperTwo_38 : decode cX3_joinUpperTwo 38 = .ok (.iconst 0, 1) := by decide +kernel
theorem dX3_joinUpperTwo_39 : decode cX3_joinUpperTwo 39 = .ok (.ireturn, 1) := by decide +kernel
theorem dX3_joinUpperTwo_40 : decode cX3_joinUpperTwo 40 = .ok (.aload_n 0, 1) := by decide +kernel
theorem dX3_joinUpperTwo_41 : decode cX3_joinUpperTwo 41 = .ok (.dup, 1) := by decide +kernel
theorem dX3_joinUpperTwo_42 : decode cX3_joinUpperTwo 42 = .ok (.getfield 26, 3) := by decide +kernel
theorem dX3_joinUpperTwo_45 : decode cX3_joinUpperTwo 45 = .ok (.iconst 1, 1) := by decide +kernel
theorem dX3_joinUpperTwo_46 : decode cX3_joinUpperTwo 46 = .ok (.isub, 1) := by decide +kernel
theorem dX3_joinUpperTwo_47 : decode cX3_joinUpperTwo 47 = .ok (.putfield 26, 3) := by decide +kernel
theorem dX3_joinUpperTwo_50 : decode cX3_joinUpperTwo 50 = .ok (.aload_n 0, 1) := by decide +kernel
theorem dX3_joinUpperTwo_51 : decode cX3_joinUpperTwo 51 = .ok (.getfield 11, 3) := by decide +kernel
theorem dX3_joinUpperTwo_54 : decode cX3_joinUpperTwo 54 = .ok (.aload_n 0, 1) := by decide +kernel
theorem dX3_joinUpperTwo_55 : decode cX3_joinUpperTwo 55 = .ok (.getfield 26, 3) := by decide +kernel
theorem dX3_joinUpperTwo_58 : decode cX3_joinUpperTwo 58 = .ok (.iconst 1, 1) := by decide +kernel
theorem dX3_joinUpperTwo_59 : decode cX3_joinUpperTwo 59 = .ok (.isub, 1) := by decide +kernel
theorem dX3_joinUpperTwo_60 : decode cX3_joinUpperTwo 60 = .ok (.aaload, 1) := by decide +kernel
theorem dX3_joinUpperTwo_61 : decode cX3_joinUpperTwo 61 = .ok (.aload_n 2, 1) := by decide +kernel
theorem dX3_joinUpperTwo_62 : decode cX3_joinUpperTwo 62 = .ok (.invokevirtual 45, 3) := by decide +kernel
theorem dX3_joinUpperTwo_65 : decode cX3_joinUpperTwo 65 = .ok (.iconst 1, 1) := by decide +kernel
theorem dX3_joinUpperTwo_66 : decode cX3_joinUpperTwo 66 = .ok (.ireturn, 1) := by decide +kernel
theorem dX3_signAt_0 : decode cX3_signAt 0 = .ok (.lload_n 0, 1) := by decide +kernel
theorem dX3_signAt_1 : decode cX3_signAt 1 = .ok (.bipush 8, 2) := by decide +kernel
theorem dX3_signAt_3 : decode cX3_signAt 3 = .ok (.iload_n 2, 1) := by decide +kernel
theorem dX3_signAt_4 : decode cX3_signAt 4 = .ok (.imul, 1) := by decide +kernel
theorem dX3_signAt_5 : decode cX3_signAt 5 = .ok (.lushr, 1) := by decide +kernel
theorem dX3_signAt_6 : decode cX3_signAt 6 = .ok (.l2i, 1) := by decide +kernel
theorem dX3_signAt_7 : decode cX3_signAt 7 = .ok (.sipush 255, 3) := by decide +kernel
theorem dX3_signAt_10 : decode cX3_signAt 10 = .ok (.iand, 1) := by decide +kernel
theorem dX3_signAt_11 : decode cX3_signAt 11 = .ok (.ireturn, 1) := by decide +kernel
theorem dX3_isJoin_0 : decode cX3_isJoin 0 = .ok (.iload_n 0, 1) := by decide +kernel
theorem dX3_isJoin_1 : decode cX3_isJoin 1 = .ok (.bipush 16, 2) := by decide +kernel
theorem dX3_isJoin_3 : decode cX3_isJoin 3 = .ok (.if_icmp .lt 13, 3) := by decide +kernel
theorem dX3_isJoin_6 : decode cX3_isJoin 6 = .ok (.iload_n 0, 1) := by decide +kernel
theorem dX3_isJoin_7 : decode cX3_isJoin 7 = .ok (.bipush 19, 2) := by decide +kernel
theorem dX3_isJoin_9 : decode cX3_isJoin 9 = .ok (.if_icmp .gt 7, 3) := by decide +kernel
theorem dX3_isJoin_12 : decode cX3_isJoin 12 = .ok (.iconst 1, 1) := by decide +kernel
theorem dX3_isJoin_13 : decode cX3_isJoin 13 = .ok (.goto 4, 3) := by decide +kernel
theorem dX3_isJoin_16 : decode cX3_isJoin 16 = .ok (.iconst 0, 1) := by decide +kernel
theorem dX3_isJoin_17 : decode cX3_isJoin 17 = .ok (.ireturn, 1) := by decide +kernel
end
section
theorem dX4_init_0 : decode cX4_init 0 = .ok (.aload_n 0, 1) := by decide +kernel
theorem dX4_init_1 : decode cX4_init 1 = .ok (.invokespecial 3, 3) := by decide +kernel
theorem dX4_init_4 : decode cX4_init 4 = .ok (.aload_n 0, 1) := by decide +kernel
theorem dX4_init_5 : decode cX4_init 5 = .ok (.bipush 6, 2) := by decide +kernel
theorem dX4_init_7 : decode cX4_init 7 = .ok (.newarray .int, 2) := by decide +kernel
theorem dX4_init_9 : decode cX4_init 9 = .ok (.putfield 9, 3) := by decide +kernel
theorem dX4_init_12 : decode cX4_init 12 = .ok (.aload_n 0, 1) := by decide +kernel
theorem dX4_init_13 : decode cX4_init 13 = .ok (.bipush 6, 2) := by decide +kernel
theorem dX4_init_15 : decode cX4_init 15 = .ok (.newarray .int, 2) := by decide +kernel
theorem dX4_init_17 : decode cX4_init 17 = .ok (.putfield 15, 3) := by decide +kernel
theorem dX4_init_20 : decode cX4_init 20 = .ok (.return_, 1) := by decide +kernel
set_option maxRecDepth 20000 in
theorem ggX4_takeSet_X4_takeMark : GoodIn wsX4_takeSet wsX4_takeMark := goodIn_r _ [15, 16, 17, 18, 19, 20, 21, 14, 22, 5, 3, 23, 24, 25, 26, 1, 2, 27, 28, 29, 30, 31, 32, 33, 34, 35, 36, 37, 38, 39, 40, 41, 42, 43, 44, 45, 6, 7, 46, 47, 48, 49, 8, 115, 116, 117, 118, 119, 120, 121, 122, 123, 124, 125, 126] (by decide +kernel) (by decide +kernel)
set_option maxRecDepth 20000 in
theorem gX4_takeSet_X4_takeMark : GoodIn wsX4_takeSet (wsV RX4 52 RX4 yX4_takeMark wsX4_takeMark) := goodIn_app (goodIn_of _ (by decide +kernel)) ggX4_takeSet_X4_takeMark
set_option maxRecDepth 20000 in
theorem ggX4_takeSet_X4_takeHeads : GoodIn wsX4_takeSet wsX4_takeHeads := goodIn_r _ [53, 6, 54, 3, 55, 19, 20, 21, 14, 22, 5, 23, 24, 25, 26, 1, 2, 27, 28, 29, 30, 31, 32, 33, 34, 35, 36, 37, 38, 39, 40, 115, 116, 117, 118, 119, 120, 121, 122, 123, 124, 125, 126] (by decide +kernel) (by decide +kernel)
set_option maxRecDepth 20000 in
theorem gX4_takeSet_X4_takeHeads : GoodIn wsX4_takeSet (wsV RX4 56 RX4 yX4_takeHeads wsX4_takeHeads) := goodIn_app (goodIn_of _ (by decide +kernel)) ggX4_takeSet_X4_takeHeads
set_option maxRecDepth 20000 in
theorem ggX4_takeSet_X4_takePlaces : GoodIn wsX4_takeSet wsX4_takePlaces := goodIn_r _ [59, 7, 6, 3, 9, 19, 20, 21, 14, 22, 5, 23, 24, 25, 26, 1, 2, 115, 116, 117, 118, 119, 120, 121, 122, 123, 124] (by decide +kernel) (by decide +kernel)
set_option maxRecDepth 20000 in
theorem gX4_takeSet_X4_takePlaces : GoodIn wsX4_takeSet (wsV RX4 59 RX4 yX4_takePlaces wsX4_takePlaces) := goodIn_app (goodIn_of _ (by decide +kernel)) ggX4_takeSet_X4_takePlaces
set_option maxRecDepth 20000 in
theorem ggX4_takeSet_X4_takeContainer : GoodIn wsX4_takeSet wsX4_takeContainer := goodIn_r _ [63, 9, 3, 64, 54, 10, 8, 65, 55, 31, 32, 33, 34, 35, 36, 37, 38, 39, 40, 23, 24, 25, 14, 26, 1, 2, 66, 67, 68, 69, 70, 71, 72, 73, 74, 75, 76, 77, 78, 79, 80, 81, 82, 83, 84, 85, 86, 87, 88, 89, 19, 20, 21, 22, 5, 27, 28, 29, 30, 90, 91, 92, 93, 94, 95, 96, 97, 98, 99, 100, 101, 102, 103, 104, 105, 106, 107, 108, 109, 110, 111, 112, 113, 114, 115, 116, 117, 118, 119, 120, 121, 122, 123, 124, 127, 128, 129, 130, 131, 132, 125, 126] (by decide +kernel) (by decide +kernel)
set_option maxRecDepth 20000 in
theorem gX4_takeSet_X4_takeContainer : GoodIn wsX4_takeSet (wsV RX4 63 RX4 yX4_takeContainer wsX4_takeContainer) := goodIn_app (goodIn_of _ (by decide +kernel)) ggX4_takeSet_X4_takeContainer
set_option maxRecDepth 20000 in
theorem ggX4_takeSet_X4_tellFault : GoodIn wsX4_takeSet wsX4_tellFault := goodIn_r _ [26, 1, 2, 115, 116, 117, 118, 119, 120, 121, 122, 123, 124] (by decide +kernel) (by decide +kernel)
set_option maxRecDepth 20000 in
theorem gX4_takeSet_X4_tellFault : GoodIn wsX4_takeSet (wsV RX4 67 RX4 yX4_tellFault wsX4_tellFault) := goodIn_app (goodIn_of _ (by decide +kernel)) ggX4_takeSet_X4_tellFault
theorem dX4_takeSet_0 : decode cX4_takeSet 0 = .ok (.aload_n 0, 1) := by decide +kernel
theorem dX4_takeSet_1 : decode cX4_takeSet 1 = .ok (.iconst 0, 1) := by decide +kernel
theorem dX4_takeSet_2 : decode cX4_takeSet 2 = .ok (.putfield 18, 3) := by decide +kernel
theorem dX4_takeSet_5 : decode cX4_takeSet 5 = .ok (.aload_n 0, 1) := by decide +kernel
theorem dX4_takeSet_6 : decode cX4_takeSet 6 = .ok (.iconst 0, 1) := by decide +kernel
theorem dX4_takeSet_7 : decode cX4_takeSet 7 = .ok (.putfield 22, 3) := by decide +kernel
theorem dX4_takeSet_10 : decode cX4_takeSet 10 = .ok (.aload_n 0, 1) := by decide +kernel
theorem dX4_takeSet_11 : decode cX4_takeSet 11 = .ok (.iconst 0, 1) := by decide +kernel
theorem dX4_takeSet_12 : decode cX4_takeSet 12 = .ok (.putfield 25, 3) := by decide +kernel
theorem dX4_takeSet_15 : decode cX4_takeSet 15 = .ok (.aload_n 0, 1) := by decide +kernel
theorem dX4_takeSet_16 : decode cX4_takeSet 16 = .ok (.aload_n 1, 1) := by decide +kernel
theorem dX4_takeSet_17 : decode cX4_takeSet 17 = .ok (.getfield 28, 3) := by decide +kernel
theorem dX4_takeSet_20 : decode cX4_takeSet 20 = .ok (.putfield 33, 3) := by decide +kernel
theorem dX4_takeSet_23 : decode cX4_takeSet 23 = .ok (.aload_n 0, 1) := by decide +kernel
theorem dX4_takeSet_24 : decode cX4_takeSet 24 = .ok (.iconst 0, 1) := by decide +kernel
theorem dX4_takeSet_25 : decode cX4_takeSet 25 = .ok (.putfield 36, 3) := by decide +kernel
theorem dX4_takeSet_28 : decode cX4_takeSet 28 = .ok (.aload_n 0, 1) := by decide +kernel
theorem dX4_takeSet_29 : decode cX4_takeSet 29 = .ok (.iconst 0, 1) := by decide +kernel
theorem dX4_takeSet_30 : decode cX4_takeSet 30 = .ok (.putfield 39, 3) := by decide +kernel
theorem dX4_takeSet_33 : decode cX4_takeSet 33 = .ok (.aload_n 0, 1) := by decide +kernel
theorem dX4_takeSet_34 : decode cX4_takeSet 34 = .ok (.iconst 0, 1) := by decide +kernel
theorem dX4_takeSet_35 : decode cX4_takeSet 35 = .ok (.putfield 43, 3) := by decide +kernel
theorem dX4_takeSet_38 : decode cX4_takeSet 38 = .ok (.aload_n 0, 1) := by decide +kernel
theorem dX4_takeSet_39 : decode cX4_takeSet 39 = .ok (.iconst (-1), 1) := by decide +kernel
theorem dX4_takeSet_40 : decode cX4_takeSet 40 = .ok (.putfield 46, 3) := by decide +kernel
theorem dX4_takeSet_43 : decode cX4_takeSet 43 = .ok (.aload_n 2, 1) := by decide +kernel
theorem dX4_takeSet_44 : decode cX4_takeSet 44 = .ok (.iconst 0, 1) := by decide +kernel
theorem dX4_takeSet_45 : decode cX4_takeSet 45 = .ok (.putfield 49, 3) := by decide +kernel
theorem dX4_takeSet_48 : decode cX4_takeSet 48 = .ok (.aload_n 0, 1) := by decide +kernel
theorem dX4_takeSet_49 : decode cX4_takeSet 49 = .ok (.aload_n 1, 1) := by decide +kernel
theorem dX4_takeSet_50 : decode cX4_takeSet 50 = .ok (.invokevirtual 52, 3) := by decide +kernel
theorem dX4_takeSet_53 : decode cX4_takeSet 53 = .ok (.ifCond .eq 18, 3) := by decide +kernel
theorem dX4_takeSet_56 : decode cX4_takeSet 56 = .ok (.aload_n 0, 1) := by decide +kernel
theorem dX4_takeSet_57 : decode cX4_takeSet 57 = .ok (.aload_n 1, 1) := by decide +kernel
theorem dX4_takeSet_58 : decode cX4_takeSet 58 = .ok (.invokevirtual 56, 3) := by decide +kernel
theorem dX4_takeSet_61 : decode cX4_takeSet 61 = .ok (.ifCond .eq 10, 3) := by decide +kernel
theorem dX4_takeSet_64 : decode cX4_takeSet 64 = .ok (.aload_n 0, 1) := by decide +kernel
theorem dX4_takeSet_65 : decode cX4_takeSet 65 = .ok (.invokevirtual 59, 3) := by decide +kernel
theorem dX4_takeSet_68 : decode cX4_takeSet 68 = .ok (.ifCond .ne 5, 3) := by decide +kernel
theorem dX4_takeSet_71 : decode cX4_takeSet 71 = .ok (.iconst 0, 1) := by decide +kernel
theorem dX4_takeSet_72 : decode cX4_takeSet 72 = .ok (.ireturn, 1) := by decide +kernel
theorem dX4_takeSet_73 : decode cX4_takeSet 73 = .ok (.iconst 0, 1) := by decide +kernel
theorem dX4_takeSet_74 : decode cX4_takeSet 74 = .ok (.istore_n 3, 1) := by decide +kernel
theorem dX4_takeSet_75 : decode cX4_takeSet 75 = .ok (.iload_n 3, 1) := by decide +kernel
theorem dX4_takeSet_76 : decode cX4_takeSet 76 = .ok (.aload_n 0, 1) := by decide +kernel
theorem dX4_takeSet_77 : decode cX4_takeSet 77 = .ok (.getfield 36, 3) := by decide +kernel
theorem dX4_takeSet_80 : decode cX4_takeSet 80 = .ok (.if_icmp .ge 21, 3) := by decide +kernel
theorem dX4_takeSet_83 : decode cX4_takeSet 83 = .ok (.aload_n 0, 1) := by decide +kernel
theorem dX4_takeSet_84 : decode cX4_takeSet 84 = .ok (.aload_n 1, 1) := by decide +kernel
theorem dX4_takeSet_85 : decode cX4_takeSet 85 = .ok (.aload_n 2, 1) := by decide +kernel
theorem dX4_takeSet_86 : decode cX4_takeSet 86 = .ok (.iload_n 3, 1) := by decide +kernel
theorem dX4_takeSet_87 : decode cX4_takeSet 87 = .ok (.invokevirtual 63, 3) := by decide +kernel
theorem dX4_takeSet_90 : decode cX4_takeSet 90 = .ok (.ifCond .ne 5, 3) := by decide +kernel
theorem dX4_takeSet_93 : decode cX4_takeSet 93 = .ok (.iconst 0, 1) := by decide +kernel
theorem dX4_takeSet_94 : decode cX4_takeSet 94 = .ok (.ireturn, 1) := by decide +kernel
theorem dX4_takeSet_95 : decode cX4_takeSet 95 = .ok (.iinc 3 1, 3) := by decide +kernel
theorem dX4_takeSet_98 : decode cX4_takeSet 98 = .ok (.goto (-23), 3) := by decide +kernel
theorem dX4_takeSet_101 : decode cX4_takeSet 101 = .ok (.aload_n 0, 1) := by decide +kernel
theorem dX4_takeSet_102 : decode cX4_takeSet 102 = .ok (.getfield 25, 3) := by decide +kernel
theorem dX4_takeSet_105 : decode cX4_takeSet 105 = .ok (.aload_n 0, 1) := by decide +kernel
theorem dX4_takeSet_106 : decode cX4_takeSet 106 = .ok (.getfield 33, 3) := by decide +kernel
theorem dX4_takeSet_109 : decode cX4_takeSet 109 = .ok (.if_icmp .eq 16, 3) := by decide +kernel
theorem dX4_takeSet_112 : decode cX4_takeSet 112 = .ok (.aload_n 0, 1) := by decide +kernel
theorem dX4_takeSet_113 : decode cX4_takeSet 113 = .ok (.bipush 9, 2) := by decide +kernel
theorem dX4_takeSet_115 : decode cX4_takeSet 115 = .ok (.aload_n 0, 1) := by decide +kernel
theorem dX4_takeSet_116 : decode cX4_takeSet 116 = .ok (.getfield 25, 3) := by decide +kernel
theorem dX4_takeSet_119 : decode cX4_takeSet 119 = .ok (.invokevirtual 67, 3) := by decide +kernel
theorem dX4_takeSet_122 : decode cX4_takeSet 122 = .ok (.ifCond .eq 7, 3) := by decide +kernel
theorem dX4_takeSet_125 : decode cX4_takeSet 125 = .ok (.iconst 1, 1) := by decide +kernel
theorem dX4_takeSet_126 : decode cX4_takeSet 126 = .ok (.goto 4, 3) := by decide +kernel
theorem dX4_takeSet_129 : decode cX4_takeSet 129 = .ok (.iconst 0, 1) := by decide +kernel
theorem dX4_takeSet_130 : decode cX4_takeSet 130 = .ok (.ireturn, 1) := by decide +kernel
theorem dX4_tellFault_0 : decode cX4_tellFault 0 = .ok (.aload_n 0, 1) := by decide +kernel
theorem dX4_tellFault_1 : decode cX4_tellFault 1 = .ok (.iload_n 1, 1) := by decide +kernel
theorem dX4_tellFault_2 : decode cX4_tellFault 2 = .ok (.putfield 18, 3) := by decide +kernel
theorem dX4_tellFault_5 : decode cX4_tellFault 5 = .ok (.aload_n 0, 1) := by decide +kernel
theorem dX4_tellFault_6 : decode cX4_tellFault 6 = .ok (.iload_n 2, 1) := by decide +kernel
theorem dX4_tellFault_7 : decode cX4_tellFault 7 = .ok (.putfield 22, 3) := by decide +kernel
theorem dX4_tellFault_10 : decode cX4_tellFault 10 = .ok (.iconst 0, 1) := by decide +kernel
theorem dX4_tellFault_11 : decode cX4_tellFault 11 = .ok (.ireturn, 1) := by decide +kernel
set_option maxRecDepth 20000 in
theorem ggX4_isThere_X4_tellFault : GoodIn wsX4_isThere wsX4_tellFault := goodIn_r _ [7, 8, 9, 10, 11, 12, 13, 14, 15, 16, 17, 18, 19] (by decide +kernel) (by decide +kernel)
set_option maxRecDepth 20000 in
theorem gX4_isThere_X4_tellFault : GoodIn wsX4_isThere (wsV RX4 67 RX4 yX4_tellFault wsX4_tellFault) := goodIn_app (goodIn_of _ (by decide +kernel)) ggX4_isThere_X4_tellFault
theorem dX4_isThere_0 : decode cX4_isThere 0 = .ok (.aload_n 0, 1) := by decide +kernel
theorem dX4_isThere_1 : decode cX4_isThere 1 = .ok (.getfield 33, 3) := by decide +kernel
theorem dX4_isThere_4 : decode cX4_isThere 4 = .ok (.aload_n 0, 1) := by decide +kernel
theorem dX4_isThere_5 : decode cX4_isThere 5 = .ok (.getfield 25, 3) := by decide +kernel
theorem dX4_isThere_8 : decode cX4_isThere 8 = .ok (.isub, 1) := by decide +kernel
theorem dX4_isThere_9 : decode cX4_isThere 9 = .ok (.iload_n 1, 1) := by decide +kernel
theorem dX4_isThere_10 : decode cX4_isThere 10 = .ok (.if_icmp .ge 15, 3) := by decide +kernel
theorem dX4_isThere_13 : decode cX4_isThere 13 = .ok (.aload_n 0, 1) := by decide +kernel
theorem dX4_isThere_14 : decode cX4_isThere 14 = .ok (.iconst 1, 1) := by decide +kernel
theorem dX4_isThere_15 : decode cX4_isThere 15 = .ok (.aload_n 0, 1) := by decide +kernel
theorem dX4_isThere_16 : decode cX4_isThere 16 = .ok (.getfield 33, 3) := by decide +kernel
theorem dX4_isThere_19 : decode cX4_isThere 19 = .ok (.invokevirtual 67, 3) := by decide +kernel
theorem dX4_isThere_22 : decode cX4_isThere 22 = .ok (.ifCond .eq 7, 3) := by decide +kernel
theorem dX4_isThere_25 : decode cX4_isThere 25 = .ok (.iconst 1, 1) := by decide +kernel
theorem dX4_isThere_26 : decode cX4_isThere 26 = .ok (.goto 4, 3) := by decide +kernel
theorem dX4_isThere_29 : decode cX4_isThere 29 = .ok (.iconst 0, 1) := by decide +kernel
theorem dX4_isThere_30 : decode cX4_isThere 30 = .ok (.ireturn, 1) := by decide +kernel
set_option maxRecDepth 20000 in
theorem ggX4_take_X0_numberAt : GoodIn wsX4_take wsX0_numberAt := goodIn_r _ [6, 7, 8, 9, 5, 10, 11, 22, 23] (by decide +kernel) (by decide +kernel)
set_option maxRecDepth 20000 in
theorem gX4_take_X0_numberAt : GoodIn wsX4_take (wsV RX4 71 RX0 yX0_numberAt wsX0_numberAt) := goodIn_app (goodIn_of _ (by decide +kernel)) ggX4_take_X0_numberAt
theorem dX4_take_0 : decode cX4_take 0 = .ok (.aload_n 1, 1) := by decide +kernel
theorem dX4_take_1 : decode cX4_take 1 = .ok (.aload_n 0, 1) := by decide +kernel
theorem dX4_take_2 : decode cX4_take 2 = .ok (.getfield 25, 3) := by decide +kernel
theorem dX4_take_5 : decode cX4_take 5 = .ok (.iload_n 2, 1) := by decide +kernel
theorem dX4_take_6 : decode cX4_take 6 = .ok (.invokevirtual 71, 3) := by decide +kernel
theorem dX4_take_9 : decode cX4_take 9 = .ok (.lstore_n 3, 1) := by decide +kernel
theorem dX4_take_10 : decode cX4_take 10 = .ok (.aload_n 0, 1) := by decide +kernel
theorem dX4_take_11 : decode cX4_take 11 = .ok (.dup, 1) := by decide +kernel
theorem dX4_take_12 : decode cX4_take 12 = .ok (.getfield 25, 3) := by decide +kernel
theorem dX4_take_15 : decode cX4_take 15 = .ok (.iload_n 2, 1) := by decide +kernel
theorem dX4_take_16 : decode cX4_take 16 = .ok (.iadd, 1) := by decide +kernel
theorem dX4_take_17 : decode cX4_take 17 = .ok (.putfield 25, 3) := by decide +kernel
theorem dX4_take_20 : decode cX4_take 20 = .ok (.lload_n 3, 1) := by decide +kernel
theorem dX4_take_21 : decode cX4_take 21 = .ok (.lreturn, 1) := by decide +kernel
set_option maxRecDepth 20000 in
theorem ggX4_takeMark_X4_isThere : GoodIn wsX4_takeMark wsX4_isThere := goodIn_r _ [8, 9, 10, 11, 12, 13, 7, 14, 15, 16, 43, 44, 45, 46, 47, 48, 49, 50, 51, 52] (by decide +kernel) (by decide +kernel)
set_option maxRecDepth 20000 in
theorem gX4_takeMark_X4_isThere : GoodIn wsX4_takeMark (wsV RX4 75 RX4 yX4_isThere wsX4_isThere) := goodIn_app (goodIn_of _ (by decide +kernel)) ggX4_takeMark_X4_isThere
set_option maxRecDepth 20000 in
theorem ggX4_takeMark_X4_take : GoodIn wsX4_takeMark wsX4_take := goodIn_r _ [20, 10, 21, 22, 23, 24, 25, 26, 27, 28, 29, 30, 43, 44, 45, 46, 47, 48, 49, 50, 51, 52, 53, 54] (by decide +kernel) (by decide +kernel)
set_option maxRecDepth 20000 in
theorem gX4_takeMark_X4_take : GoodIn wsX4_takeMark (wsV RX4 79 RX4 yX4_take wsX4_take) := goodIn_app (goodIn_of _ (by decide +kernel)) ggX4_takeMark_X4_take
set_option maxRecDepth 20000 in
theorem ggX4_takeMark_X4_takePlainTotal : GoodIn wsX4_takeMark wsX4_takePlainTotal := goodIn_r _ [34, 35, 36, 37, 4, 5, 6, 7, 8, 9, 10, 11, 12, 13, 14, 15, 16, 17, 18, 19, 20, 21, 22, 23, 24, 25, 26, 27, 28, 29, 30, 43, 44, 45, 46, 47, 48, 49, 50, 51, 52, 53, 54] (by decide +kernel) (by decide +kernel)
set_option maxRecDepth 20000 in
theorem gX4_takeMark_X4_takePlainTotal : GoodIn wsX4_takeMark (wsV RX4 85 RX4 yX4_takePlainTotal wsX4_takePlainTotal) := goodIn_app (goodIn_of _ (by decide +kernel)) ggX4_takeMark_X4_takePlainTotal
set_option maxRecDepth 20000 in
theorem ggX4_takeMark_X4_tellFault : GoodIn wsX4_takeMark wsX4_tellFault := goodIn_r _ [14, 15, 16, 43, 44, 45, 46, 47, 48, 49, 50, 51, 52] (by decide +kernel) (by decide +kernel)
set_option maxRecDepth 20000 in
theorem gX4_takeMark_X4_tellFault : GoodIn wsX4_takeMark (wsV RX4 67 RX4 yX4_tellFault wsX4_tellFault) := goodIn_app (goodIn_of _ (by decide +kernel)) ggX4_takeMark_X4_tellFault
set_option maxRecDepth 20000 in
theorem ggX4_takeMark_X4_takeRunBits : GoodIn wsX4_takeMark wsX4_takeRunBits := goodIn_r _ [41, 36, 42, 10, 11, 12, 13, 7, 14, 15, 16, 4, 5, 6, 8, 9, 17, 18, 19, 20, 21, 22, 23, 24, 25, 26, 27, 28, 29, 30, 43, 44, 45, 46, 47, 48, 49, 50, 51, 52, 53, 54] (by decide +kernel) (by decide +kernel)
set_option maxRecDepth 20000 in
theorem gX4_takeMark_X4_takeRunBits : GoodIn wsX4_takeMark (wsV RX4 92 RX4 yX4_takeRunBits wsX4_takeRunBits) := goodIn_app (goodIn_of _ (by decide +kernel)) ggX4_takeMark_X4_takeRunBits
theorem dX4_takeMark_0 : decode cX4_takeMark 0 = .ok (.aload_n 0, 1) := by decide +kernel
theorem dX4_takeMark_1 : decode cX4_takeMark 1 = .ok (.iconst 4, 1) := by decide +kernel
theorem dX4_takeMark_2 : decode cX4_takeMark 2 = .ok (.invokevirtual 75, 3) := by decide +kernel
theorem dX4_takeMark_5 : decode cX4_takeMark 5 = .ok (.ifCond .ne 5, 3) := by decide +kernel
theorem dX4_takeMark_8 : decode cX4_takeMark 8 = .ok (.iconst 0, 1) := by decide +kernel
theorem dX4_takeMark_9 : decode cX4_takeMark 9 = .ok (.ireturn, 1) := by decide +kernel
theorem dX4_takeMark_10 : decode cX4_takeMark 10 = .ok (.aload_n 0, 1) := by decide +kernel
theorem dX4_takeMark_11 : decode cX4_takeMark 11 = .ok (.aload_n 1, 1) := by decide +kernel
theorem dX4_takeMark_12 : decode cX4_takeMark 12 = .ok (.iconst 4, 1) := by decide +kernel
theorem dX4_takeMark_13 : decode cX4_takeMark 13 = .ok (.invokevirtual 79, 3) := by decide +kernel
theorem dX4_takeMark_16 : decode cX4_takeMark 16 = .ok (.lstore_n 2, 1) := by decide +kernel
theorem dX4_takeMark_17 : decode cX4_takeMark 17 = .ok (.lload_n 2, 1) := by decide +kernel
theorem dX4_takeMark_18 : decode cX4_takeMark 18 = .ok (.ldc2_w 83, 3) := by decide +kernel
theorem dX4_takeMark_21 : decode cX4_takeMark 21 = .ok (.lcmp, 1) := by decide +kernel
theorem dX4_takeMark_22 : decode cX4_takeMark 22 = .ok (.ifCond .ne 9, 3) := by decide +kernel
theorem dX4_takeMark_25 : decode cX4_takeMark 25 = .ok (.aload_n 0, 1) := by decide +kernel
theorem dX4_takeMark_26 : decode cX4_takeMark 26 = .ok (.aload_n 1, 1) := by decide +kernel
theorem dX4_takeMark_27 : decode cX4_takeMark 27 = .ok (.invokevirtual 85, 3) := by decide +kernel
theorem dX4_takeMark_30 : decode cX4_takeMark 30 = .ok (.ireturn, 1) := by decide +kernel
theorem dX4_takeMark_31 : decode cX4_takeMark 31 = .ok (.lload_n 2, 1) := by decide +kernel
theorem dX4_takeMark_32 : decode cX4_takeMark 32 = .ok (.ldc2_w 88, 3) := by decide +kernel
theorem dX4_takeMark_35 : decode cX4_takeMark 35 = .ok (.land, 1) := by decide +kernel
theorem dX4_takeMark_36 : decode cX4_takeMark 36 = .ok (.ldc2_w 90, 3) := by decide +kernel
theorem dX4_takeMark_39 : decode cX4_takeMark 39 = .ok (.lcmp, 1) := by decide +kernel
theorem dX4_takeMark_40 : decode cX4_takeMark 40 = .ok (.ifCond .eq 10, 3) := by decide +kernel
theorem dX4_takeMark_43 : decode cX4_takeMark 43 = .ok (.aload_n 0, 1) := by decide +kernel
theorem dX4_takeMark_44 : decode cX4_takeMark 44 = .ok (.iconst 2, 1) := by decide +kernel
theorem dX4_takeMark_45 : decode cX4_takeMark 45 = .ok (.iconst 0, 1) := by decide +kernel
theorem dX4_takeMark_46 : decode cX4_takeMark 46 = .ok (.invokevirtual 67, 3) := by decide +kernel
theorem dX4_takeMark_49 : decode cX4_takeMark 49 = .ok (.ireturn, 1) := by decide +kernel
theorem dX4_takeMark_50 : decode cX4_takeMark 50 = .ok (.aload_n 0, 1) := by decide +kernel
theorem dX4_takeMark_51 : decode cX4_takeMark 51 = .ok (.aload_n 1, 1) := by decide +kernel
theorem dX4_takeMark_52 : decode cX4_takeMark 52 = .ok (.lload_n 2, 1) := by decide +kernel
theorem dX4_takeMark_53 : decode cX4_takeMark 53 = .ok (.bipush 16, 2) := by decide +kernel
theorem dX4_takeMark_55 : decode cX4_takeMark 55 = .ok (.lushr, 1) := by decide +kernel
theorem dX4_takeMark_56 : decode cX4_takeMark 56 = .ok (.l2i, 1) := by decide +kernel
theorem dX4_takeMark_57 : decode cX4_takeMark 57 = .ok (.iconst 1, 1) := by decide +kernel
theorem dX4_takeMark_58 : decode cX4_takeMark 58 = .ok (.iadd, 1) := by decide +kernel
theorem dX4_takeMark_59 : decode cX4_takeMark 59 = .ok (.invokevirtual 92, 3) := by decide +kernel
theorem dX4_takeMark_62 : decode cX4_takeMark 62 = .ok (.ireturn, 1) := by decide +kernel
set_option maxRecDepth 20000 in
theorem ggX4_takePlainTotal_X4_isThere : GoodIn wsX4_takePlainTotal wsX4_isThere := goodIn_r _ [8, 9, 10, 11, 12, 13, 7, 14, 15, 16, 31, 32, 33, 34, 35, 36, 37, 38, 39, 40] (by decide +kernel) (by decide +kernel)
set_option maxRecDepth 20000 in
theorem gX4_takePlainTotal_X4_isThere : GoodIn wsX4_takePlainTotal (wsV RX4 75 RX4 yX4_isThere wsX4_isThere) := goodIn_app (goodIn_of _ (by decide +kernel)) ggX4_takePlainTotal_X4_isThere
set_option maxRecDepth 20000 in
theorem ggX4_takePlainTotal_X4_take : GoodIn wsX4_takePlainTotal wsX4_take := goodIn_r _ [20, 10, 21, 22, 23, 24, 25, 26, 27, 28, 29, 30, 31, 32, 33, 34, 35, 36, 37, 38, 39, 40, 41, 42] (by decide +kernel) (by decide +kernel)
set_option maxRecDepth 20000 in
theorem gX4_takePlainTotal_X4_take : GoodIn wsX4_takePlainTotal (wsV RX4 79 RX4 yX4_take wsX4_take) := goodIn_app (goodIn_of _ (by decide +kernel)) ggX4_takePlainTotal_X4_take
set_option maxRecDepth 20000 in
theorem ggX4_takePlainTotal_X4_tellFault : GoodIn wsX4_takePlainTotal wsX4_tellFault := goodIn_r _ [14, 15, 16, 31, 32, 33, 34, 35, 36, 37, 38, 39, 40] (by decide +kernel) (by decide +kernel)
set_option maxRecDepth 20000 in
theorem gX4_takePlainTotal_X4_tellFault : GoodIn wsX4_takePlainTotal (wsV RX4 67 RX4 yX4_tellFault wsX4_tellFault) := goodIn_app (goodIn_of _ (by decide +kernel)) ggX4_takePlainTotal_X4_tellFault
theorem dX4_takePlainTotal_0 : decode cX4_takePlainTotal 0 = .ok (.aload_n 0, 1) := by decide +kernel
theorem dX4_takePlainTotal_1 : decode cX4_takePlainTotal 1 = .ok (.iconst 4, 1) := by decide +kernel
theorem dX4_takePlainTotal_2 : decode cX4_takePlainTotal 2 = .ok (.invokevirtual 75, 3) := by decide +kernel
theorem dX4_takePlainTotal_5 : decode cX4_takePlainTotal 5 = .ok (.ifCond .ne 5, 3) := by decide +kernel
theorem dX4_takePlainTotal_8 : decode cX4_takePlainTotal 8 = .ok (.iconst 0, 1) := by decide +kernel
theorem dX4_takePlainTotal_9 : decode cX4_takePlainTotal 9 = .ok (.ireturn, 1) := by decide +kernel
theorem dX4_takePlainTotal_10 : decode cX4_takePlainTotal 10 = .ok (.aload_n 0, 1) := by decide +kernel
theorem dX4_takePlainTotal_11 : decode cX4_takePlainTotal 11 = .ok (.aload_n 1, 1) := by decide +kernel
theorem dX4_takePlainTotal_12 : decode cX4_takePlainTotal 12 = .ok (.iconst 4, 1) := by decide +kernel
theorem dX4_takePlainTotal_13 : decode cX4_takePlainTotal 13 = .ok (.invokevirtual 79, 3) := by decide +kernel
theorem dX4_takePlainTotal_16 : decode cX4_takePlainTotal 16 = .ok (.lstore_n 2, 1) := by decide +kernel
theorem dX4_takePlainTotal_17 : decode cX4_takePlainTotal 17 = .ok (.lload_n 2, 1) := by decide +kernel
theorem dX4_takePlainTotal_18 : decode cX4_takePlainTotal 18 = .ok (.ldc2_w 96, 3) := by decide +kernel
theorem dX4_takePlainTotal_21 : decode cX4_takePlainTotal 21 = .ok (.lcmp, 1) := by decide +kernel
theorem dX4_takePlainTotal_22 : decode cX4_takePlainTotal 22 = .ok (.ifCond .le 10, 3) := by decide +kernel
theorem dX4_takePlainTotal_25 : decode cX4_takePlainTotal 25 = .ok (.aload_n 0, 1) := by decide +kernel
theorem dX4_takePlainTotal_26 : decode cX4_takePlainTotal 26 = .ok (.iconst 3, 1) := by decide +kernel
theorem dX4_takePlainTotal_27 : decode cX4_takePlainTotal 27 = .ok (.iconst 4, 1) := by decide +kernel
theorem dX4_takePlainTotal_28 : decode cX4_takePlainTotal 28 = .ok (.invokevirtual 67, 3) := by decide +kernel
theorem dX4_takePlainTotal_31 : decode cX4_takePlainTotal 31 = .ok (.ireturn, 1) := by decide +kernel
theorem dX4_takePlainTotal_32 : decode cX4_takePlainTotal 32 = .ok (.aload_n 0, 1) := by decide +kernel
theorem dX4_takePlainTotal_33 : decode cX4_takePlainTotal 33 = .ok (.lload_n 2, 1) := by decide +kernel
theorem dX4_takePlainTotal_34 : decode cX4_takePlainTotal 34 = .ok (.l2i, 1) := by decide +kernel
theorem dX4_takePlainTotal_35 : decode cX4_takePlainTotal 35 = .ok (.putfield 36, 3) := by decide +kernel
theorem dX4_takePlainTotal_38 : decode cX4_takePlainTotal 38 = .ok (.aload_n 0, 1) := by decide +kernel
theorem dX4_takePlainTotal_39 : decode cX4_takePlainTotal 39 = .ok (.iconst 1, 1) := by decide +kernel
theorem dX4_takePlainTotal_40 : decode cX4_takePlainTotal 40 = .ok (.putfield 39, 3) := by decide +kernel
theorem dX4_takePlainTotal_43 : decode cX4_takePlainTotal 43 = .ok (.iconst 1, 1) := by decide +kernel
theorem dX4_takePlainTotal_44 : decode cX4_takePlainTotal 44 = .ok (.ireturn, 1) := by decide +kernel
set_option maxRecDepth 20000 in
theorem ggX4_takeRunBits_X4_tellFault : GoodIn wsX4_takeRunBits wsX4_tellFault := goodIn_r _ [8, 9, 10, 30, 31, 32, 33, 34, 35, 36, 37, 38, 39] (by decide +kernel) (by decide +kernel)
set_option maxRecDepth 20000 in
theorem gX4_takeRunBits_X4_tellFault : GoodIn wsX4_takeRunBits (wsV RX4 67 RX4 yX4_tellFault wsX4_tellFault) := goodIn_app (goodIn_of _ (by decide +kernel)) ggX4_takeRunBits_X4_tellFault
set_option maxRecDepth 20000 in
theorem ggX4_takeRunBits_X4_isThere : GoodIn wsX4_takeRunBits wsX4_isThere := goodIn_r _ [14, 15, 3, 4, 5, 6, 7, 8, 9, 10, 30, 31, 32, 33, 34, 35, 36, 37, 38, 39] (by decide +kernel) (by decide +kernel)
set_option maxRecDepth 20000 in
theorem gX4_takeRunBits_X4_isThere : GoodIn wsX4_takeRunBits (wsV RX4 75 RX4 yX4_isThere wsX4_isThere) := goodIn_app (goodIn_of _ (by decide +kernel)) ggX4_takeRunBits_X4_isThere
set_option maxRecDepth 20000 in
theorem ggX4_takeRunBits_X4_take : GoodIn wsX4_takeRunBits wsX4_take := goodIn_r _ [19, 3, 20, 21, 22, 23, 24, 25, 26, 27, 28, 29, 30, 31, 32, 33, 34, 35, 36, 37, 38, 39, 40, 41] (by decide +kernel) (by decide +kernel)
set_option maxRecDepth 20000 in
theorem gX4_takeRunBits_X4_take : GoodIn wsX4_takeRunBits (wsV RX4 79 RX4 yX4_take wsX4_take) := goodIn_app (goodIn_of _ (by decide +kernel)) ggX4_takeRunBits_X4_take
theorem dX4_takeRunBits_0 : decode cX4_takeRunBits 0 = .ok (.iload_n 2, 1) := by decide +kernel
theorem dX4_takeRunBits_1 : decode cX4_takeRunBits 1 = .ok (.bipush 6, 2) := by decide +kernel
theorem dX4_takeRunBits_3 : decode cX4_takeRunBits 3 = .ok (.if_icmp .le 10, 3) := by decide +kernel
theorem dX4_takeRunBits_6 : decode cX4_takeRunBits 6 = .ok (.aload_n 0, 1) := by decide +kernel
theorem dX4_takeRunBits_7 : decode cX4_takeRunBits 7 = .ok (.iconst 3, 1) := by decide +kernel
theorem dX4_takeRunBits_8 : decode cX4_takeRunBits 8 = .ok (.iconst 2, 1) := by decide +kernel
theorem dX4_takeRunBits_9 : decode cX4_takeRunBits 9 = .ok (.invokevirtual 67, 3) := by decide +kernel
theorem dX4_takeRunBits_12 : decode cX4_takeRunBits 12 = .ok (.ireturn, 1) := by decide +kernel
theorem dX4_takeRunBits_13 : decode cX4_takeRunBits 13 = .ok (.aload_n 0, 1) := by decide +kernel
theorem dX4_takeRunBits_14 : decode cX4_takeRunBits 14 = .ok (.iconst 1, 1) := by decide +kernel
theorem dX4_takeRunBits_15 : decode cX4_takeRunBits 15 = .ok (.invokevirtual 75, 3) := by decide +kernel
theorem dX4_takeRunBits_18 : decode cX4_takeRunBits 18 = .ok (.ifCond .ne 5, 3) := by decide +kernel
theorem dX4_takeRunBits_21 : decode cX4_takeRunBits 21 = .ok (.iconst 0, 1) := by decide +kernel
theorem dX4_takeRunBits_22 : decode cX4_takeRunBits 22 = .ok (.ireturn, 1) := by decide +kernel
theorem dX4_takeRunBits_23 : decode cX4_takeRunBits 23 = .ok (.aload_n 0, 1) := by decide +kernel
theorem dX4_takeRunBits_24 : decode cX4_takeRunBits 24 = .ok (.iload_n 2, 1) := by decide +kernel
theorem dX4_takeRunBits_25 : decode cX4_takeRunBits 25 = .ok (.putfield 36, 3) := by decide +kernel
theorem dX4_takeRunBits_28 : decode cX4_takeRunBits 28 = .ok (.aload_n 0, 1) := by decide +kernel
theorem dX4_takeRunBits_29 : decode cX4_takeRunBits 29 = .ok (.aload_n 0, 1) := by decide +kernel
theorem dX4_takeRunBits_30 : decode cX4_takeRunBits 30 = .ok (.aload_n 1, 1) := by decide +kernel
theorem dX4_takeRunBits_31 : decode cX4_takeRunBits 31 = .ok (.iconst 1, 1) := by decide +kernel
theorem dX4_takeRunBits_32 : decode cX4_takeRunBits 32 = .ok (.invokevirtual 79, 3) := by decide +kernel
theorem dX4_takeRunBits_35 : decode cX4_takeRunBits 35 = .ok (.l2i, 1) := by decide +kernel
theorem dX4_takeRunBits_36 : decode cX4_takeRunBits 36 = .ok (.putfield 43, 3) := by decide +kernel
theorem dX4_takeRunBits_39 : decode cX4_takeRunBits 39 = .ok (.aload_n 0, 1) := by decide +kernel
theorem dX4_takeRunBits_40 : decode cX4_takeRunBits 40 = .ok (.getfield 43, 3) := by decide +kernel
theorem dX4_takeRunBits_43 : decode cX4_takeRunBits 43 = .ok (.aload_n 0, 1) := by decide +kernel
theorem dX4_takeRunBits_44 : decode cX4_takeRunBits 44 = .ok (.getfield 36, 3) := by decide +kernel
theorem dX4_takeRunBits_47 : decode cX4_takeRunBits 47 = .ok (.iushr, 1) := by decide +kernel
theorem dX4_takeRunBits_48 : decode cX4_takeRunBits 48 = .ok (.ifCond .eq 17, 3) := by decide +kernel
theorem dX4_takeRunBits_51 : decode cX4_takeRunBits 51 = .ok (.aload_n 0, 1) := by decide +kernel
theorem dX4_takeRunBits_52 : decode cX4_takeRunBits 52 = .ok (.iconst 4, 1) := by decide +kernel
theorem dX4_takeRunBits_53 : decode cX4_takeRunBits 53 = .ok (.aload_n 0, 1) := by decide +kernel
theorem dX4_takeRunBits_54 : decode cX4_takeRunBits 54 = .ok (.getfield 25, 3) := by decide +kernel
theorem dX4_takeRunBits_57 : decode cX4_takeRunBits 57 = .ok (.iconst 1, 1) := by decide +kernel
theorem dX4_takeRunBits_58 : decode cX4_takeRunBits 58 = .ok (.isub, 1) := by decide +kernel
theorem dX4_takeRunBits_59 : decode cX4_takeRunBits 59 = .ok (.invokevirtual 67, 3) := by decide +kernel
theorem dX4_takeRunBits_62 : decode cX4_takeRunBits 62 = .ok (.ifCond .eq 7, 3) := by decide +kernel
theorem dX4_takeRunBits_65 : decode cX4_takeRunBits 65 = .ok (.iconst 1, 1) := by decide +kernel
theorem dX4_takeRunBits_66 : decode cX4_takeRunBits 66 = .ok (.goto 4, 3) := by decide +kernel
theorem dX4_takeRunBits_69 : decode cX4_takeRunBits 69 = .ok (.iconst 0, 1) := by decide +kernel
theorem dX4_takeRunBits_70 : decode cX4_takeRunBits 70 = .ok (.ireturn, 1) := by decide +kernel
set_option maxRecDepth 20000 in
theorem ggX4_takeHeads_X4_isThere : GoodIn wsX4_takeHeads wsX4_isThere := goodIn_r _ [9, 10, 3, 11, 12, 13, 8, 14, 15, 16, 31, 32, 33, 34, 35, 36, 37, 38, 39, 40] (by decide +kernel) (by decide +kernel)
set_option maxRecDepth 20000 in
theorem gX4_takeHeads_X4_isThere : GoodIn wsX4_takeHeads (wsV RX4 75 RX4 yX4_isThere wsX4_isThere) := goodIn_app (goodIn_of _ (by decide +kernel)) ggX4_takeHeads_X4_isThere
set_option maxRecDepth 20000 in
theorem ggX4_takeHeads_X4_take : GoodIn wsX4_takeHeads wsX4_take := goodIn_r _ [20, 3, 21, 22, 23, 24, 25, 26, 27, 28, 29, 30, 31, 32, 33, 34, 35, 36, 37, 38, 39, 40, 41, 42] (by decide +kernel) (by decide +kernel)
set_option maxRecDepth 20000 in
theorem gX4_takeHeads_X4_take : GoodIn wsX4_takeHeads (wsV RX4 79 RX4 yX4_take wsX4_take) := goodIn_app (goodIn_of _ (by decide +kernel)) ggX4_takeHeads_X4_take
set_option maxRecDepth 20000 in
theorem ggX4_takeHeads_X4_tellFault : GoodIn wsX4_takeHeads wsX4_tellFault := goodIn_r _ [14, 15, 16, 31, 32, 33, 34, 35, 36, 37, 38, 39, 40] (by decide +kernel) (by decide +kernel)
set_option maxRecDepth 20000 in
theorem gX4_takeHeads_X4_tellFault : GoodIn wsX4_takeHeads (wsV RX4 67 RX4 yX4_tellFault wsX4_tellFault) := goodIn_app (goodIn_of _ (by decide +kernel)) ggX4_takeHeads_X4_tellFault
theorem dX4_takeHeads_0 : decode cX4_takeHeads 0 = .ok (.iconst 0, 1) := by decide +kernel
theorem dX4_takeHeads_1 : decode cX4_takeHeads 1 = .ok (.istore_n 2, 1) := by decide +kernel
theorem dX4_takeHeads_2 : decode cX4_takeHeads 2 = .ok (.iload_n 2, 1) := by decide +kernel
theorem dX4_takeHeads_3 : decode cX4_takeHeads 3 = .ok (.aload_n 0, 1) := by decide +kernel
theorem dX4_takeHeads_4 : decode cX4_takeHeads 4 = .ok (.getfield 36, 3) := by decide +kernel
theorem dX4_takeHeads_7 : decode cX4_takeHeads 7 = .ok (.if_icmp .ge 90, 3) := by decide +kernel
theorem dX4_takeHeads_10 : decode cX4_takeHeads 10 = .ok (.aload_n 0, 1) := by decide +kernel
theorem dX4_takeHeads_11 : decode cX4_takeHeads 11 = .ok (.iconst 2, 1) := by decide +kernel
theorem dX4_takeHeads_12 : decode cX4_takeHeads 12 = .ok (.invokevirtual 75, 3) := by decide +kernel
theorem dX4_takeHeads_15 : decode cX4_takeHeads 15 = .ok (.ifCond .ne 5, 3) := by decide +kernel
theorem dX4_takeHeads_18 : decode cX4_takeHeads 18 = .ok (.iconst 0, 1) := by decide +kernel
theorem dX4_takeHeads_19 : decode cX4_takeHeads 19 = .ok (.ireturn, 1) := by decide +kernel
theorem dX4_takeHeads_20 : decode cX4_takeHeads 20 = .ok (.aload_n 0, 1) := by decide +kernel
theorem dX4_takeHeads_21 : decode cX4_takeHeads 21 = .ok (.getfield 9, 3) := by decide +kernel
theorem dX4_takeHeads_24 : decode cX4_takeHeads 24 = .ok (.iload_n 2, 1) := by decide +kernel
theorem dX4_takeHeads_25 : decode cX4_takeHeads 25 = .ok (.aload_n 0, 1) := by decide +kernel
theorem dX4_takeHeads_26 : decode cX4_takeHeads 26 = .ok (.aload_n 1, 1) := by decide +kernel
theorem dX4_takeHeads_27 : decode cX4_takeHeads 27 = .ok (.iconst 2, 1) := by decide +kernel
theorem dX4_takeHeads_28 : decode cX4_takeHeads 28 = .ok (.invokevirtual 79, 3) := by decide +kernel
theorem dX4_takeHeads_31 : decode cX4_takeHeads 31 = .ok (.l2i, 1) := by decide +kernel
theorem dX4_takeHeads_32 : decode cX4_takeHeads 32 = .ok (.iastore, 1) := by decide +kernel
theorem dX4_takeHeads_33 : decode cX4_takeHeads 33 = .ok (.iload_n 2, 1) := by decide +kernel
theorem dX4_takeHeads_34 : decode cX4_takeHeads 34 = .ok (.ifCond .le 32, 3) := by decide +kernel
theorem dX4_takeHeads_37 : decode cX4_takeHeads 37 = .ok (.aload_n 0, 1) := by decide +kernel
theorem dX4_takeHeads_38 : decode cX4_takeHeads 38 = .ok (.getfield 9, 3) := by decide +kernel
theorem dX4_takeHeads_41 : decode cX4_takeHeads 41 = .ok (.iload_n 2, 1) := by decide +kernel
theorem dX4_takeHeads_42 : decode cX4_takeHeads 42 = .ok (.iaload, 1) := by decide +kernel
theorem dX4_takeHeads_43 : decode cX4_takeHeads 43 = .ok (.aload_n 0, 1) := by decide +kernel
theorem dX4_takeHeads_44 : decode cX4_takeHeads 44 = .ok (.getfield 9, 3) := by decide +kernel
theorem dX4_takeHeads_47 : decode cX4_takeHeads 47 = .ok (.iload_n 2, 1) := by decide +kernel
theorem dX4_takeHeads_48 : decode cX4_takeHeads 48 = .ok (.iconst 1, 1) := by decide +kernel
theorem dX4_takeHeads_49 : decode cX4_takeHeads 49 = .ok (.isub, 1) := by decide +kernel
theorem dX4_takeHeads_50 : decode cX4_takeHeads 50 = .ok (.iaload, 1) := by decide +kernel
theorem dX4_takeHeads_51 : decode cX4_takeHeads 51 = .ok (.if_icmp .gt 15, 3) := by decide +kernel
theorem dX4_takeHeads_54 : decode cX4_takeHeads 54 = .ok (.aload_n 0, 1) := by decide +kernel
theorem dX4_takeHeads_55 : decode cX4_takeHeads 55 = .ok (.iconst 5, 1) := by decide +kernel
theorem dX4_takeHeads_56 : decode cX4_takeHeads 56 = .ok (.aload_n 0, 1) := by decide +kernel
theorem dX4_takeHeads_57 : decode cX4_takeHeads 57 = .ok (.getfield 25, 3) := by decide +kernel
theorem dX4_takeHeads_60 : decode cX4_takeHeads 60 = .ok (.iconst 2, 1) := by decide +kernel
theorem dX4_takeHeads_61 : decode cX4_takeHeads 61 = .ok (.isub, 1) := by decide +kernel
theorem dX4_takeHeads_62 : decode cX4_takeHeads 62 = .ok (.invokevirtual 67, 3) := by decide +kernel
theorem dX4_takeHeads_65 : decode cX4_takeHeads 65 = .ok (.ireturn, 1) := by decide +kernel
theorem dX4_takeHeads_66 : decode cX4_takeHeads 66 = .ok (.aload_n 0, 1) := by decide +kernel
theorem dX4_takeHeads_67 : decode cX4_takeHeads 67 = .ok (.iconst 2, 1) := by decide +kernel
theorem dX4_takeHeads_68 : decode cX4_takeHeads 68 = .ok (.invokevirtual 75, 3) := by decide +kernel
theorem dX4_takeHeads_71 : decode cX4_takeHeads 71 = .ok (.ifCond .ne 5, 3) := by decide +kernel
theorem dX4_takeHeads_74 : decode cX4_takeHeads 74 = .ok (.iconst 0, 1) := by decide +kernel
theorem dX4_takeHeads_75 : decode cX4_takeHeads 75 = .ok (.ireturn, 1) := by decide +kernel
theorem dX4_takeHeads_76 : decode cX4_takeHeads 76 = .ok (.aload_n 0, 1) := by decide +kernel
theorem dX4_takeHeads_77 : decode cX4_takeHeads 77 = .ok (.getfield 15, 3) := by decide +kernel
theorem dX4_takeHeads_80 : decode cX4_takeHeads 80 = .ok (.iload_n 2, 1) := by decide +kernel
theorem dX4_takeHeads_81 : decode cX4_takeHeads 81 = .ok (.aload_n 0, 1) := by decide +kernel
theorem dX4_takeHeads_82 : decode cX4_takeHeads 82 = .ok (.aload_n 1, 1) := by decide +kernel
theorem dX4_takeHeads_83 : decode cX4_takeHeads 83 = .ok (.iconst 2, 1) := by decide +kernel
theorem dX4_takeHeads_84 : decode cX4_takeHeads 84 = .ok (.invokevirtual 79, 3) := by decide +kernel
theorem dX4_takeHeads_87 : decode cX4_takeHeads 87 = .ok (.l2i, 1) := by decide +kernel
theorem dX4_takeHeads_88 : decode cX4_takeHeads 88 = .ok (.iconst 1, 1) := by decide +kernel
theorem dX4_takeHeads_89 : decode cX4_takeHeads 89 = .ok (.iadd, 1) := by decide +kernel
theorem dX4_takeHeads_90 : decode cX4_takeHeads 90 = .ok (.iastore, 1) := by decide +kernel
theorem dX4_takeHeads_91 : decode cX4_takeHeads 91 = .ok (.iinc 2 1, 3) := by decide +kernel
theorem dX4_takeHeads_94 : decode cX4_takeHeads 94 = .ok (.goto (-92), 3) := by decide +kernel
theorem dX4_takeHeads_97 : decode cX4_takeHeads 97 = .ok (.iconst 1, 1) := by decide +kernel
theorem dX4_takeHeads_98 : decode cX4_takeHeads 98 = .ok (.ireturn, 1) := by decide +kernel
set_option maxRecDepth 20000 in
theorem ggX4_takePlaces_X4_isThere : GoodIn wsX4_takePlaces wsX4_isThere := goodIn_r _ [9, 10, 3, 11, 12, 13, 8, 14, 15, 16, 17, 18, 19, 20, 21, 22, 23, 24, 25, 26] (by decide +kernel) (by decide +kernel)
set_option maxRecDepth 20000 in
theorem gX4_takePlaces_X4_isThere : GoodIn wsX4_takePlaces (wsV RX4 75 RX4 yX4_isThere wsX4_isThere) := goodIn_app (goodIn_of _ (by decide +kernel)) ggX4_takePlaces_X4_isThere
theorem dX4_takePlaces_0 : decode cX4_takePlaces 0 = .ok (.aload_n 0, 1) := by decide +kernel
theorem dX4_takePlaces_1 : decode cX4_takePlaces 1 = .ok (.getfield 39, 3) := by decide +kernel
theorem dX4_takePlaces_4 : decode cX4_takePlaces 4 = .ok (.ifCond .ne 13, 3) := by decide +kernel
theorem dX4_takePlaces_7 : decode cX4_takePlaces 7 = .ok (.aload_n 0, 1) := by decide +kernel
theorem dX4_takePlaces_8 : decode cX4_takePlaces 8 = .ok (.getfield 36, 3) := by decide +kernel
theorem dX4_takePlaces_11 : decode cX4_takePlaces 11 = .ok (.iconst 4, 1) := by decide +kernel
theorem dX4_takePlaces_12 : decode cX4_takePlaces 12 = .ok (.if_icmp .ge 5, 3) := by decide +kernel
theorem dX4_takePlaces_15 : decode cX4_takePlaces 15 = .ok (.iconst 1, 1) := by decide +kernel
theorem dX4_takePlaces_16 : decode cX4_takePlaces 16 = .ok (.ireturn, 1) := by decide +kernel
theorem dX4_takePlaces_17 : decode cX4_takePlaces 17 = .ok (.aload_n 0, 1) := by decide +kernel
theorem dX4_takePlaces_18 : decode cX4_takePlaces 18 = .ok (.iconst 4, 1) := by decide +kernel
theorem dX4_takePlaces_19 : decode cX4_takePlaces 19 = .ok (.aload_n 0, 1) := by decide +kernel
theorem dX4_takePlaces_20 : decode cX4_takePlaces 20 = .ok (.getfield 36, 3) := by decide +kernel
theorem dX4_takePlaces_23 : decode cX4_takePlaces 23 = .ok (.imul, 1) := by decide +kernel
theorem dX4_takePlaces_24 : decode cX4_takePlaces 24 = .ok (.invokevirtual 75, 3) := by decide +kernel
theorem dX4_takePlaces_27 : decode cX4_takePlaces 27 = .ok (.ifCond .ne 5, 3) := by decide +kernel
theorem dX4_takePlaces_30 : decode cX4_takePlaces 30 = .ok (.iconst 0, 1) := by decide +kernel
theorem dX4_takePlaces_31 : decode cX4_takePlaces 31 = .ok (.ireturn, 1) := by decide +kernel
theorem dX4_takePlaces_32 : decode cX4_takePlaces 32 = .ok (.aload_n 0, 1) := by decide +kernel
theorem dX4_takePlaces_33 : decode cX4_takePlaces 33 = .ok (.aload_n 0, 1) := by decide +kernel
theorem dX4_takePlaces_34 : decode cX4_takePlaces 34 = .ok (.getfield 25, 3) := by decide +kernel
theorem dX4_takePlaces_37 : decode cX4_takePlaces 37 = .ok (.putfield 46, 3) := by decide +kernel
theorem dX4_takePlaces_40 : decode cX4_takePlaces 40 = .ok (.aload_n 0, 1) := by decide +kernel
theorem dX4_takePlaces_41 : decode cX4_takePlaces 41 = .ok (.dup, 1) := by decide +kernel
theorem dX4_takePlaces_42 : decode cX4_takePlaces 42 = .ok (.getfield 25, 3) := by decide +kernel
theorem dX4_takePlaces_45 : decode cX4_takePlaces 45 = .ok (.iconst 4, 1) := by decide +kernel
theorem dX4_takePlaces_46 : decode cX4_takePlaces 46 = .ok (.aload_n 0, 1) := by decide +kernel
theorem dX4_takePlaces_47 : decode cX4_takePlaces 47 = .ok (.getfield 36, 3) := by decide +kernel
theorem dX4_takePlaces_50 : decode cX4_takePlaces 50 = .ok (.imul, 1) := by decide +kernel
theorem dX4_takePlaces_51 : decode cX4_takePlaces 51 = .ok (.iadd, 1) := by decide +kernel
theorem dX4_takePlaces_52 : decode cX4_takePlaces 52 = .ok (.putfield 25, 3) := by decide +kernel
theorem dX4_takePlaces_55 : decode cX4_takePlaces 55 = .ok (.iconst 1, 1) := by decide +kernel
theorem dX4_takePlaces_56 : decode cX4_takePlaces 56 = .ok (.ireturn, 1) := by decide +kernel
set_option maxRecDepth 20000 in
theorem ggX4_takeContainer_X0_numberAt : GoodIn wsX4_takeContainer wsX0_numberAt := goodIn_r _ [13, 14, 15, 16, 12, 17, 18, 100, 101] (by decide +kernel) (by decide +kernel)
set_option maxRecDepth 20000 in
theorem gX4_takeContainer_X0_numberAt : GoodIn wsX4_takeContainer (wsV RX4 71 RX0 yX0_numberAt wsX0_numberAt) := goodIn_app (goodIn_of _ (by decide +kernel)) ggX4_takeContainer_X0_numberAt
set_option maxRecDepth 20000 in
theorem ggX4_takeContainer_X4_tellFault : GoodIn wsX4_takeContainer wsX4_tellFault := goodIn_r _ [23, 24, 25, 84, 85, 86, 87, 88, 89, 90, 91, 92, 93] (by decide +kernel) (by decide +kernel)
set_option maxRecDepth 20000 in
theorem gX4_takeContainer_X4_tellFault : GoodIn wsX4_takeContainer (wsV RX4 67 RX4 yX4_tellFault wsX4_tellFault) := goodIn_app (goodIn_of _ (by decide +kernel)) ggX4_takeContainer_X4_tellFault
set_option maxRecDepth 20000 in
theorem ggX4_takeContainer_X1_begin : GoodIn wsX4_takeContainer wsX1_begin := goodIn_r _ [30, 31, 32, 33, 34, 35, 36, 37, 29, 38, 39, 40, 41, 42, 43, 96, 97, 98, 99] (by decide +kernel) (by decide +kernel)
set_option maxRecDepth 20000 in
theorem gX4_takeContainer_X1_begin : GoodIn wsX4_takeContainer (wsV RX4 102 RX1 yX1_begin wsX1_begin) := goodIn_app (goodIn_of _ (by decide +kernel)) ggX4_takeContainer_X1_begin
set_option maxRecDepth 20000 in
theorem ggX4_takeContainer_X4_takeRuns : GoodIn wsX4_takeContainer wsX4_takeRuns := goodIn_r _ [47, 48, 2, 49, 50, 51, 52, 22, 53, 54, 19, 20, 21, 23, 24, 25, 55, 56, 57, 58, 9, 10, 11, 12, 13, 14, 15, 16, 17, 18, 59, 60, 61, 29, 62, 63, 31, 34, 64, 65, 66, 67, 68, 69, 70, 71, 72, 73, 84, 85, 86, 87, 88, 89, 90, 91, 92, 93, 96, 97, 98, 99, 100, 101] (by decide +kernel) (by decide +kernel)
set_option maxRecDepth 20000 in
theorem gX4_takeContainer_X4_takeRuns : GoodIn wsX4_takeContainer (wsV RX4 111 RX4 yX4_takeRuns wsX4_takeRuns) := goodIn_app (goodIn_of _ (by decide +kernel)) ggX4_takeContainer_X4_takeRuns
set_option maxRecDepth 20000 in
theorem ggX4_takeContainer_X4_takeArray : GoodIn wsX4_takeContainer wsX4_takeArray := goodIn_r _ [77, 2, 50, 51, 52, 22, 53, 54, 19, 20, 21, 23, 24, 25, 55, 56, 57, 58, 9, 10, 11, 12, 13, 14, 15, 16, 17, 18, 59, 60, 61, 29, 62, 63, 31, 34, 64, 65, 66, 67, 68, 69, 70, 71, 72, 73, 84, 85, 86, 87, 88, 89, 90, 91, 92, 93, 100, 101, 96, 97, 98, 99] (by decide +kernel) (by decide +kernel)
set_option maxRecDepth 20000 in
theorem gX4_takeContainer_X4_takeArray : GoodIn wsX4_takeContainer (wsV RX4 115 RX4 yX4_takeArray wsX4_takeArray) := goodIn_app (goodIn_of _ (by decide +kernel)) ggX4_takeContainer_X4_takeArray
set_option maxRecDepth 20000 in
theorem ggX4_takeContainer_X4_takeBitmap : GoodIn wsX4_takeContainer wsX4_takeBitmap := goodIn_r _ [81, 82, 49, 2, 50, 51, 52, 22, 53, 54, 19, 20, 21, 23, 24, 25, 55, 56, 57, 58, 9, 10, 11, 12, 13, 14, 15, 16, 17, 18, 83, 68, 69, 70, 71, 72, 73, 96, 97, 98, 99, 84, 85, 86, 87, 88, 89, 90, 91, 92, 93, 100, 101] (by decide +kernel) (by decide +kernel)
set_option maxRecDepth 20000 in
theorem gX4_takeContainer_X4_takeBitmap : GoodIn wsX4_takeContainer (wsV RX4 118 RX4 yX4_takeBitmap wsX4_takeBitmap) := goodIn_app (goodIn_of _ (by decide +kernel)) ggX4_takeContainer_X4_takeBitmap
theorem dX4_takeContainer_0 : decode cX4_takeContainer 0 = .ok (.aload_n 0, 1) := by decide +kernel
theorem dX4_takeContainer_1 : decode cX4_takeContainer 1 = .ok (.getfield 46, 3) := by decide +kernel
theorem dX4_takeContainer_4 : decode cX4_takeContainer 4 = .ok (.iconst (-1), 1) := by decide +kernel
theorem dX4_takeContainer_5 : decode cX4_takeContainer 5 = .ok (.if_icmp .eq 40, 3) := by decide +kernel
theorem dX4_takeContainer_8 : decode cX4_takeContainer 8 = .ok (.aload_n 1, 1) := by decide +kernel
theorem dX4_takeContainer_9 : decode cX4_takeContainer 9 = .ok (.aload_n 0, 1) := by decide +kernel
theorem dX4_takeContainer_10 : decode cX4_takeContainer 10 = .ok (.getfield 46, 3) := by decide +kernel
theorem dX4_takeContainer_13 : decode cX4_takeContainer 13 = .ok (.iconst 4, 1) := by decide +kernel
theorem dX4_takeContainer_14 : decode cX4_takeContainer 14 = .ok (.iload_n 3, 1) := by decide +kernel
theorem dX4_takeContainer_15 : decode cX4_takeContainer 15 = .ok (.imul, 1) := by decide +kernel
theorem dX4_takeContainer_16 : decode cX4_takeContainer 16 = .ok (.iadd, 1) := by decide +kernel
theorem dX4_takeContainer_17 : decode cX4_takeContainer 17 = .ok (.iconst 4, 1) := by decide +kernel
theorem dX4_takeContainer_18 : decode cX4_takeContainer 18 = .ok (.invokevirtual 71, 3) := by decide +kernel
theorem dX4_takeContainer_21 : decode cX4_takeContainer 21 = .ok (.aload_n 0, 1) := by decide +kernel
theorem dX4_takeContainer_22 : decode cX4_takeContainer 22 = .ok (.getfield 25, 3) := by decide +kernel
theorem dX4_takeContainer_25 : decode cX4_takeContainer 25 = .ok (.i2l, 1) := by decide +kernel
theorem dX4_takeContainer_26 : decode cX4_takeContainer 26 = .ok (.lcmp, 1) := by decide +kernel
theorem dX4_takeContainer_27 : decode cX4_takeContainer 27 = .ok (.ifCond .eq 18, 3) := by decide +kernel
theorem dX4_takeContainer_30 : decode cX4_takeContainer 30 = .ok (.aload_n 0, 1) := by decide +kernel
theorem dX4_takeContainer_31 : decode cX4_takeContainer 31 = .ok (.bipush 6, 2) := by decide +kernel
theorem dX4_takeContainer_33 : decode cX4_takeContainer 33 = .ok (.aload_n 0, 1) := by decide +kernel
theorem dX4_takeContainer_34 : decode cX4_takeContainer 34 = .ok (.getfield 46, 3) := by decide +kernel
theorem dX4_takeContainer_37 : decode cX4_takeContainer 37 = .ok (.iconst 4, 1) := by decide +kernel
theorem dX4_takeContainer_38 : decode cX4_takeContainer 38 = .ok (.iload_n 3, 1) := by decide +kernel
theorem dX4_takeContainer_39 : decode cX4_takeContainer 39 = .ok (.imul, 1) := by decide +kernel
theorem dX4_takeContainer_40 : decode cX4_takeContainer 40 = .ok (.iadd, 1) := by decide +kernel
theorem dX4_takeContainer_41 : decode cX4_takeContainer 41 = .ok (.invokevirtual 67, 3) := by decide +kernel
theorem dX4_takeContainer_44 : decode cX4_takeContainer 44 = .ok (.ireturn, 1) := by decide +kernel
theorem dX4_takeContainer_45 : decode cX4_takeContainer 45 = .ok (.aload_n 2, 1) := by decide +kernel
theorem dX4_takeContainer_46 : decode cX4_takeContainer 46 = .ok (.getfield 98, 3) := by decide +kernel
theorem dX4_takeContainer_49 : decode cX4_takeContainer 49 = .ok (.iload_n 3, 1) := by decide +kernel
theorem dX4_takeContainer_50 : decode cX4_takeContainer 50 = .ok (.aaload, 1) := by decide +kernel
theorem dX4_takeContainer_51 : decode cX4_takeContainer 51 = .ok (.astore 4, 2) := by decide +kernel
theorem dX4_takeContainer_53 : decode cX4_takeContainer 53 = .ok (.aload 4, 2) := by decide +kernel
theorem dX4_takeContainer_55 : decode cX4_takeContainer 55 = .ok (.aload_n 0, 1) := by decide +kernel
theorem dX4_takeContainer_56 : decode cX4_takeContainer 56 = .ok (.getfield 9, 3) := by decide +kernel
theorem dX4_takeContainer_59 : decode cX4_takeContainer 59 = .ok (.iload_n 3, 1) := by decide +kernel
theorem dX4_takeContainer_60 : decode cX4_takeContainer 60 = .ok (.iaload, 1) := by decide +kernel
theorem dX4_takeContainer_61 : decode cX4_takeContainer 61 = .ok (.invokevirtual 102, 3) := by decide +kernel
theorem dX4_takeContainer_64 : decode cX4_takeContainer 64 = .ok (.aload_n 2, 1) := by decide +kernel
theorem dX4_takeContainer_65 : decode cX4_takeContainer 65 = .ok (.iload_n 3, 1) := by decide +kernel
theorem dX4_takeContainer_66 : decode cX4_takeContainer 66 = .ok (.iconst 1, 1) := by decide +kernel
theorem dX4_takeContainer_67 : decode cX4_takeContainer 67 = .ok (.iadd, 1) := by decide +kernel
theorem dX4_takeContainer_68 : decode cX4_takeContainer 68 = .ok (.putfield 49, 3) := by decide +kernel
theorem dX4_takeContainer_71 : decode cX4_takeContainer 71 = .ok (.aload_n 0, 1) := by decide +kernel
theorem dX4_takeContainer_72 : decode cX4_takeContainer 72 = .ok (.getfield 43, 3) := by decide +kernel
theorem dX4_takeContainer_75 : decode cX4_takeContainer 75 = .ok (.iload_n 3, 1) := by decide +kernel
theorem dX4_takeContainer_76 : decode cX4_takeContainer 76 = .ok (.iushr, 1) := by decide +kernel
theorem dX4_takeContainer_77 : decode cX4_takeContainer 77 = .ok (.iconst 1, 1) := by decide +kernel
theorem dX4_takeContainer_78 : decode cX4_takeContainer 78 = .ok (.iand, 1) := by decide +kernel
theorem dX4_takeContainer_79 : decode cX4_takeContainer 79 = .ok (.ifCond .eq 23, 3) := by decide +kernel
theorem dX4_takeContainer_82 : decode cX4_takeContainer 82 = .ok (.aload 4, 2) := by decide +kernel
theorem dX4_takeContainer_84 : decode cX4_takeContainer 84 = .ok (.iconst 2, 1) := by decide +kernel
theorem dX4_takeContainer_85 : decode cX4_takeContainer 85 = .ok (.putfield 108, 3) := by decide +kernel
theorem dX4_takeContainer_88 : decode cX4_takeContainer 88 = .ok (.aload_n 0, 1) := by decide +kernel
theorem dX4_takeContainer_89 : decode cX4_takeContainer 89 = .ok (.aload_n 1, 1) := by decide +kernel
theorem dX4_takeContainer_90 : decode cX4_takeContainer 90 = .ok (.aload 4, 2) := by decide +kernel
theorem dX4_takeContainer_92 : decode cX4_takeContainer 92 = .ok (.aload_n 0, 1) := by decide +kernel
theorem dX4_takeContainer_93 : decode cX4_takeContainer 93 = .ok (.getfield 15, 3) := by decide +kernel
theorem dX4_takeContainer_96 : decode cX4_takeContainer 96 = .ok (.iload_n 3, 1) := by decide +kernel
theorem dX4_takeContainer_97 : decode cX4_takeContainer 97 = .ok (.iaload, 1) := by decide +kernel
theorem dX4_takeContainer_98 : decode cX4_takeContainer 98 = .ok (.invokevirtual 111, 3) := by decide +kernel
theorem dX4_takeContainer_101 : decode cX4_takeContainer 101 = .ok (.ireturn, 1) := by decide +kernel
theorem dX4_takeContainer_102 : decode cX4_takeContainer 102 = .ok (.aload_n 0, 1) := by decide +kernel
theorem dX4_takeContainer_103 : decode cX4_takeContainer 103 = .ok (.getfield 15, 3) := by decide +kernel
theorem dX4_takeContainer_106 : decode cX4_takeContainer 106 = .ok (.iload_n 3, 1) := by decide +kernel
theorem dX4_takeContainer_107 : decode cX4_takeContainer 107 = .ok (.iaload, 1) := by decide +kernel
theorem dX4_takeContainer_108 : decode cX4_takeContainer 108 = .ok (.sipush 4096, 3) := by decide +kernel
theorem dX4_takeContainer_111 : decode cX4_takeContainer 111 = .ok (.if_icmp .gt 23, 3) := by decide +kernel
theorem dX4_takeContainer_114 : decode cX4_takeContainer 114 = .ok (.aload 4, 2) := by decide +kernel
theorem dX4_takeContainer_116 : decode cX4_takeContainer 116 = .ok (.iconst 0, 1) := by decide +kernel
theorem dX4_takeContainer_117 : decode cX4_takeContainer 117 = .ok (.putfield 108, 3) := by decide +kernel
theorem dX4_takeContainer_120 : decode cX4_takeContainer 120 = .ok (.aload_n 0, 1) := by decide +kernel
theorem dX4_takeContainer_121 : decode cX4_takeContainer 121 = .ok (.aload_n 1, 1) := by decide +kernel
theorem dX4_takeContainer_122 : decode cX4_takeContainer 122 = .ok (.aload 4, 2) := by decide +kernel
theorem dX4_takeContainer_124 : decode cX4_takeContainer 124 = .ok (.aload_n 0, 1) := by decide +kernel
theorem dX4_takeContainer_125 : decode cX4_takeContainer 125 = .ok (.getfield 15, 3) := by decide +kernel
theorem dX4_takeContainer_128 : decode cX4_takeContainer 128 = .ok (.iload_n 3, 1) := by decide +kernel
theorem dX4_takeContainer_129 : decode cX4_takeContainer 129 = .ok (.iaload, 1) := by decide +kernel
theorem dX4_takeContainer_130 : decode cX4_takeContainer 130 = .ok (.invokevirtual 115, 3) := by decide +kernel
theorem dX4_takeContainer_133 : decode cX4_takeContainer 133 = .ok (.ireturn, 1) := by decide +kernel
theorem dX4_takeContainer_134 : decode cX4_takeContainer 134 = .ok (.aload 4, 2) := by decide +kernel
theorem dX4_takeContainer_136 : decode cX4_takeContainer 136 = .ok (.iconst 1, 1) := by decide +kernel
theorem dX4_takeContainer_137 : decode cX4_takeContainer 137 = .ok (.putfield 108, 3) := by decide +kernel
theorem dX4_takeContainer_140 : decode cX4_takeContainer 140 = .ok (.aload_n 0, 1) := by decide +kernel
theorem dX4_takeContainer_141 : decode cX4_takeContainer 141 = .ok (.aload_n 1, 1) := by decide +kernel
theorem dX4_takeContainer_142 : decode cX4_takeContainer 142 = .ok (.aload 4, 2) := by decide +kernel
theorem dX4_takeContainer_144 : decode cX4_takeContainer 144 = .ok (.aload_n 0, 1) := by decide +kernel
theorem dX4_takeContainer_145 : decode cX4_takeContainer 145 = .ok (.getfield 15, 3) := by decide +kernel
theorem dX4_takeContainer_148 : decode cX4_takeContainer 148 = .ok (.iload_n 3, 1) := by decide +kernel
theorem dX4_takeContainer_149 : decode cX4_takeContainer 149 = .ok (.iaload, 1) := by decide +kernel
theorem dX4_takeContainer_150 : decode cX4_takeContainer 150 = .ok (.invokevirtual 118, 3) := by decide +kernel
theorem dX4_takeContainer_153 : decode cX4_takeContainer 153 = .ok (.ireturn, 1) := by decide +kernel
set_option maxRecDepth 20000 in
theorem ggX4_takeArray_X4_isThere : GoodIn wsX4_takeArray wsX4_isThere := goodIn_r _ [6, 7, 1, 8, 9, 10, 5, 11, 12, 13, 46, 47, 48, 49, 50, 51, 52, 53, 54, 55] (by decide +kernel) (by decide +kernel)
set_option maxRecDepth 20000 in
theorem gX4_takeArray_X4_isThere : GoodIn wsX4_takeArray (wsV RX4 75 RX4 yX4_isThere wsX4_isThere) := goodIn_app (goodIn_of _ (by decide +kernel)) ggX4_takeArray_X4_isThere
set_option maxRecDepth 20000 in
theorem ggX4_takeArray_X4_take : GoodIn wsX4_takeArray wsX4_take := goodIn_r _ [17, 1, 18, 19, 20, 21, 22, 23, 24, 25, 26, 27, 46, 47, 48, 49, 50, 51, 52, 53, 54, 55, 56, 57] (by decide +kernel) (by decide +kernel)
set_option maxRecDepth 20000 in
theorem gX4_takeArray_X4_take : GoodIn wsX4_takeArray (wsV RX4 79 RX4 yX4_take wsX4_take) := goodIn_app (goodIn_of _ (by decide +kernel)) ggX4_takeArray_X4_take
set_option maxRecDepth 20000 in
theorem ggX4_takeArray_X4_tellFault : GoodIn wsX4_takeArray wsX4_tellFault := goodIn_r _ [11, 12, 13, 46, 47, 48, 49, 50, 51, 52, 53, 54, 55] (by decide +kernel) (by decide +kernel)
set_option maxRecDepth 20000 in
theorem gX4_takeArray_X4_tellFault : GoodIn wsX4_takeArray (wsV RX4 67 RX4 yX4_tellFault wsX4_tellFault) := goodIn_app (goodIn_of _ (by decide +kernel)) ggX4_takeArray_X4_tellFault
set_option maxRecDepth 20000 in
theorem ggX4_takeArray_X1_changeLows : GoodIn wsX4_takeArray wsX1_changeLows := goodIn_r _ [32, 33, 34, 35, 36, 37, 31, 38, 39, 40, 41, 42, 43, 44, 45, 58, 59, 60, 61] (by decide +kernel) (by decide +kernel)
set_option maxRecDepth 20000 in
theorem gX4_takeArray_X1_changeLows : GoodIn wsX4_takeArray (wsV RX4 121 RX1 yX1_changeLows wsX1_changeLows) := goodIn_app (goodIn_of _ (by decide +kernel)) ggX4_takeArray_X1_changeLows
theorem dX4_takeArray_0 : decode cX4_takeArray 0 = .ok (.iconst (-1), 1) := by decide +kernel
theorem dX4_takeArray_1 : decode cX4_takeArray 1 = .ok (.istore 4, 2) := by decide +kernel
theorem dX4_takeArray_3 : decode cX4_takeArray 3 = .ok (.iconst 0, 1) := by decide +kernel
theorem dX4_takeArray_4 : decode cX4_takeArray 4 = .ok (.istore 5, 2) := by decide +kernel
theorem dX4_takeArray_6 : decode cX4_takeArray 6 = .ok (.iload 5, 2) := by decide +kernel
theorem dX4_takeArray_8 : decode cX4_takeArray 8 = .ok (.iload_n 3, 1) := by decide +kernel
theorem dX4_takeArray_9 : decode cX4_takeArray 9 = .ok (.if_icmp .ge 62, 3) := by decide +kernel
theorem dX4_takeArray_12 : decode cX4_takeArray 12 = .ok (.aload_n 0, 1) := by decide +kernel
theorem dX4_takeArray_13 : decode cX4_takeArray 13 = .ok (.iconst 2, 1) := by decide +kernel
theorem dX4_takeArray_14 : decode cX4_takeArray 14 = .ok (.invokevirtual 75, 3) := by decide +kernel
theorem dX4_takeArray_17 : decode cX4_takeArray 17 = .ok (.ifCond .ne 5, 3) := by decide +kernel
theorem dX4_takeArray_20 : decode cX4_takeArray 20 = .ok (.iconst 0, 1) := by decide +kernel
theorem dX4_takeArray_21 : decode cX4_takeArray 21 = .ok (.ireturn, 1) := by decide +kernel
theorem dX4_takeArray_22 : decode cX4_takeArray 22 = .ok (.aload_n 0, 1) := by decide +kernel
theorem dX4_takeArray_23 : decode cX4_takeArray 23 = .ok (.aload_n 1, 1) := by decide +kernel
theorem dX4_takeArray_24 : decode cX4_takeArray 24 = .ok (.iconst 2, 1) := by decide +kernel
theorem dX4_takeArray_25 : decode cX4_takeArray 25 = .ok (.invokevirtual 79, 3) := by decide +kernel
theorem dX4_takeArray_28 : decode cX4_takeArray 28 = .ok (.l2i, 1) := by decide +kernel
theorem dX4_takeArray_29 : decode cX4_takeArray 29 = .ok (.istore 6, 2) := by decide +kernel
theorem dX4_takeArray_31 : decode cX4_takeArray 31 = .ok (.iload 6, 2) := by decide +kernel
theorem dX4_takeArray_33 : decode cX4_takeArray 33 = .ok (.iload 4, 2) := by decide +kernel
theorem dX4_takeArray_35 : decode cX4_takeArray 35 = .ok (.if_icmp .gt 16, 3) := by decide +kernel
theorem dX4_takeArray_38 : decode cX4_takeArray 38 = .ok (.aload_n 0, 1) := by decide +kernel
theorem dX4_takeArray_39 : decode cX4_takeArray 39 = .ok (.bipush 7, 2) := by decide +kernel
theorem dX4_takeArray_41 : decode cX4_takeArray 41 = .ok (.aload_n 0, 1) := by decide +kernel
theorem dX4_takeArray_42 : decode cX4_takeArray 42 = .ok (.getfield 25, 3) := by decide +kernel
theorem dX4_takeArray_45 : decode cX4_takeArray 45 = .ok (.iconst 2, 1) := by decide +kernel
theorem dX4_takeArray_46 : decode cX4_takeArray 46 = .ok (.isub, 1) := by decide +kernel
theorem dX4_takeArray_47 : decode cX4_takeArray 47 = .ok (.invokevirtual 67, 3) := by decide +kernel
theorem dX4_takeArray_50 : decode cX4_takeArray 50 = .ok (.ireturn, 1) := by decide +kernel
theorem dX4_takeArray_51 : decode cX4_takeArray 51 = .ok (.aload_n 2, 1) := by decide +kernel
theorem dX4_takeArray_52 : decode cX4_takeArray 52 = .ok (.iload 6, 2) := by decide +kernel
theorem dX4_takeArray_54 : decode cX4_takeArray 54 = .ok (.iload 6, 2) := by decide +kernel
theorem dX4_takeArray_56 : decode cX4_takeArray 56 = .ok (.iconst 0, 1) := by decide +kernel
theorem dX4_takeArray_57 : decode cX4_takeArray 57 = .ok (.invokevirtual 121, 3) := by decide +kernel
theorem dX4_takeArray_60 : decode cX4_takeArray 60 = .ok (.pop, 1) := by decide +kernel
theorem dX4_takeArray_61 : decode cX4_takeArray 61 = .ok (.iload 6, 2) := by decide +kernel
theorem dX4_takeArray_63 : decode cX4_takeArray 63 = .ok (.istore 4, 2) := by decide +kernel
theorem dX4_takeArray_65 : decode cX4_takeArray 65 = .ok (.iinc 5 1, 3) := by decide +kernel
theorem dX4_takeArray_68 : decode cX4_takeArray 68 = .ok (.goto (-62), 3) := by decide +kernel
theorem dX4_takeArray_71 : decode cX4_takeArray 71 = .ok (.iconst 1, 1) := by decide +kernel
theorem dX4_takeArray_72 : decode cX4_takeArray 72 = .ok (.ireturn, 1) := by decide +kernel
set_option maxRecDepth 20000 in
theorem ggX4_takeBitmap_X4_isThere : GoodIn wsX4_takeBitmap wsX4_isThere := goodIn_r _ [8, 9, 3, 10, 11, 12, 7, 13, 14, 15, 41, 42, 43, 44, 45, 46, 47, 48, 49, 50] (by decide +kernel) (by decide +kernel)
set_option maxRecDepth 20000 in
theorem gX4_takeBitmap_X4_isThere : GoodIn wsX4_takeBitmap (wsV RX4 75 RX4 yX4_isThere wsX4_isThere) := goodIn_app (goodIn_of _ (by decide +kernel)) ggX4_takeBitmap_X4_isThere
set_option maxRecDepth 20000 in
theorem ggX4_takeBitmap_X4_take : GoodIn wsX4_takeBitmap wsX4_take := goodIn_r _ [19, 3, 20, 21, 22, 23, 24, 25, 26, 27, 28, 29, 41, 42, 43, 44, 45, 46, 47, 48, 49, 50, 51, 52] (by decide +kernel) (by decide +kernel)
set_option maxRecDepth 20000 in
theorem gX4_takeBitmap_X4_take : GoodIn wsX4_takeBitmap (wsV RX4 79 RX4 yX4_take wsX4_take) := goodIn_app (goodIn_of _ (by decide +kernel)) ggX4_takeBitmap_X4_take
set_option maxRecDepth 20000 in
theorem ggX4_takeBitmap_J13_bitCount_95d88 : GoodIn wsX4_takeBitmap wsJ13_bitCount_95d88 := goodIn_r _ [33, 34, 35, 36] (by decide +kernel) (by decide +kernel)
set_option maxRecDepth 20000 in
theorem gX4_takeBitmap_J13_bitCount_95d88 : GoodIn wsX4_takeBitmap (va_wsS RX4 132 yJ13_bitCount_95d88 wsJ13_bitCount_95d88) := goodIn_app (goodIn_of _ (by decide +kernel)) ggX4_takeBitmap_J13_bitCount_95d88
set_option maxRecDepth 20000 in
theorem ggX4_takeBitmap_X4_tellFault : GoodIn wsX4_takeBitmap wsX4_tellFault := goodIn_r _ [13, 14, 15, 41, 42, 43, 44, 45, 46, 47, 48, 49, 50] (by decide +kernel) (by decide +kernel)
set_option maxRecDepth 20000 in
theorem gX4_takeBitmap_X4_tellFault : GoodIn wsX4_takeBitmap (wsV RX4 67 RX4 yX4_tellFault wsX4_tellFault) := goodIn_app (goodIn_of _ (by decide +kernel)) ggX4_takeBitmap_X4_tellFault
theorem dX4_takeBitmap_0 : decode cX4_takeBitmap 0 = .ok (.aload_n 0, 1) := by decide +kernel
theorem dX4_takeBitmap_1 : decode cX4_takeBitmap 1 = .ok (.sipush 8192, 3) := by decide +kernel
theorem dX4_takeBitmap_4 : decode cX4_takeBitmap 4 = .ok (.invokevirtual 75, 3) := by decide +kernel
theorem dX4_takeBitmap_7 : decode cX4_takeBitmap 7 = .ok (.ifCond .ne 5, 3) := by decide +kernel
theorem dX4_takeBitmap_10 : decode cX4_takeBitmap 10 = .ok (.iconst 0, 1) := by decide +kernel
theorem dX4_takeBitmap_11 : decode cX4_takeBitmap 11 = .ok (.ireturn, 1) := by decide +kernel
theorem dX4_takeBitmap_12 : decode cX4_takeBitmap 12 = .ok (.iconst 0, 1) := by decide +kernel
theorem dX4_takeBitmap_13 : decode cX4_takeBitmap 13 = .ok (.istore 4, 2) := by decide +kernel
theorem dX4_takeBitmap_15 : decode cX4_takeBitmap 15 = .ok (.iload 4, 2) := by decide +kernel
theorem dX4_takeBitmap_17 : decode cX4_takeBitmap 17 = .ok (.sipush 1024, 3) := by decide +kernel
theorem dX4_takeBitmap_20 : decode cX4_takeBitmap 20 = .ok (.if_icmp .ge 42, 3) := by decide +kernel
theorem dX4_takeBitmap_23 : decode cX4_takeBitmap 23 = .ok (.aload_n 2, 1) := by decide +kernel
theorem dX4_takeBitmap_24 : decode cX4_takeBitmap 24 = .ok (.getfield 125, 3) := by decide +kernel
theorem dX4_takeBitmap_27 : decode cX4_takeBitmap 27 = .ok (.iload 4, 2) := by decide +kernel
theorem dX4_takeBitmap_29 : decode cX4_takeBitmap 29 = .ok (.aload_n 0, 1) := by decide +kernel
theorem dX4_takeBitmap_30 : decode cX4_takeBitmap 30 = .ok (.aload_n 1, 1) := by decide +kernel
theorem dX4_takeBitmap_31 : decode cX4_takeBitmap 31 = .ok (.bipush 8, 2) := by decide +kernel
theorem dX4_takeBitmap_33 : decode cX4_takeBitmap 33 = .ok (.invokevirtual 79, 3) := by decide +kernel
theorem dX4_takeBitmap_36 : decode cX4_takeBitmap 36 = .ok (.lastore, 1) := by decide +kernel
theorem dX4_takeBitmap_37 : decode cX4_takeBitmap 37 = .ok (.aload_n 2, 1) := by decide +kernel
theorem dX4_takeBitmap_38 : decode cX4_takeBitmap 38 = .ok (.dup, 1) := by decide +kernel
theorem dX4_takeBitmap_39 : decode cX4_takeBitmap 39 = .ok (.getfield 129, 3) := by decide +kernel
theorem dX4_takeBitmap_42 : decode cX4_takeBitmap 42 = .ok (.aload_n 2, 1) := by decide +kernel
theorem dX4_takeBitmap_43 : decode cX4_takeBitmap 43 = .ok (.getfield 125, 3) := by decide +kernel
theorem dX4_takeBitmap_46 : decode cX4_takeBitmap 46 = .ok (.iload 4, 2) := by decide +kernel
theorem dX4_takeBitmap_48 : decode cX4_takeBitmap 48 = .ok (.laload, 1) := by decide +kernel
theorem dX4_takeBitmap_49 : decode cX4_takeBitmap 49 = .ok (.invokestatic 132, 3) := by decide +kernel
theorem dX4_takeBitmap_52 : decode cX4_takeBitmap 52 = .ok (.iadd, 1) := by decide +kernel
theorem dX4_takeBitmap_53 : decode cX4_takeBitmap 53 = .ok (.putfield 129, 3) := by decide +kernel
theorem dX4_takeBitmap_56 : decode cX4_takeBitmap 56 = .ok (.iinc 4 1, 3) := by decide +kernel
theorem dX4_takeBitmap_59 : decode cX4_takeBitmap 59 = .ok (.goto (-44), 3) := by decide +kernel
theorem dX4_takeBitmap_62 : decode cX4_takeBitmap 62 = .ok (.aload_n 2, 1) := by decide +kernel
theorem dX4_takeBitmap_63 : decode cX4_takeBitmap 63 = .ok (.getfield 129, 3) := by decide +kernel
theorem dX4_takeBitmap_66 : decode cX4_takeBitmap 66 = .ok (.iload_n 3, 1) := by decide +kernel
theorem dX4_takeBitmap_67 : decode cX4_takeBitmap 67 = .ok (.if_icmp .eq 16, 3) := by decide +kernel
theorem dX4_takeBitmap_70 : decode cX4_takeBitmap 70 = .ok (.aload_n 0, 1) := by decide +kernel
theorem dX4_takeBitmap_71 : decode cX4_takeBitmap 71 = .ok (.bipush 8, 2) := by decide +kernel
theorem dX4_takeBitmap_73 : decode cX4_takeBitmap 73 = .ok (.aload_n 0, 1) := by decide +kernel
theorem dX4_takeBitmap_74 : decode cX4_takeBitmap 74 = .ok (.getfield 25, 3) := by decide +kernel
theorem dX4_takeBitmap_77 : decode cX4_takeBitmap 77 = .ok (.invokevirtual 67, 3) := by decide +kernel
theorem dX4_takeBitmap_80 : decode cX4_takeBitmap 80 = .ok (.ifCond .eq 7, 3) := by decide +kernel
theorem dX4_takeBitmap_83 : decode cX4_takeBitmap 83 = .ok (.iconst 1, 1) := by decide +kernel
theorem dX4_takeBitmap_84 : decode cX4_takeBitmap 84 = .ok (.goto 4, 3) := by decide +kernel
theorem dX4_takeBitmap_87 : decode cX4_takeBitmap 87 = .ok (.iconst 0, 1) := by decide +kernel
theorem dX4_takeBitmap_88 : decode cX4_takeBitmap 88 = .ok (.ireturn, 1) := by decide +kernel
set_option maxRecDepth 20000 in
theorem ggX4_takeRuns_X4_isThere : GoodIn wsX4_takeRuns wsX4_isThere := goodIn_r _ [8, 9, 2, 10, 11, 12, 7, 13, 14, 15, 48, 49, 50, 51, 52, 53, 54, 55, 56, 57] (by decide +kernel) (by decide +kernel)
set_option maxRecDepth 20000 in
theorem gX4_takeRuns_X4_isThere : GoodIn wsX4_takeRuns (wsV RX4 75 RX4 yX4_isThere wsX4_isThere) := goodIn_app (goodIn_of _ (by decide +kernel)) ggX4_takeRuns_X4_isThere
set_option maxRecDepth 20000 in
theorem ggX4_takeRuns_X4_take : GoodIn wsX4_takeRuns wsX4_take := goodIn_r _ [19, 2, 20, 21, 22, 23, 24, 25, 26, 27, 28, 29, 48, 49, 50, 51, 52, 53, 54, 55, 56, 57, 62, 63] (by decide +kernel) (by decide +kernel)
set_option maxRecDepth 20000 in
theorem gX4_takeRuns_X4_take : GoodIn wsX4_takeRuns (wsV RX4 79 RX4 yX4_take wsX4_take) := goodIn_app (goodIn_of _ (by decide +kernel)) ggX4_takeRuns_X4_take
set_option maxRecDepth 20000 in
theorem ggX4_takeRuns_X4_tellFault : GoodIn wsX4_takeRuns wsX4_tellFault := goodIn_r _ [13, 14, 15, 48, 49, 50, 51, 52, 53, 54, 55, 56, 57] (by decide +kernel) (by decide +kernel)
set_option maxRecDepth 20000 in
theorem gX4_takeRuns_X4_tellFault : GoodIn wsX4_takeRuns (wsV RX4 67 RX4 yX4_tellFault wsX4_tellFault) := goodIn_app (goodIn_of _ (by decide +kernel)) ggX4_takeRuns_X4_tellFault
set_option maxRecDepth 20000 in
theorem ggX4_takeRuns_X1_changeLows : GoodIn wsX4_takeRuns wsX1_changeLows := goodIn_r _ [34, 35, 36, 37, 38, 39, 33, 40, 41, 42, 43, 44, 45, 46, 47, 58, 59, 60, 61] (by decide +kernel) (by decide +kernel)
set_option maxRecDepth 20000 in
theorem gX4_takeRuns_X1_changeLows : GoodIn wsX4_takeRuns (wsV RX4 121 RX1 yX1_changeLows wsX1_changeLows) := goodIn_app (goodIn_of _ (by decide +kernel)) ggX4_takeRuns_X1_changeLows
theorem dX4_takeRuns_0 : decode cX4_takeRuns 0 = .ok (.aload_n 0, 1) := by decide +kernel
theorem dX4_takeRuns_1 : decode cX4_takeRuns 1 = .ok (.iconst 2, 1) := by decide +kernel
theorem dX4_takeRuns_2 : decode cX4_takeRuns 2 = .ok (.invokevirtual 75, 3) := by decide +kernel
theorem dX4_takeRuns_5 : decode cX4_takeRuns 5 = .ok (.ifCond .ne 5, 3) := by decide +kernel
theorem dX4_takeRuns_8 : decode cX4_takeRuns 8 = .ok (.iconst 0, 1) := by decide +kernel
theorem dX4_takeRuns_9 : decode cX4_takeRuns 9 = .ok (.ireturn, 1) := by decide +kernel
theorem dX4_takeRuns_10 : decode cX4_takeRuns 10 = .ok (.aload_n 0, 1) := by decide +kernel
theorem dX4_takeRuns_11 : decode cX4_takeRuns 11 = .ok (.aload_n 1, 1) := by decide +kernel
theorem dX4_takeRuns_12 : decode cX4_takeRuns 12 = .ok (.iconst 2, 1) := by decide +kernel
theorem dX4_takeRuns_13 : decode cX4_takeRuns 13 = .ok (.invokevirtual 79, 3) := by decide +kernel
theorem dX4_takeRuns_16 : decode cX4_takeRuns 16 = .ok (.l2i, 1) := by decide +kernel
theorem dX4_takeRuns_17 : decode cX4_takeRuns 17 = .ok (.istore 4, 2) := by decide +kernel
theorem dX4_takeRuns_19 : decode cX4_takeRuns 19 = .ok (.iconst 0, 1) := by decide +kernel
theorem dX4_takeRuns_20 : decode cX4_takeRuns 20 = .ok (.istore 5, 2) := by decide +kernel
theorem dX4_takeRuns_22 : decode cX4_takeRuns 22 = .ok (.iconst 0, 1) := by decide +kernel
theorem dX4_takeRuns_23 : decode cX4_takeRuns 23 = .ok (.istore 6, 2) := by decide +kernel
theorem dX4_takeRuns_25 : decode cX4_takeRuns 25 = .ok (.iload 6, 2) := by decide +kernel
theorem dX4_takeRuns_27 : decode cX4_takeRuns 27 = .ok (.iload 4, 2) := by decide +kernel
theorem dX4_takeRuns_29 : decode cX4_takeRuns 29 = .ok (.if_icmp .ge 83, 3) := by decide +kernel
theorem dX4_takeRuns_32 : decode cX4_takeRuns 32 = .ok (.aload_n 0, 1) := by decide +kernel
theorem dX4_takeRuns_33 : decode cX4_takeRuns 33 = .ok (.iconst 4, 1) := by decide +kernel
theorem dX4_takeRuns_34 : decode cX4_takeRuns 34 = .ok (.invokevirtual 75, 3) := by decide +kernel
theorem dX4_takeRuns_37 : decode cX4_takeRuns 37 = .ok (.ifCond .ne 5, 3) := by decide +kernel
theorem dX4_takeRuns_40 : decode cX4_takeRuns 40 = .ok (.iconst 0, 1) := by decide +kernel
theorem dX4_takeRuns_41 : decode cX4_takeRuns 41 = .ok (.ireturn, 1) := by decide +kernel
theorem dX4_takeRuns_42 : decode cX4_takeRuns 42 = .ok (.aload_n 0, 1) := by decide +kernel
theorem dX4_takeRuns_43 : decode cX4_takeRuns 43 = .ok (.aload_n 1, 1) := by decide +kernel
theorem dX4_takeRuns_44 : decode cX4_takeRuns 44 = .ok (.iconst 2, 1) := by decide +kernel
theorem dX4_takeRuns_45 : decode cX4_takeRuns 45 = .ok (.invokevirtual 79, 3) := by decide +kernel
theorem dX4_takeRuns_48 : decode cX4_takeRuns 48 = .ok (.l2i, 1) := by decide +kernel
theorem dX4_takeRuns_49 : decode cX4_takeRuns 49 = .ok (.istore 7, 2) := by decide +kernel
theorem dX4_takeRuns_51 : decode cX4_takeRuns 51 = .ok (.iload 7, 2) := by decide +kernel
theorem dX4_takeRuns_53 : decode cX4_takeRuns 53 = .ok (.aload_n 0, 1) := by decide +kernel
theorem dX4_takeRuns_54 : decode cX4_takeRuns 54 = .ok (.aload_n 1, 1) := by decide +kernel
theorem dX4_takeRuns_55 : decode cX4_takeRuns 55 = .ok (.iconst 2, 1) := by decide +kernel
theorem dX4_takeRuns_56 : decode cX4_takeRuns 56 = .ok (.invokevirtual 79, 3) := by decide +kernel
theorem dX4_takeRuns_59 : decode cX4_takeRuns 59 = .ok (.l2i, 1) := by decide +kernel
theorem dX4_takeRuns_60 : decode cX4_takeRuns 60 = .ok (.iadd, 1) := by decide +kernel
theorem dX4_takeRuns_61 : decode cX4_takeRuns 61 = .ok (.istore 8, 2) := by decide +kernel
theorem dX4_takeRuns_63 : decode cX4_takeRuns 63 = .ok (.iload 7, 2) := by decide +kernel
theorem dX4_takeRuns_65 : decode cX4_takeRuns 65 = .ok (.iload 5, 2) := by decide +kernel
theorem dX4_takeRuns_67 : decode cX4_takeRuns 67 = .ok (.if_icmp .lt 10, 3) := by decide +kernel
theorem dX4_takeRuns_70 : decode cX4_takeRuns 70 = .ok (.iload 8, 2) := by decide +kernel
theorem dX4_takeRuns_72 : decode cX4_takeRuns 72 = .ok (.ldc 138, 2) := by decide +kernel
theorem dX4_takeRuns_74 : decode cX4_takeRuns 74 = .ok (.if_icmp .le 16, 3) := by decide +kernel
theorem dX4_takeRuns_77 : decode cX4_takeRuns 77 = .ok (.aload_n 0, 1) := by decide +kernel
theorem dX4_takeRuns_78 : decode cX4_takeRuns 78 = .ok (.bipush 7, 2) := by decide +kernel
theorem dX4_takeRuns_80 : decode cX4_takeRuns 80 = .ok (.aload_n 0, 1) := by decide +kernel
theorem dX4_takeRuns_81 : decode cX4_takeRuns 81 = .ok (.getfield 25, 3) := by decide +kernel
theorem dX4_takeRuns_84 : decode cX4_takeRuns 84 = .ok (.iconst 4, 1) := by decide +kernel
theorem dX4_takeRuns_85 : decode cX4_takeRuns 85 = .ok (.isub, 1) := by decide +kernel
theorem dX4_takeRuns_86 : decode cX4_takeRuns 86 = .ok (.invokevirtual 67, 3) := by decide +kernel
theorem dX4_takeRuns_89 : decode cX4_takeRuns 89 = .ok (.ireturn, 1) := by decide +kernel
theorem dX4_takeRuns_90 : decode cX4_takeRuns 90 = .ok (.aload_n 2, 1) := by decide +kernel
theorem dX4_takeRuns_91 : decode cX4_takeRuns 91 = .ok (.iload 7, 2) := by decide +kernel
theorem dX4_takeRuns_93 : decode cX4_takeRuns 93 = .ok (.iload 8, 2) := by decide +kernel
theorem dX4_takeRuns_95 : decode cX4_takeRuns 95 = .ok (.iconst 0, 1) := by decide +kernel
theorem dX4_takeRuns_96 : decode cX4_takeRuns 96 = .ok (.invokevirtual 121, 3) := by decide +kernel
theorem dX4_takeRuns_99 : decode cX4_takeRuns 99 = .ok (.pop, 1) := by decide +kernel
theorem dX4_takeRuns_100 : decode cX4_takeRuns 100 = .ok (.iload 8, 2) := by decide +kernel
theorem dX4_takeRuns_102 : decode cX4_takeRuns 102 = .ok (.iconst 2, 1) := by decide +kernel
theorem dX4_takeRuns_103 : decode cX4_takeRuns 103 = .ok (.iadd, 1) := by decide +kernel
theorem dX4_takeRuns_104 : decode cX4_takeRuns 104 = .ok (.istore 5, 2) := by decide +kernel
theorem dX4_takeRuns_106 : decode cX4_takeRuns 106 = .ok (.iinc 6 1, 3) := by decide +kernel
theorem dX4_takeRuns_109 : decode cX4_takeRuns 109 = .ok (.goto (-84), 3) := by decide +kernel
theorem dX4_takeRuns_112 : decode cX4_takeRuns 112 = .ok (.aload_n 2, 1) := by decide +kernel
theorem dX4_takeRuns_113 : decode cX4_takeRuns 113 = .ok (.getfield 129, 3) := by decide +kernel
theorem dX4_takeRuns_116 : decode cX4_takeRuns 116 = .ok (.iload_n 3, 1) := by decide +kernel
theorem dX4_takeRuns_117 : decode cX4_takeRuns 117 = .ok (.if_icmp .eq 16, 3) := by decide +kernel
theorem dX4_takeRuns_120 : decode cX4_takeRuns 120 = .ok (.aload_n 0, 1) := by decide +kernel
theorem dX4_takeRuns_121 : decode cX4_takeRuns 121 = .ok (.bipush 8, 2) := by decide +kernel
theorem dX4_takeRuns_123 : decode cX4_takeRuns 123 = .ok (.aload_n 0, 1) := by decide +kernel
theorem dX4_takeRuns_124 : decode cX4_takeRuns 124 = .ok (.getfield 25, 3) := by decide +kernel
theorem dX4_takeRuns_127 : decode cX4_takeRuns 127 = .ok (.invokevirtual 67, 3) := by decide +kernel
theorem dX4_takeRuns_130 : decode cX4_takeRuns 130 = .ok (.ifCond .eq 7, 3) := by decide +kernel
theorem dX4_takeRuns_133 : decode cX4_takeRuns 133 = .ok (.iconst 1, 1) := by decide +kernel
theorem dX4_takeRuns_134 : decode cX4_takeRuns 134 = .ok (.goto 4, 3) := by decide +kernel
theorem dX4_takeRuns_137 : decode cX4_takeRuns 137 = .ok (.iconst 0, 1) := by decide +kernel
theorem dX4_takeRuns_138 : decode cX4_takeRuns 138 = .ok (.ireturn, 1) := by decide +kernel
set_option maxRecDepth 20000 in
theorem ggX5_bytesOf_X5_headBytesOf : GoodIn wsX5_bytesOf wsX5_headBytesOf := goodIn_r _ [6, 1, 7, 8, 5, 9, 10, 11, 12, 13, 14, 15, 16, 17, 18, 19, 20, 40, 41, 42, 43, 44, 45] (by decide +kernel) (by decide +kernel)
set_option maxRecDepth 20000 in
theorem gX5_bytesOf_X5_headBytesOf : GoodIn wsX5_bytesOf (va_wsS RX5 9 yX5_headBytesOf wsX5_headBytesOf) := goodIn_app (goodIn_of _ (by decide +kernel)) ggX5_bytesOf_X5_headBytesOf
set_option maxRecDepth 20000 in
theorem ggX5_bytesOf_X5_bodyBytesOf : GoodIn wsX5_bytesOf wsX5_bodyBytesOf := goodIn_r _ [23, 24, 25, 26, 27, 28, 29, 30, 31, 32, 33, 34, 35, 36, 37, 38, 39, 42, 43, 44, 45] (by decide +kernel) (by decide +kernel)
set_option maxRecDepth 20000 in
theorem gX5_bytesOf_X5_bodyBytesOf : GoodIn wsX5_bytesOf (va_wsS RX5 25 yX5_bodyBytesOf wsX5_bodyBytesOf) := goodIn_app (goodIn_of _ (by decide +kernel)) ggX5_bytesOf_X5_bodyBytesOf
theorem dX5_bytesOf_0 : decode cX5_bytesOf 0 = .ok (.aload_n 0, 1) := by decide +kernel
theorem dX5_bytesOf_1 : decode cX5_bytesOf 1 = .ok (.invokestatic 9, 3) := by decide +kernel
theorem dX5_bytesOf_4 : decode cX5_bytesOf 4 = .ok (.istore_n 1, 1) := by decide +kernel
theorem dX5_bytesOf_5 : decode cX5_bytesOf 5 = .ok (.iconst 0, 1) := by decide +kernel
theorem dX5_bytesOf_6 : decode cX5_bytesOf 6 = .ok (.istore_n 2, 1) := by decide +kernel
theorem dX5_bytesOf_7 : decode cX5_bytesOf 7 = .ok (.iload_n 2, 1) := by decide +kernel
theorem dX5_bytesOf_8 : decode cX5_bytesOf 8 = .ok (.aload_n 0, 1) := by decide +kernel
theorem dX5_bytesOf_9 : decode cX5_bytesOf 9 = .ok (.getfield 15, 3) := by decide +kernel
theorem dX5_bytesOf_12 : decode cX5_bytesOf 12 = .ok (.if_icmp .ge 21, 3) := by decide +kernel
theorem dX5_bytesOf_15 : decode cX5_bytesOf 15 = .ok (.iload_n 1, 1) := by decide +kernel
theorem dX5_bytesOf_16 : decode cX5_bytesOf 16 = .ok (.aload_n 0, 1) := by decide +kernel
theorem dX5_bytesOf_17 : decode cX5_bytesOf 17 = .ok (.getfield 21, 3) := by decide +kernel
theorem dX5_bytesOf_20 : decode cX5_bytesOf 20 = .ok (.iload_n 2, 1) := by decide +kernel
theorem dX5_bytesOf_21 : decode cX5_bytesOf 21 = .ok (.aaload, 1) := by decide +kernel
theorem dX5_bytesOf_22 : decode cX5_bytesOf 22 = .ok (.invokestatic 25, 3) := by decide +kernel
theorem dX5_bytesOf_25 : decode cX5_bytesOf 25 = .ok (.iadd, 1) := by decide +kernel
theorem dX5_bytesOf_26 : decode cX5_bytesOf 26 = .ok (.istore_n 1, 1) := by decide +kernel
theorem dX5_bytesOf_27 : decode cX5_bytesOf 27 = .ok (.iinc 2 1, 3) := by decide +kernel
theorem dX5_bytesOf_30 : decode cX5_bytesOf 30 = .ok (.goto (-23), 3) := by decide +kernel
theorem dX5_bytesOf_33 : decode cX5_bytesOf 33 = .ok (.iload_n 1, 1) := by decide +kernel
theorem dX5_bytesOf_34 : decode cX5_bytesOf 34 = .ok (.ireturn, 1) := by decide +kernel
set_option maxRecDepth 20000 in
theorem ggX5_putSet_X5_putMark : GoodIn wsX5_putSet wsX5_putMark := goodIn_r _ [8, 9, 1, 2, 10, 11, 12, 13, 7, 14, 15, 16, 17, 18, 19, 20, 21, 22, 23, 24, 25, 26, 27, 28, 29, 30, 31, 32, 33, 34, 35, 36, 37, 38, 39, 40, 41, 42, 43, 44, 45, 46, 47, 48, 49, 112, 113, 114, 115, 116, 117, 118, 119] (by decide +kernel) (by decide +kernel)
set_option maxRecDepth 20000 in
theorem gX5_putSet_X5_putMark : GoodIn wsX5_putSet (va_wsS RX5 29 yX5_putMark wsX5_putMark) := goodIn_app (goodIn_of _ (by decide +kernel)) ggX5_putSet_X5_putMark
set_option maxRecDepth 20000 in
theorem ggX5_putSet_X0_put : GoodIn wsX5_putSet wsX0_put := goodIn_r _ [27, 28, 29, 30, 31, 32, 33, 34, 35, 36, 37, 38, 39, 40, 41, 42, 43, 44, 45, 46, 47, 48, 49, 118, 119] (by decide +kernel) (by decide +kernel)
set_option maxRecDepth 20000 in
theorem gX5_putSet_X0_put : GoodIn wsX5_putSet (wsV RX5 38 RX0 yX0_put wsX0_put) := goodIn_app (goodIn_of _ (by decide +kernel)) ggX5_putSet_X0_put
set_option maxRecDepth 20000 in
theorem ggX5_putSet_X5_hasPlaces : GoodIn wsX5_putSet wsX5_hasPlaces := goodIn_r _ [52, 1, 12, 13, 7, 14, 15, 16, 17, 18, 19, 20, 21, 22, 112, 113, 114, 115, 116, 117] (by decide +kernel) (by decide +kernel)
set_option maxRecDepth 20000 in
theorem gX5_putSet_X5_hasPlaces : GoodIn wsX5_putSet (va_wsS RX5 47 yX5_hasPlaces wsX5_hasPlaces) := goodIn_app (goodIn_of _ (by decide +kernel)) ggX5_putSet_X5_hasPlaces
set_option maxRecDepth 20000 in
theorem ggX5_putSet_X5_putPlaces : GoodIn wsX5_putSet wsX5_putPlaces := goodIn_r _ [55, 1, 2, 56, 57, 7, 58, 12, 13, 14, 15, 16, 17, 18, 19, 20, 21, 22, 50, 51, 52, 23, 24, 25, 26, 27, 28, 29, 30, 31, 32, 33, 34, 35, 36, 37, 38, 39, 40, 41, 42, 43, 44, 45, 46, 47, 48, 49, 59, 60, 61, 10, 4, 62, 63, 64, 65, 66, 67, 68, 69, 70, 71, 72, 73, 74, 75, 112, 113, 114, 115, 116, 117, 118, 119] (by decide +kernel) (by decide +kernel)
set_option maxRecDepth 20000 in
theorem gX5_putSet_X5_putPlaces : GoodIn wsX5_putSet (va_wsS RX5 51 yX5_putPlaces wsX5_putPlaces) := goodIn_app (goodIn_of _ (by decide +kernel)) ggX5_putSet_X5_putPlaces
set_option maxRecDepth 20000 in
theorem ggX5_putSet_X5_putBody : GoodIn wsX5_putSet wsX5_putBody := goodIn_r _ [78, 10, 79, 80, 7, 81, 82, 83, 70, 71, 72, 73, 74, 75, 84, 85, 86, 87, 88, 89, 90, 91, 23, 24, 25, 26, 27, 28, 29, 30, 31, 32, 33, 34, 35, 36, 37, 38, 39, 40, 41, 42, 43, 44, 45, 46, 47, 48, 49, 92, 93, 94, 95, 96, 97, 62, 63, 64, 65, 66, 67, 68, 69, 98, 99, 100, 101, 102, 103, 104, 105, 106, 107, 108, 109, 110, 111, 114, 115, 116, 117, 118, 119] (by decide +kernel) (by decide +kernel)
set_option maxRecDepth 20000 in
theorem gX5_putSet_X5_putBody : GoodIn wsX5_putSet (va_wsS RX5 54 yX5_putBody wsX5_putBody) := goodIn_app (goodIn_of _ (by decide +kernel)) ggX5_putSet_X5_putBody
theorem dX5_putSet_0 : decode cX5_putSet 0 = .ok (.aload_n 0, 1) := by decide +kernel
theorem dX5_putSet_1 : decode cX5_putSet 1 = .ok (.aload_n 1, 1) := by decide +kernel
theorem dX5_putSet_2 : decode cX5_putSet 2 = .ok (.invokestatic 29, 3) := by decide +kernel
theorem dX5_putSet_5 : decode cX5_putSet 5 = .ok (.iconst 0, 1) := by decide +kernel
theorem dX5_putSet_6 : decode cX5_putSet 6 = .ok (.istore_n 2, 1) := by decide +kernel
theorem dX5_putSet_7 : decode cX5_putSet 7 = .ok (.iload_n 2, 1) := by decide +kernel
theorem dX5_putSet_8 : decode cX5_putSet 8 = .ok (.aload_n 0, 1) := by decide +kernel
theorem dX5_putSet_9 : decode cX5_putSet 9 = .ok (.getfield 15, 3) := by decide +kernel
theorem dX5_putSet_12 : decode cX5_putSet 12 = .ok (.if_icmp .ge 41, 3) := by decide +kernel
theorem dX5_putSet_15 : decode cX5_putSet 15 = .ok (.aload_n 1, 1) := by decide +kernel
theorem dX5_putSet_16 : decode cX5_putSet 16 = .ok (.aload_n 0, 1) := by decide +kernel
theorem dX5_putSet_17 : decode cX5_putSet 17 = .ok (.getfield 21, 3) := by decide +kernel
theorem dX5_putSet_20 : decode cX5_putSet 20 = .ok (.iload_n 2, 1) := by decide +kernel
theorem dX5_putSet_21 : decode cX5_putSet 21 = .ok (.aaload, 1) := by decide +kernel
theorem dX5_putSet_22 : decode cX5_putSet 22 = .ok (.getfield 33, 3) := by decide +kernel
theorem dX5_putSet_25 : decode cX5_putSet 25 = .ok (.i2l, 1) := by decide +kernel
theorem dX5_putSet_26 : decode cX5_putSet 26 = .ok (.iconst 2, 1) := by decide +kernel
theorem dX5_putSet_27 : decode cX5_putSet 27 = .ok (.invokevirtual 38, 3) := by decide +kernel
theorem dX5_putSet_30 : decode cX5_putSet 30 = .ok (.aload_n 1, 1) := by decide +kernel
theorem dX5_putSet_31 : decode cX5_putSet 31 = .ok (.aload_n 0, 1) := by decide +kernel
theorem dX5_putSet_32 : decode cX5_putSet 32 = .ok (.getfield 21, 3) := by decide +kernel
theorem dX5_putSet_35 : decode cX5_putSet 35 = .ok (.iload_n 2, 1) := by decide +kernel
theorem dX5_putSet_36 : decode cX5_putSet 36 = .ok (.aaload, 1) := by decide +kernel
theorem dX5_putSet_37 : decode cX5_putSet 37 = .ok (.getfield 44, 3) := by decide +kernel
theorem dX5_putSet_40 : decode cX5_putSet 40 = .ok (.iconst 1, 1) := by decide +kernel
theorem dX5_putSet_41 : decode cX5_putSet 41 = .ok (.isub, 1) := by decide +kernel
theorem dX5_putSet_42 : decode cX5_putSet 42 = .ok (.i2l, 1) := by decide +kernel
theorem dX5_putSet_43 : decode cX5_putSet 43 = .ok (.iconst 2, 1) := by decide +kernel
theorem dX5_putSet_44 : decode cX5_putSet 44 = .ok (.invokevirtual 38, 3) := by decide +kernel
theorem dX5_putSet_47 : decode cX5_putSet 47 = .ok (.iinc 2 1, 3) := by decide +kernel
theorem dX5_putSet_50 : decode cX5_putSet 50 = .ok (.goto (-43), 3) := by decide +kernel
theorem dX5_putSet_53 : decode cX5_putSet 53 = .ok (.aload_n 0, 1) := by decide +kernel
theorem dX5_putSet_54 : decode cX5_putSet 54 = .ok (.invokestatic 47, 3) := by decide +kernel
theorem dX5_putSet_57 : decode cX5_putSet 57 = .ok (.ifCond .eq 8, 3) := by decide +kernel
theorem dX5_putSet_60 : decode cX5_putSet 60 = .ok (.aload_n 0, 1) := by decide +kernel
theorem dX5_putSet_61 : decode cX5_putSet 61 = .ok (.aload_n 1, 1) := by decide +kernel
theorem dX5_putSet_62 : decode cX5_putSet 62 = .ok (.invokestatic 51, 3) := by decide +kernel
theorem dX5_putSet_65 : decode cX5_putSet 65 = .ok (.iconst 0, 1) := by decide +kernel
theorem dX5_putSet_66 : decode cX5_putSet 66 = .ok (.istore_n 2, 1) := by decide +kernel
theorem dX5_putSet_67 : decode cX5_putSet 67 = .ok (.iload_n 2, 1) := by decide +kernel
theorem dX5_putSet_68 : decode cX5_putSet 68 = .ok (.aload_n 0, 1) := by decide +kernel
theorem dX5_putSet_69 : decode cX5_putSet 69 = .ok (.getfield 15, 3) := by decide +kernel
theorem dX5_putSet_72 : decode cX5_putSet 72 = .ok (.if_icmp .ge 19, 3) := by decide +kernel
theorem dX5_putSet_75 : decode cX5_putSet 75 = .ok (.aload_n 0, 1) := by decide +kernel
theorem dX5_putSet_76 : decode cX5_putSet 76 = .ok (.getfield 21, 3) := by decide +kernel
theorem dX5_putSet_79 : decode cX5_putSet 79 = .ok (.iload_n 2, 1) := by decide +kernel
theorem dX5_putSet_80 : decode cX5_putSet 80 = .ok (.aaload, 1) := by decide +kernel
theorem dX5_putSet_81 : decode cX5_putSet 81 = .ok (.aload_n 1, 1) := by decide +kernel
theorem dX5_putSet_82 : decode cX5_putSet 82 = .ok (.invokestatic 54, 3) := by decide +kernel
theorem dX5_putSet_85 : decode cX5_putSet 85 = .ok (.iinc 2 1, 3) := by decide +kernel
theorem dX5_putSet_88 : decode cX5_putSet 88 = .ok (.goto (-21), 3) := by decide +kernel
theorem dX5_putSet_91 : decode cX5_putSet 91 = .ok (.return_, 1) := by decide +kernel
set_option maxRecDepth 20000 in
theorem ggX5_hasRuns_X2_totalOfKind : GoodIn wsX5_hasRuns wsX2_totalOfKind := goodIn_r _ [5, 6, 7, 8, 9, 10, 11, 12, 13, 14] (by decide +kernel) (by decide +kernel)
set_option maxRecDepth 20000 in
theorem gX5_hasRuns_X2_totalOfKind : GoodIn wsX5_hasRuns (wsV RX5 58 RX2 yX2_totalOfKind wsX2_totalOfKind) := goodIn_app (goodIn_of _ (by decide +kernel)) ggX5_hasRuns_X2_totalOfKind
theorem dX5_hasRuns_0 : decode cX5_hasRuns 0 = .ok (.aload_n 0, 1) := by decide +kernel
theorem dX5_hasRuns_1 : decode cX5_hasRuns 1 = .ok (.iconst 2, 1) := by decide +kernel
theorem dX5_hasRuns_2 : decode cX5_hasRuns 2 = .ok (.invokevirtual 58, 3) := by decide +kernel
theorem dX5_hasRuns_5 : decode cX5_hasRuns 5 = .ok (.ifCond .le 7, 3) := by decide +kernel
theorem dX5_hasRuns_8 : decode cX5_hasRuns 8 = .ok (.iconst 1, 1) := by decide +kernel
theorem dX5_hasRuns_9 : decode cX5_hasRuns 9 = .ok (.goto 4, 3) := by decide +kernel
theorem dX5_hasRuns_12 : decode cX5_hasRuns 12 = .ok (.iconst 0, 1) := by decide +kernel
theorem dX5_hasRuns_13 : decode cX5_hasRuns 13 = .ok (.ireturn, 1) := by decide +kernel
set_option maxRecDepth 20000 in
theorem ggX5_hasPlaces_X5_hasRuns : GoodIn wsX5_hasPlaces wsX5_hasRuns := goodIn_r _ [5, 6, 7, 8, 9, 10, 11, 12, 13, 14, 15, 16, 17, 18, 19] (by decide +kernel) (by decide +kernel)
set_option maxRecDepth 20000 in
theorem gX5_hasPlaces_X5_hasRuns : GoodIn wsX5_hasPlaces (va_wsS RX5 62 yX5_hasRuns wsX5_hasRuns) := goodIn_app (goodIn_of _ (by decide +kernel)) ggX5_hasPlaces_X5_hasRuns
theorem dX5_hasPlaces_0 : decode cX5_hasPlaces 0 = .ok (.aload_n 0, 1) := by decide +kernel
theorem dX5_hasPlaces_1 : decode cX5_hasPlaces 1 = .ok (.invokestatic 62, 3) := by decide +kernel
theorem dX5_hasPlaces_4 : decode cX5_hasPlaces 4 = .ok (.ifCond .eq 11, 3) := by decide +kernel
theorem dX5_hasPlaces_7 : decode cX5_hasPlaces 7 = .ok (.aload_n 0, 1) := by decide +kernel
theorem dX5_hasPlaces_8 : decode cX5_hasPlaces 8 = .ok (.getfield 15, 3) := by decide +kernel
theorem dX5_hasPlaces_11 : decode cX5_hasPlaces 11 = .ok (.iconst 4, 1) := by decide +kernel
theorem dX5_hasPlaces_12 : decode cX5_hasPlaces 12 = .ok (.if_icmp .lt 7, 3) := by decide +kernel
theorem dX5_hasPlaces_15 : decode cX5_hasPlaces 15 = .ok (.iconst 1, 1) := by decide +kernel
theorem dX5_hasPlaces_16 : decode cX5_hasPlaces 16 = .ok (.goto 4, 3) := by decide +kernel
theorem dX5_hasPlaces_19 : decode cX5_hasPlaces 19 = .ok (.iconst 0, 1) := by decide +kernel
theorem dX5_hasPlaces_20 : decode cX5_hasPlaces 20 = .ok (.ireturn, 1) := by decide +kernel
set_option maxRecDepth 20000 in
theorem ggX5_headBytesOf_X5_hasRuns : GoodIn wsX5_headBytesOf wsX5_hasRuns := goodIn_r _ [5, 6, 7, 8, 9, 10, 11, 12, 13, 17, 18, 19, 20, 21, 22] (by decide +kernel) (by decide +kernel)
set_option maxRecDepth 20000 in
theorem gX5_headBytesOf_X5_hasRuns : GoodIn wsX5_headBytesOf (va_wsS RX5 62 yX5_hasRuns wsX5_hasRuns) := goodIn_app (goodIn_of _ (by decide +kernel)) ggX5_headBytesOf_X5_hasRuns
set_option maxRecDepth 20000 in
theorem ggX5_headBytesOf_X5_hasPlaces : GoodIn wsX5_headBytesOf wsX5_hasPlaces := goodIn_r _ [16, 1, 2, 3, 4, 5, 6, 7, 8, 9, 10, 11, 12, 13, 17, 18, 19, 20, 21, 22] (by decide +kernel) (by decide +kernel)
set_option maxRecDepth 20000 in
theorem gX5_headBytesOf_X5_hasPlaces : GoodIn wsX5_headBytesOf (va_wsS RX5 47 yX5_hasPlaces wsX5_hasPlaces) := goodIn_app (goodIn_of _ (by decide +kernel)) ggX5_headBytesOf_X5_hasPlaces
theorem dX5_headBytesOf_0 : decode cX5_headBytesOf 0 = .ok (.aload_n 0, 1) := by decide +kernel
theorem dX5_headBytesOf_1 : decode cX5_headBytesOf 1 = .ok (.invokestatic 62, 3) := by decide +kernel
theorem dX5_headBytesOf_4 : decode cX5_headBytesOf 4 = .ok (.ifCond .eq 18, 3) := by decide +kernel
theorem dX5_headBytesOf_7 : decode cX5_headBytesOf 7 = .ok (.iconst 4, 1) := by decide +kernel
theorem dX5_headBytesOf_8 : decode cX5_headBytesOf 8 = .ok (.aload_n 0, 1) := by decide +kernel
theorem dX5_headBytesOf_9 : decode cX5_headBytesOf 9 = .ok (.getfield 15, 3) := by decide +kernel
theorem dX5_headBytesOf_12 : decode cX5_headBytesOf 12 = .ok (.bipush 7, 2) := by decide +kernel
theorem dX5_headBytesOf_14 : decode cX5_headBytesOf 14 = .ok (.iadd, 1) := by decide +kernel
theorem dX5_headBytesOf_15 : decode cX5_headBytesOf 15 = .ok (.bipush 8, 2) := by decide +kernel
theorem dX5_headBytesOf_17 : decode cX5_headBytesOf 17 = .ok (.idiv, 1) := by decide +kernel
theorem dX5_headBytesOf_18 : decode cX5_headBytesOf 18 = .ok (.iadd, 1) := by decide +kernel
theorem dX5_headBytesOf_19 : decode cX5_headBytesOf 19 = .ok (.goto 5, 3) := by decide +kernel
theorem dX5_headBytesOf_22 : decode cX5_headBytesOf 22 = .ok (.bipush 8, 2) := by decide +kernel
theorem dX5_headBytesOf_24 : decode cX5_headBytesOf 24 = .ok (.istore_n 1, 1) := by decide +kernel
theorem dX5_headBytesOf_25 : decode cX5_headBytesOf 25 = .ok (.iload_n 1, 1) := by decide +kernel
theorem dX5_headBytesOf_26 : decode cX5_headBytesOf 26 = .ok (.aload_n 0, 1) := by decide +kernel
theorem dX5_headBytesOf_27 : decode cX5_headBytesOf 27 = .ok (.invokestatic 47, 3) := by decide +kernel
theorem dX5_headBytesOf_30 : decode cX5_headBytesOf 30 = .ok (.ifCond .eq 8, 3) := by decide +kernel
theorem dX5_headBytesOf_33 : decode cX5_headBytesOf 33 = .ok (.bipush 8, 2) := by decide +kernel
theorem dX5_headBytesOf_35 : decode cX5_headBytesOf 35 = .ok (.goto 4, 3) := by decide +kernel
theorem dX5_headBytesOf_38 : decode cX5_headBytesOf 38 = .ok (.iconst 4, 1) := by decide +kernel
theorem dX5_headBytesOf_39 : decode cX5_headBytesOf 39 = .ok (.aload_n 0, 1) := by decide +kernel
theorem dX5_headBytesOf_40 : decode cX5_headBytesOf 40 = .ok (.getfield 15, 3) := by decide +kernel
theorem dX5_headBytesOf_43 : decode cX5_headBytesOf 43 = .ok (.imul, 1) := by decide +kernel
theorem dX5_headBytesOf_44 : decode cX5_headBytesOf 44 = .ok (.iadd, 1) := by decide +kernel
theorem dX5_headBytesOf_45 : decode cX5_headBytesOf 45 = .ok (.ireturn, 1) := by decide +kernel
set_option maxRecDepth 20000 in
theorem ggX5_bodyBytesOf_X1_totalRuns : GoodIn wsX5_bodyBytesOf wsX1_totalRuns := goodIn_r _ [7, 8, 9, 10, 11, 12, 13, 14, 15, 16, 17, 18, 19, 20] (by decide +kernel) (by decide +kernel)
set_option maxRecDepth 20000 in
theorem gX5_bodyBytesOf_X1_totalRuns : GoodIn wsX5_bodyBytesOf (wsV RX5 68 RX1 yX1_totalRuns wsX1_totalRuns) := goodIn_app (goodIn_of _ (by decide +kernel)) ggX5_bodyBytesOf_X1_totalRuns
theorem dX5_bodyBytesOf_0 : decode cX5_bodyBytesOf 0 = .ok (.aload_n 0, 1) := by decide +kernel
theorem dX5_bodyBytesOf_1 : decode cX5_bodyBytesOf 1 = .ok (.getfield 65, 3) := by decide +kernel
theorem dX5_bodyBytesOf_4 : decode cX5_bodyBytesOf 4 = .ok (.lookupswitch 39 #[(0, 28), (1, 35)], 28) := by decide +kernel
theorem dX5_bodyBytesOf_32 : decode cX5_bodyBytesOf 32 = .ok (.iconst 2, 1) := by decide +kernel
theorem dX5_bodyBytesOf_33 : decode cX5_bodyBytesOf 33 = .ok (.aload_n 0, 1) := by decide +kernel
theorem dX5_bodyBytesOf_34 : decode cX5_bodyBytesOf 34 = .ok (.getfield 44, 3) := by decide +kernel
theorem dX5_bodyBytesOf_37 : decode cX5_bodyBytesOf 37 = .ok (.imul, 1) := by decide +kernel
theorem dX5_bodyBytesOf_38 : decode cX5_bodyBytesOf 38 = .ok (.ireturn, 1) := by decide +kernel
theorem dX5_bodyBytesOf_39 : decode cX5_bodyBytesOf 39 = .ok (.sipush 8192, 3) := by decide +kernel
theorem dX5_bodyBytesOf_42 : decode cX5_bodyBytesOf 42 = .ok (.ireturn, 1) := by decide +kernel
theorem dX5_bodyBytesOf_43 : decode cX5_bodyBytesOf 43 = .ok (.iconst 2, 1) := by decide +kernel
theorem dX5_bodyBytesOf_44 : decode cX5_bodyBytesOf 44 = .ok (.iconst 4, 1) := by decide +kernel
theorem dX5_bodyBytesOf_45 : decode cX5_bodyBytesOf 45 = .ok (.aload_n 0, 1) := by decide +kernel
theorem dX5_bodyBytesOf_46 : decode cX5_bodyBytesOf 46 = .ok (.invokevirtual 68, 3) := by decide +kernel
theorem dX5_bodyBytesOf_49 : decode cX5_bodyBytesOf 49 = .ok (.imul, 1) := by decide +kernel
theorem dX5_bodyBytesOf_50 : decode cX5_bodyBytesOf 50 = .ok (.iadd, 1) := by decide +kernel
theorem dX5_bodyBytesOf_51 : decode cX5_bodyBytesOf 51 = .ok (.ireturn, 1) := by decide +kernel
set_option maxRecDepth 20000 in
theorem ggX5_putMark_X5_hasRuns : GoodIn wsX5_putMark wsX5_hasRuns := goodIn_r _ [9, 10, 11, 12, 13, 14, 15, 16, 17, 45, 46, 47, 48, 49, 50] (by decide +kernel) (by decide +kernel)
set_option maxRecDepth 20000 in
theorem gX5_putMark_X5_hasRuns : GoodIn wsX5_putMark (va_wsS RX5 62 yX5_hasRuns wsX5_hasRuns) := goodIn_app (goodIn_of _ (by decide +kernel)) ggX5_putMark_X5_hasRuns
set_option maxRecDepth 20000 in
theorem ggX5_putMark_X0_put : GoodIn wsX5_putMark wsX0_put := goodIn_r _ [22, 23, 24, 25, 26, 27, 28, 29, 30, 31, 32, 33, 34, 35, 36, 37, 38, 39, 40, 41, 42, 43, 44, 51, 52] (by decide +kernel) (by decide +kernel)
set_option maxRecDepth 20000 in
theorem gX5_putMark_X0_put : GoodIn wsX5_putMark (wsV RX5 38 RX0 yX0_put wsX0_put) := goodIn_app (goodIn_of _ (by decide +kernel)) ggX5_putMark_X0_put
theorem dX5_putMark_0 : decode cX5_putMark 0 = .ok (.aload_n 0, 1) := by decide +kernel
theorem dX5_putMark_1 : decode cX5_putMark 1 = .ok (.invokestatic 62, 3) := by decide +kernel
theorem dX5_putMark_4 : decode cX5_putMark 4 = .ok (.ifCond .ne 22, 3) := by decide +kernel
theorem dX5_putMark_7 : decode cX5_putMark 7 = .ok (.aload_n 1, 1) := by decide +kernel
theorem dX5_putMark_8 : decode cX5_putMark 8 = .ok (.ldc2_w 72, 3) := by decide +kernel
theorem dX5_putMark_11 : decode cX5_putMark 11 = .ok (.iconst 4, 1) := by decide +kernel
theorem dX5_putMark_12 : decode cX5_putMark 12 = .ok (.invokevirtual 38, 3) := by decide +kernel
theorem dX5_putMark_15 : decode cX5_putMark 15 = .ok (.aload_n 1, 1) := by decide +kernel
theorem dX5_putMark_16 : decode cX5_putMark 16 = .ok (.aload_n 0, 1) := by decide +kernel
theorem dX5_putMark_17 : decode cX5_putMark 17 = .ok (.getfield 15, 3) := by decide +kernel
theorem dX5_putMark_20 : decode cX5_putMark 20 = .ok (.i2l, 1) := by decide +kernel
theorem dX5_putMark_21 : decode cX5_putMark 21 = .ok (.iconst 4, 1) := by decide +kernel
theorem dX5_putMark_22 : decode cX5_putMark 22 = .ok (.invokevirtual 38, 3) := by decide +kernel
theorem dX5_putMark_25 : decode cX5_putMark 25 = .ok (.return_, 1) := by decide +kernel
theorem dX5_putMark_26 : decode cX5_putMark 26 = .ok (.lconst 0, 1) := by decide +kernel
theorem dX5_putMark_27 : decode cX5_putMark 27 = .ok (.lstore_n 2, 1) := by decide +kernel
theorem dX5_putMark_28 : decode cX5_putMark 28 = .ok (.iconst 0, 1) := by decide +kernel
theorem dX5_putMark_29 : decode cX5_putMark 29 = .ok (.istore 4, 2) := by decide +kernel
theorem dX5_putMark_31 : decode cX5_putMark 31 = .ok (.iload 4, 2) := by decide +kernel
theorem dX5_putMark_33 : decode cX5_putMark 33 = .ok (.aload_n 0, 1) := by decide +kernel
theorem dX5_putMark_34 : decode cX5_putMark 34 = .ok (.getfield 15, 3) := by decide +kernel
theorem dX5_putMark_37 : decode cX5_putMark 37 = .ok (.if_icmp .ge 30, 3) := by decide +kernel
theorem dX5_putMark_40 : decode cX5_putMark 40 = .ok (.aload_n 0, 1) := by decide +kernel
theorem dX5_putMark_41 : decode cX5_putMark 41 = .ok (.getfield 21, 3) := by decide +kernel
theorem dX5_putMark_44 : decode cX5_putMark 44 = .ok (.iload 4, 2) := by decide +kernel
theorem dX5_putMark_46 : decode cX5_putMark 46 = .ok (.aaload, 1) := by decide +kernel
theorem dX5_putMark_47 : decode cX5_putMark 47 = .ok (.getfield 65, 3) := by decide +kernel
theorem dX5_putMark_50 : decode cX5_putMark 50 = .ok (.iconst 2, 1) := by decide +kernel
theorem dX5_putMark_51 : decode cX5_putMark 51 = .ok (.if_icmp .ne 10, 3) := by decide +kernel
theorem dX5_putMark_54 : decode cX5_putMark 54 = .ok (.lload_n 2, 1) := by decide +kernel
theorem dX5_putMark_55 : decode cX5_putMark 55 = .ok (.lconst 1, 1) := by decide +kernel
theorem dX5_putMark_56 : decode cX5_putMark 56 = .ok (.iload 4, 2) := by decide +kernel
theorem dX5_putMark_58 : decode cX5_putMark 58 = .ok (.lshl, 1) := by decide +kernel
theorem dX5_putMark_59 : decode cX5_putMark 59 = .ok (.lor, 1) := by decide +kernel
theorem dX5_putMark_60 : decode cX5_putMark 60 = .ok (.lstore_n 2, 1) := by decide +kernel
theorem dX5_putMark_61 : decode cX5_putMark 61 = .ok (.iinc 4 1, 3) := by decide +kernel
theorem dX5_putMark_64 : decode cX5_putMark 64 = .ok (.goto (-33), 3) := by decide +kernel
theorem dX5_putMark_67 : decode cX5_putMark 67 = .ok (.aload_n 1, 1) := by decide +kernel
theorem dX5_putMark_68 : decode cX5_putMark 68 = .ok (.ldc2_w 74, 3) := by decide +kernel
theorem dX5_putMark_71 : decode cX5_putMark 71 = .ok (.iconst 2, 1) := by decide +kernel
theorem dX5_putMark_72 : decode cX5_putMark 72 = .ok (.invokevirtual 38, 3) := by decide +kernel
theorem dX5_putMark_75 : decode cX5_putMark 75 = .ok (.aload_n 1, 1) := by decide +kernel
theorem dX5_putMark_76 : decode cX5_putMark 76 = .ok (.aload_n 0, 1) := by decide +kernel
theorem dX5_putMark_77 : decode cX5_putMark 77 = .ok (.getfield 15, 3) := by decide +kernel
theorem dX5_putMark_80 : decode cX5_putMark 80 = .ok (.iconst 1, 1) := by decide +kernel
theorem dX5_putMark_81 : decode cX5_putMark 81 = .ok (.isub, 1) := by decide +kernel
theorem dX5_putMark_82 : decode cX5_putMark 82 = .ok (.i2l, 1) := by decide +kernel
theorem dX5_putMark_83 : decode cX5_putMark 83 = .ok (.iconst 2, 1) := by decide +kernel
theorem dX5_putMark_84 : decode cX5_putMark 84 = .ok (.invokevirtual 38, 3) := by decide +kernel
theorem dX5_putMark_87 : decode cX5_putMark 87 = .ok (.aload_n 1, 1) := by decide +kernel
theorem dX5_putMark_88 : decode cX5_putMark 88 = .ok (.lload_n 2, 1) := by decide +kernel
theorem dX5_putMark_89 : decode cX5_putMark 89 = .ok (.aload_n 0, 1) := by decide +kernel
theorem dX5_putMark_90 : decode cX5_putMark 90 = .ok (.getfield 15, 3) := by decide +kernel
theorem dX5_putMark_93 : decode cX5_putMark 93 = .ok (.bipush 7, 2) := by decide +kernel
theorem dX5_putMark_95 : decode cX5_putMark 95 = .ok (.iadd, 1) := by decide +kernel
theorem dX5_putMark_96 : decode cX5_putMark 96 = .ok (.bipush 8, 2) := by decide +kernel
theorem dX5_putMark_98 : decode cX5_putMark 98 = .ok (.idiv, 1) := by decide +kernel
theorem dX5_putMark_99 : decode cX5_putMark 99 = .ok (.invokevirtual 38, 3) := by decide +kernel
theorem dX5_putMark_102 : decode cX5_putMark 102 = .ok (.return_, 1) := by decide +kernel
set_option maxRecDepth 20000 in
theorem ggX5_putPlaces_X5_headBytesOf : GoodIn wsX5_putPlaces wsX5_headBytesOf := goodIn_r _ [6, 1, 7, 8, 5, 9, 10, 11, 12, 13, 14, 15, 16, 17, 18, 19, 20, 67, 68, 69, 70, 71, 72] (by decide +kernel) (by decide +kernel)
set_option maxRecDepth 20000 in
theorem gX5_putPlaces_X5_headBytesOf : GoodIn wsX5_putPlaces (va_wsS RX5 9 yX5_headBytesOf wsX5_headBytesOf) := goodIn_app (goodIn_of _ (by decide +kernel)) ggX5_putPlaces_X5_headBytesOf
set_option maxRecDepth 20000 in
theorem ggX5_putPlaces_X0_put : GoodIn wsX5_putPlaces wsX0_put := goodIn_r _ [25, 26, 27, 28, 29, 30, 31, 32, 33, 34, 35, 36, 37, 38, 39, 40, 41, 42, 43, 44, 45, 46, 47, 73, 74] (by decide +kernel) (by decide +kernel)
set_option maxRecDepth 20000 in
theorem gX5_putPlaces_X0_put : GoodIn wsX5_putPlaces (wsV RX5 38 RX0 yX0_put wsX0_put) := goodIn_app (goodIn_of _ (by decide +kernel)) ggX5_putPlaces_X0_put
set_option maxRecDepth 20000 in
theorem ggX5_putPlaces_X5_bodyBytesOf : GoodIn wsX5_putPlaces wsX5_bodyBytesOf := goodIn_r _ [50, 51, 52, 53, 54, 55, 56, 57, 58, 59, 60, 61, 62, 63, 64, 65, 66, 69, 70, 71, 72] (by decide +kernel) (by decide +kernel)
set_option maxRecDepth 20000 in
theorem gX5_putPlaces_X5_bodyBytesOf : GoodIn wsX5_putPlaces (va_wsS RX5 25 yX5_bodyBytesOf wsX5_bodyBytesOf) := goodIn_app (goodIn_of _ (by decide +kernel)) ggX5_putPlaces_X5_bodyBytesOf
theorem dX5_putPlaces_0 : decode cX5_putPlaces 0 = .ok (.aload_n 0, 1) := by decide +kernel
theorem dX5_putPlaces_1 : decode cX5_putPlaces 1 = .ok (.invokestatic 9, 3) := by decide +kernel
theorem dX5_putPlaces_4 : decode cX5_putPlaces 4 = .ok (.istore_n 2, 1) := by decide +kernel
theorem dX5_putPlaces_5 : decode cX5_putPlaces 5 = .ok (.iconst 0, 1) := by decide +kernel
theorem dX5_putPlaces_6 : decode cX5_putPlaces 6 = .ok (.istore_n 3, 1) := by decide +kernel
theorem dX5_putPlaces_7 : decode cX5_putPlaces 7 = .ok (.iload_n 3, 1) := by decide +kernel
theorem dX5_putPlaces_8 : decode cX5_putPlaces 8 = .ok (.aload_n 0, 1) := by decide +kernel
theorem dX5_putPlaces_9 : decode cX5_putPlaces 9 = .ok (.getfield 15, 3) := by decide +kernel
theorem dX5_putPlaces_12 : decode cX5_putPlaces 12 = .ok (.if_icmp .ge 28, 3) := by decide +kernel
theorem dX5_putPlaces_15 : decode cX5_putPlaces 15 = .ok (.aload_n 1, 1) := by decide +kernel
theorem dX5_putPlaces_16 : decode cX5_putPlaces 16 = .ok (.iload_n 2, 1) := by decide +kernel
theorem dX5_putPlaces_17 : decode cX5_putPlaces 17 = .ok (.i2l, 1) := by decide +kernel
theorem dX5_putPlaces_18 : decode cX5_putPlaces 18 = .ok (.iconst 4, 1) := by decide +kernel
theorem dX5_putPlaces_19 : decode cX5_putPlaces 19 = .ok (.invokevirtual 38, 3) := by decide +kernel
theorem dX5_putPlaces_22 : decode cX5_putPlaces 22 = .ok (.iload_n 2, 1) := by decide +kernel
theorem dX5_putPlaces_23 : decode cX5_putPlaces 23 = .ok (.aload_n 0, 1) := by decide +kernel
theorem dX5_putPlaces_24 : decode cX5_putPlaces 24 = .ok (.getfield 21, 3) := by decide +kernel
theorem dX5_putPlaces_27 : decode cX5_putPlaces 27 = .ok (.iload_n 3, 1) := by decide +kernel
theorem dX5_putPlaces_28 : decode cX5_putPlaces 28 = .ok (.aaload, 1) := by decide +kernel
theorem dX5_putPlaces_29 : decode cX5_putPlaces 29 = .ok (.invokestatic 25, 3) := by decide +kernel
theorem dX5_putPlaces_32 : decode cX5_putPlaces 32 = .ok (.iadd, 1) := by decide +kernel
theorem dX5_putPlaces_33 : decode cX5_putPlaces 33 = .ok (.istore_n 2, 1) := by decide +kernel
theorem dX5_putPlaces_34 : decode cX5_putPlaces 34 = .ok (.iinc 3 1, 3) := by decide +kernel
theorem dX5_putPlaces_37 : decode cX5_putPlaces 37 = .ok (.goto (-30), 3) := by decide +kernel
theorem dX5_putPlaces_40 : decode cX5_putPlaces 40 = .ok (.return_, 1) := by decide +kernel
set_option maxRecDepth 20000 in
theorem ggX5_putBody_X5_putArray : GoodIn wsX5_putBody wsX5_putArray := goodIn_r _ [5, 6, 7, 8, 9, 10, 11, 12, 13, 14, 15, 16, 17, 18, 19, 20, 21, 22, 23, 24, 25, 26, 27, 28, 29, 30, 31, 32, 33, 34, 35, 36, 37, 38, 39, 40, 41, 42, 43, 44, 45, 46, 47, 48, 77, 78, 79, 80, 81, 82] (by decide +kernel) (by decide +kernel)
set_option maxRecDepth 20000 in
theorem gX5_putBody_X5_putArray : GoodIn wsX5_putBody (va_wsS RX5 76 yX5_putArray wsX5_putArray) := goodIn_app (goodIn_of _ (by decide +kernel)) ggX5_putBody_X5_putArray
set_option maxRecDepth 20000 in
theorem ggX5_putBody_X5_putBitmap : GoodIn wsX5_putBody wsX5_putBitmap := goodIn_r _ [51, 6, 22, 23, 24, 25, 26, 27, 28, 29, 30, 31, 32, 33, 34, 35, 36, 37, 38, 39, 40, 41, 42, 43, 44, 45, 46, 47, 48, 77, 78, 79, 80, 81, 82] (by decide +kernel) (by decide +kernel)
set_option maxRecDepth 20000 in
theorem gX5_putBody_X5_putBitmap : GoodIn wsX5_putBody (va_wsS RX5 79 yX5_putBitmap wsX5_putBitmap) := goodIn_app (goodIn_of _ (by decide +kernel)) ggX5_putBody_X5_putBitmap
set_option maxRecDepth 20000 in
theorem ggX5_putBody_X5_putRuns : GoodIn wsX5_putBody wsX5_putRuns := goodIn_r _ [54, 55, 56, 57, 58, 59, 60, 61, 62, 8, 9, 10, 11, 12, 13, 22, 23, 24, 25, 26, 27, 28, 29, 30, 31, 32, 33, 34, 35, 36, 37, 38, 39, 40, 41, 42, 43, 44, 45, 46, 47, 48, 63, 64, 65, 66, 67, 68, 69, 70, 71, 72, 15, 16, 17, 18, 19, 20, 21, 73, 74, 75, 76, 77, 78, 79, 80, 81, 82] (by decide +kernel) (by decide +kernel)
set_option maxRecDepth 20000 in
theorem gX5_putBody_X5_putRuns : GoodIn wsX5_putBody (va_wsS RX5 82 yX5_putRuns wsX5_putRuns) := goodIn_app (goodIn_of _ (by decide +kernel)) ggX5_putBody_X5_putRuns
theorem dX5_putBody_0 : decode cX5_putBody 0 = .ok (.aload_n 0, 1) := by decide +kernel
theorem dX5_putBody_1 : decode cX5_putBody 1 = .ok (.getfield 65, 3) := by decide +kernel
theorem dX5_putBody_4 : decode cX5_putBody 4 = .ok (.lookupswitch 44 #[(0, 28), (1, 36)], 28) := by decide +kernel
theorem dX5_putBody_32 : decode cX5_putBody 32 = .ok (.aload_n 0, 1) := by decide +kernel
theorem dX5_putBody_33 : decode cX5_putBody 33 = .ok (.aload_n 1, 1) := by decide +kernel
theorem dX5_putBody_34 : decode cX5_putBody 34 = .ok (.invokestatic 76, 3) := by decide +kernel
theorem dX5_putBody_37 : decode cX5_putBody 37 = .ok (.goto 16, 3) := by decide +kernel
theorem dX5_putBody_40 : decode cX5_putBody 40 = .ok (.aload_n 0, 1) := by decide +kernel
theorem dX5_putBody_41 : decode cX5_putBody 41 = .ok (.aload_n 1, 1) := by decide +kernel
theorem dX5_putBody_42 : decode cX5_putBody 42 = .ok (.invokestatic 79, 3) := by decide +kernel
theorem dX5_putBody_45 : decode cX5_putBody 45 = .ok (.goto 8, 3) := by decide +kernel
theorem dX5_putBody_48 : decode cX5_putBody 48 = .ok (.aload_n 0, 1) := by decide +kernel
theorem dX5_putBody_49 : decode cX5_putBody 49 = .ok (.aload_n 1, 1) := by decide +kernel
theorem dX5_putBody_50 : decode cX5_putBody 50 = .ok (.invokestatic 82, 3) := by decide +kernel
theorem dX5_putBody_53 : decode cX5_putBody 53 = .ok (.return_, 1) := by decide +kernel
set_option maxRecDepth 20000 in
theorem ggX5_putArray_J13_bitCount_95d88 : GoodIn wsX5_putArray wsJ13_bitCount_95d88 := goodIn_r _ [5, 6, 7, 8] (by decide +kernel) (by decide +kernel)
set_option maxRecDepth 20000 in
theorem gX5_putArray_J13_bitCount_95d88 : GoodIn wsX5_putArray (va_wsS RX5 89 yJ13_bitCount_95d88 wsJ13_bitCount_95d88) := goodIn_app (goodIn_of _ (by decide +kernel)) ggX5_putArray_J13_bitCount_95d88
set_option maxRecDepth 20000 in
theorem ggX5_putArray_J13_numberOfTrailingZeros_95d88 : GoodIn wsX5_putArray wsJ13_numberOfTrailingZeros_95d88 := goodIn_r _ [11, 12, 13, 14, 15, 16] (by decide +kernel) (by decide +kernel)
set_option maxRecDepth 20000 in
theorem gX5_putArray_J13_numberOfTrailingZeros_95d88 : GoodIn wsX5_putArray (va_wsS RX5 95 yJ13_numberOfTrailingZeros_95d88 wsJ13_numberOfTrailingZeros_95d88) := goodIn_app (goodIn_of _ (by decide +kernel)) ggX5_putArray_J13_numberOfTrailingZeros_95d88
set_option maxRecDepth 20000 in
theorem ggX5_putArray_X0_put : GoodIn wsX5_putArray wsX0_put := goodIn_r _ [21, 22, 23, 24, 25, 26, 27, 28, 29, 30, 31, 32, 33, 34, 35, 36, 37, 38, 39, 40, 41, 42, 43, 48, 49] (by decide +kernel) (by decide +kernel)
set_option maxRecDepth 20000 in
theorem gX5_putArray_X0_put : GoodIn wsX5_putArray (wsV RX5 38 RX0 yX0_put wsX0_put) := goodIn_app (goodIn_of _ (by decide +kernel)) ggX5_putArray_X0_put
theorem dX5_putArray_0 : decode cX5_putArray 0 = .ok (.iconst 0, 1) := by decide +kernel
theorem dX5_putArray_1 : decode cX5_putArray 1 = .ok (.istore_n 2, 1) := by decide +kernel
theorem dX5_putArray_2 : decode cX5_putArray 2 = .ok (.iload_n 2, 1) := by decide +kernel
theorem dX5_putArray_3 : decode cX5_putArray 3 = .ok (.sipush 1024, 3) := by decide +kernel
theorem dX5_putArray_6 : decode cX5_putArray 6 = .ok (.if_icmp .ge 59, 3) := by decide +kernel
theorem dX5_putArray_9 : decode cX5_putArray 9 = .ok (.aload_n 0, 1) := by decide +kernel
theorem dX5_putArray_10 : decode cX5_putArray 10 = .ok (.getfield 85, 3) := by decide +kernel
theorem dX5_putArray_13 : decode cX5_putArray 13 = .ok (.iload_n 2, 1) := by decide +kernel
theorem dX5_putArray_14 : decode cX5_putArray 14 = .ok (.laload, 1) := by decide +kernel
theorem dX5_putArray_15 : decode cX5_putArray 15 = .ok (.lstore_n 3, 1) := by decide +kernel
theorem dX5_putArray_16 : decode cX5_putArray 16 = .ok (.lload_n 3, 1) := by decide +kernel
theorem dX5_putArray_17 : decode cX5_putArray 17 = .ok (.invokestatic 89, 3) := by decide +kernel
theorem dX5_putArray_20 : decode cX5_putArray 20 = .ok (.istore 5, 2) := by decide +kernel
theorem dX5_putArray_22 : decode cX5_putArray 22 = .ok (.iconst 0, 1) := by decide +kernel
theorem dX5_putArray_23 : decode cX5_putArray 23 = .ok (.istore 6, 2) := by decide +kernel
theorem dX5_putArray_25 : decode cX5_putArray 25 = .ok (.iload 6, 2) := by decide +kernel
theorem dX5_putArray_27 : decode cX5_putArray 27 = .ok (.iload 5, 2) := by decide +kernel
theorem dX5_putArray_29 : decode cX5_putArray 29 = .ok (.if_icmp .ge 30, 3) := by decide +kernel
theorem dX5_putArray_32 : decode cX5_putArray 32 = .ok (.aload_n 1, 1) := by decide +kernel
theorem dX5_putArray_33 : decode cX5_putArray 33 = .ok (.iload_n 2, 1) := by decide +kernel
theorem dX5_putArray_34 : decode cX5_putArray 34 = .ok (.bipush 6, 2) := by decide +kernel
theorem dX5_putArray_36 : decode cX5_putArray 36 = .ok (.ishl, 1) := by decide +kernel
theorem dX5_putArray_37 : decode cX5_putArray 37 = .ok (.lload_n 3, 1) := by decide +kernel
theorem dX5_putArray_38 : decode cX5_putArray 38 = .ok (.invokestatic 95, 3) := by decide +kernel
theorem dX5_putArray_41 : decode cX5_putArray 41 = .ok (.iadd, 1) := by decide +kernel
theorem dX5_putArray_42 : decode cX5_putArray 42 = .ok (.i2l, 1) := by decide +kernel
theorem dX5_putArray_43 : decode cX5_putArray 43 = .ok (.iconst 2, 1) := by decide +kernel
theorem dX5_putArray_44 : decode cX5_putArray 44 = .ok (.invokevirtual 38, 3) := by decide +kernel
theorem dX5_putArray_47 : decode cX5_putArray 47 = .ok (.lload_n 3, 1) := by decide +kernel
theorem dX5_putArray_48 : decode cX5_putArray 48 = .ok (.lload_n 3, 1) := by decide +kernel
theorem dX5_putArray_49 : decode cX5_putArray 49 = .ok (.lconst 1, 1) := by decide +kernel
theorem dX5_putArray_50 : decode cX5_putArray 50 = .ok (.lsub, 1) := by decide +kernel
theorem dX5_putArray_51 : decode cX5_putArray 51 = .ok (.land, 1) := by decide +kernel
theorem dX5_putArray_52 : decode cX5_putArray 52 = .ok (.lstore_n 3, 1) := by decide +kernel
theorem dX5_putArray_53 : decode cX5_putArray 53 = .ok (.iinc 6 1, 3) := by decide +kernel
theorem dX5_putArray_56 : decode cX5_putArray 56 = .ok (.goto (-31), 3) := by decide +kernel
theorem dX5_putArray_59 : decode cX5_putArray 59 = .ok (.iinc 2 1, 3) := by decide +kernel
theorem dX5_putArray_62 : decode cX5_putArray 62 = .ok (.goto (-60), 3) := by decide +kernel
theorem dX5_putArray_65 : decode cX5_putArray 65 = .ok (.return_, 1) := by decide +kernel
set_option maxRecDepth 20000 in
theorem ggX5_putBitmap_X0_put : GoodIn wsX5_putBitmap wsX0_put := goodIn_r _ [6, 7, 8, 9, 10, 11, 12, 13, 14, 15, 16, 17, 18, 19, 20, 21, 22, 23, 24, 25, 26, 27, 28, 33, 34] (by decide +kernel) (by decide +kernel)
set_option maxRecDepth 20000 in
theorem gX5_putBitmap_X0_put : GoodIn wsX5_putBitmap (wsV RX5 38 RX0 yX0_put wsX0_put) := goodIn_app (goodIn_of _ (by decide +kernel)) ggX5_putBitmap_X0_put
theorem dX5_putBitmap_0 : decode cX5_putBitmap 0 = .ok (.iconst 0, 1) := by decide +kernel
theorem dX5_putBitmap_1 : decode cX5_putBitmap 1 = .ok (.istore_n 2, 1) := by decide +kernel
theorem dX5_putBitmap_2 : decode cX5_putBitmap 2 = .ok (.iload_n 2, 1) := by decide +kernel
theorem dX5_putBitmap_3 : decode cX5_putBitmap 3 = .ok (.sipush 1024, 3) := by decide +kernel
theorem dX5_putBitmap_6 : decode cX5_putBitmap 6 = .ok (.if_icmp .ge 21, 3) := by decide +kernel
theorem dX5_putBitmap_9 : decode cX5_putBitmap 9 = .ok (.aload_n 1, 1) := by decide +kernel
theorem dX5_putBitmap_10 : decode cX5_putBitmap 10 = .ok (.aload_n 0, 1) := by decide +kernel
theorem dX5_putBitmap_11 : decode cX5_putBitmap 11 = .ok (.getfield 85, 3) := by decide +kernel
theorem dX5_putBitmap_14 : decode cX5_putBitmap 14 = .ok (.iload_n 2, 1) := by decide +kernel
theorem dX5_putBitmap_15 : decode cX5_putBitmap 15 = .ok (.laload, 1) := by decide +kernel
theorem dX5_putBitmap_16 : decode cX5_putBitmap 16 = .ok (.bipush 8, 2) := by decide +kernel
theorem dX5_putBitmap_18 : decode cX5_putBitmap 18 = .ok (.invokevirtual 38, 3) := by decide +kernel
theorem dX5_putBitmap_21 : decode cX5_putBitmap 21 = .ok (.iinc 2 1, 3) := by decide +kernel
theorem dX5_putBitmap_24 : decode cX5_putBitmap 24 = .ok (.goto (-22), 3) := by decide +kernel
theorem dX5_putBitmap_27 : decode cX5_putBitmap 27 = .ok (.return_, 1) := by decide +kernel
set_option maxRecDepth 20000 in
theorem ggX5_putRuns_X1_totalRuns : GoodIn wsX5_putRuns wsX1_totalRuns := goodIn_r _ [5, 6, 7, 8, 9, 10, 11, 12, 13, 14, 63, 64, 65, 66] (by decide +kernel) (by decide +kernel)
set_option maxRecDepth 20000 in
theorem gX5_putRuns_X1_totalRuns : GoodIn wsX5_putRuns (wsV RX5 68 RX1 yX1_totalRuns wsX1_totalRuns) := goodIn_app (goodIn_of _ (by decide +kernel)) ggX5_putRuns_X1_totalRuns
set_option maxRecDepth 20000 in
theorem ggX5_putRuns_X0_put : GoodIn wsX5_putRuns wsX0_put := goodIn_r _ [19, 20, 21, 22, 23, 24, 25, 26, 27, 28, 29, 30, 31, 32, 33, 34, 35, 36, 37, 38, 39, 40, 41, 67, 68] (by decide +kernel) (by decide +kernel)
set_option maxRecDepth 20000 in
theorem gX5_putRuns_X0_put : GoodIn wsX5_putRuns (wsV RX5 38 RX0 yX0_put wsX0_put) := goodIn_app (goodIn_of _ (by decide +kernel)) ggX5_putRuns_X0_put
set_option maxRecDepth 20000 in
theorem ggX5_putRuns_X1_firstIn : GoodIn wsX5_putRuns wsX1_firstIn := goodIn_r _ [45, 46, 47, 48, 4, 49, 6, 7, 50, 51, 52, 10, 53, 54, 55, 56, 57, 58, 63, 64, 65, 66] (by decide +kernel) (by decide +kernel)
set_option maxRecDepth 20000 in
theorem gX5_putRuns_X1_firstIn : GoodIn wsX5_putRuns (wsV RX5 98 RX1 yX1_firstIn wsX1_firstIn) := goodIn_app (goodIn_of _ (by decide +kernel)) ggX5_putRuns_X1_firstIn
set_option maxRecDepth 20000 in
theorem ggX5_putRuns_X1_firstOut : GoodIn wsX5_putRuns wsX1_firstOut := goodIn_r _ [62, 7, 46, 47, 48, 4, 49, 6, 50, 51, 52, 10, 53, 54, 55, 56, 57, 58, 63, 64, 65, 66] (by decide +kernel) (by decide +kernel)
set_option maxRecDepth 20000 in
theorem gX5_putRuns_X1_firstOut : GoodIn wsX5_putRuns (wsV RX5 101 RX1 yX1_firstOut wsX1_firstOut) := goodIn_app (goodIn_of _ (by decide +kernel)) ggX5_putRuns_X1_firstOut
theorem dX5_putRuns_0 : decode cX5_putRuns 0 = .ok (.aload_n 0, 1) := by decide +kernel
theorem dX5_putRuns_1 : decode cX5_putRuns 1 = .ok (.invokevirtual 68, 3) := by decide +kernel
theorem dX5_putRuns_4 : decode cX5_putRuns 4 = .ok (.istore_n 2, 1) := by decide +kernel
theorem dX5_putRuns_5 : decode cX5_putRuns 5 = .ok (.aload_n 1, 1) := by decide +kernel
theorem dX5_putRuns_6 : decode cX5_putRuns 6 = .ok (.iload_n 2, 1) := by decide +kernel
theorem dX5_putRuns_7 : decode cX5_putRuns 7 = .ok (.i2l, 1) := by decide +kernel
theorem dX5_putRuns_8 : decode cX5_putRuns 8 = .ok (.iconst 2, 1) := by decide +kernel
theorem dX5_putRuns_9 : decode cX5_putRuns 9 = .ok (.invokevirtual 38, 3) := by decide +kernel
theorem dX5_putRuns_12 : decode cX5_putRuns 12 = .ok (.aload_n 0, 1) := by decide +kernel
theorem dX5_putRuns_13 : decode cX5_putRuns 13 = .ok (.iconst 0, 1) := by decide +kernel
theorem dX5_putRuns_14 : decode cX5_putRuns 14 = .ok (.invokevirtual 98, 3) := by decide +kernel
theorem dX5_putRuns_17 : decode cX5_putRuns 17 = .ok (.istore_n 3, 1) := by decide +kernel
theorem dX5_putRuns_18 : decode cX5_putRuns 18 = .ok (.iconst 0, 1) := by decide +kernel
theorem dX5_putRuns_19 : decode cX5_putRuns 19 = .ok (.istore 4, 2) := by decide +kernel
theorem dX5_putRuns_21 : decode cX5_putRuns 21 = .ok (.iload 4, 2) := by decide +kernel
theorem dX5_putRuns_23 : decode cX5_putRuns 23 = .ok (.iload_n 2, 1) := by decide +kernel
theorem dX5_putRuns_24 : decode cX5_putRuns 24 = .ok (.if_icmp .ge 42, 3) := by decide +kernel
theorem dX5_putRuns_27 : decode cX5_putRuns 27 = .ok (.aload_n 0, 1) := by decide +kernel
theorem dX5_putRuns_28 : decode cX5_putRuns 28 = .ok (.iload_n 3, 1) := by decide +kernel
theorem dX5_putRuns_29 : decode cX5_putRuns 29 = .ok (.invokevirtual 101, 3) := by decide +kernel
theorem dX5_putRuns_32 : decode cX5_putRuns 32 = .ok (.istore 5, 2) := by decide +kernel
theorem dX5_putRuns_34 : decode cX5_putRuns 34 = .ok (.aload_n 1, 1) := by decide +kernel
theorem dX5_putRuns_35 : decode cX5_putRuns 35 = .ok (.iload_n 3, 1) := by decide +kernel
theorem dX5_putRuns_36 : decode cX5_putRuns 36 = .ok (.i2l, 1) := by decide +kernel
theorem dX5_putRuns_37 : decode cX5_putRuns 37 = .ok (.iconst 2, 1) := by decide +kernel
theorem dX5_putRuns_38 : decode cX5_putRuns 38 = .ok (.invokevirtual 38, 3) := by decide +kernel
theorem dX5_putRuns_41 : decode cX5_putRuns 41 = .ok (.aload_n 1, 1) := by decide +kernel
theorem dX5_putRuns_42 : decode cX5_putRuns 42 = .ok (.iload 5, 2) := by decide +kernel
theorem dX5_putRuns_44 : decode cX5_putRuns 44 = .ok (.iload_n 3, 1) := by decide +kernel
theorem dX5_putRuns_45 : decode cX5_putRuns 45 = .ok (.isub, 1) := by decide +kernel
theorem dX5_putRuns_46 : decode cX5_putRuns 46 = .ok (.iconst 1, 1) := by decide +kernel
theorem dX5_putRuns_47 : decode cX5_putRuns 47 = .ok (.isub, 1) := by decide +kernel
theorem dX5_putRuns_48 : decode cX5_putRuns 48 = .ok (.i2l, 1) := by decide +kernel
theorem dX5_putRuns_49 : decode cX5_putRuns 49 = .ok (.iconst 2, 1) := by decide +kernel
theorem dX5_putRuns_50 : decode cX5_putRuns 50 = .ok (.invokevirtual 38, 3) := by decide +kernel
theorem dX5_putRuns_53 : decode cX5_putRuns 53 = .ok (.aload_n 0, 1) := by decide +kernel
theorem dX5_putRuns_54 : decode cX5_putRuns 54 = .ok (.iload 5, 2) := by decide +kernel
theorem dX5_putRuns_56 : decode cX5_putRuns 56 = .ok (.invokevirtual 98, 3) := by decide +kernel
theorem dX5_putRuns_59 : decode cX5_putRuns 59 = .ok (.istore_n 3, 1) := by decide +kernel
theorem dX5_putRuns_60 : decode cX5_putRuns 60 = .ok (.iinc 4 1, 3) := by decide +kernel
theorem dX5_putRuns_63 : decode cX5_putRuns 63 = .ok (.goto (-42), 3) := by decide +kernel
theorem dX5_putRuns_66 : decode cX5_putRuns 66 = .ok (.return_, 1) := by decide +kernel
set_option maxRecDepth 20000 in
theorem ggX6_init_X2_init : GoodIn wsX6_init wsX2_init := goodIn_r _ [24, 25, 2, 3, 26, 27, 28, 29, 30, 31, 32, 33, 58, 59, 74, 75, 76, 77] (by decide +kernel) (by decide +kernel)
set_option maxRecDepth 20000 in
theorem gX6_init_X2_init : GoodIn wsX6_init (wsX2_init) := ggX6_init_X2_init
set_option maxRecDepth 20000 in
theorem ggX6_init_X3_init : GoodIn wsX6_init wsX3_init := goodIn_r _ [36, 37, 2, 3, 38, 39, 6, 7, 40, 23, 24, 25, 26, 27, 28, 29, 30, 31, 32, 33, 60, 61, 58, 59, 74, 75, 76, 77] (by decide +kernel) (by decide +kernel)
set_option maxRecDepth 20000 in
theorem gX6_init_X3_init : GoodIn wsX6_init (wsX3_init) := ggX6_init_X3_init
set_option maxRecDepth 20000 in
theorem ggX6_init_X0_init : GoodIn wsX6_init wsX0_init := goodIn_r _ [42, 43, 2, 3, 44, 45, 62, 63] (by decide +kernel) (by decide +kernel)
set_option maxRecDepth 20000 in
theorem gX6_init_X0_init_n29 : GoodIn wsX6_init (wsX0_init) := ggX6_init_X0_init
set_option maxRecDepth 20000 in
theorem ggX6_init_X4_init : GoodIn wsX6_init wsX4_init := goodIn_r _ [47, 48, 2, 3, 49, 50, 51, 64, 65, 66, 67, 68, 69, 70, 71, 72, 73] (by decide +kernel) (by decide +kernel)
set_option maxRecDepth 20000 in
theorem gX6_init_X4_init_n36 : GoodIn wsX6_init (wsX4_init) := ggX6_init_X4_init
end
section
theorem dX6_init_0 : decode cX6_init 0 = .ok (.aload_n 0, 1) := by decide +kernel
theorem dX6_init_1 : decode cX6_init 1 = .ok (.invokespecial 1, 3) := by decide +kernel
theorem dX6_init_4 : decode cX6_init 4 = .ok (.aload_n 0, 1) := by decide +kernel
theorem dX6_init_5 : decode cX6_init 5 = .ok (.bipush 8, 2) := by decide +kernel
theorem dX6_init_7 : decode cX6_init 7 = .ok (.anewarray 9, 3) := by decide +kernel
theorem dX6_init_10 : decode cX6_init 10 = .ok (.putfield 11, 3) := by decide +kernel
theorem dX6_init_13 : decode cX6_init 13 = .ok (.aload_n 0, 1) := by decide +kernel
theorem dX6_init_14 : decode cX6_init 14 = .ok (.new 9, 3) := by decide +kernel
theorem dX6_init_17 : decode cX6_init 17 = .ok (.dup, 1) := by decide +kernel
theorem dX6_init_18 : decode cX6_init 18 = .ok (.invokespecial 15, 3) := by decide +kernel
theorem dX6_init_21 : decode cX6_init 21 = .ok (.putfield 16, 3) := by decide +kernel
theorem dX6_init_24 : decode cX6_init 24 = .ok (.aload_n 0, 1) := by decide +kernel
theorem dX6_init_25 : decode cX6_init 25 = .ok (.new 20, 3) := by decide +kernel
theorem dX6_init_28 : decode cX6_init 28 = .ok (.dup, 1) := by decide +kernel
theorem dX6_init_29 : decode cX6_init 29 = .ok (.invokespecial 22, 3) := by decide +kernel
theorem dX6_init_32 : decode cX6_init 32 = .ok (.putfield 23, 3) := by decide +kernel
theorem dX6_init_35 : decode cX6_init 35 = .ok (.aload_n 0, 1) := by decide +kernel
theorem dX6_init_36 : decode cX6_init 36 = .ok (.new 27, 3) := by decide +kernel
theorem dX6_init_39 : decode cX6_init 39 = .ok (.dup, 1) := by decide +kernel
theorem dX6_init_40 : decode cX6_init 40 = .ok (.invokespecial 29, 3) := by decide +kernel
theorem dX6_init_43 : decode cX6_init 43 = .ok (.putfield 30, 3) := by decide +kernel
theorem dX6_init_46 : decode cX6_init 46 = .ok (.aload_n 0, 1) := by decide +kernel
theorem dX6_init_47 : decode cX6_init 47 = .ok (.new 34, 3) := by decide +kernel
theorem dX6_init_50 : decode cX6_init 50 = .ok (.dup, 1) := by decide +kernel
theorem dX6_init_51 : decode cX6_init 51 = .ok (.invokespecial 36, 3) := by decide +kernel
theorem dX6_init_54 : decode cX6_init 54 = .ok (.putfield 37, 3) := by decide +kernel
theorem dX6_init_57 : decode cX6_init 57 = .ok (.aload_n 0, 1) := by decide +kernel
theorem dX6_init_58 : decode cX6_init 58 = .ok (.sipush 300, 3) := by decide +kernel
theorem dX6_init_61 : decode cX6_init 61 = .ok (.putfield 41, 3) := by decide +kernel
theorem dX6_init_64 : decode cX6_init 64 = .ok (.iconst 0, 1) := by decide +kernel
theorem dX6_init_65 : decode cX6_init 65 = .ok (.istore_n 1, 1) := by decide +kernel
theorem dX6_init_66 : decode cX6_init 66 = .ok (.iload_n 1, 1) := by decide +kernel
theorem dX6_init_67 : decode cX6_init 67 = .ok (.bipush 8, 2) := by decide +kernel
theorem dX6_init_69 : decode cX6_init 69 = .ok (.if_icmp .ge 22, 3) := by decide +kernel
theorem dX6_init_72 : decode cX6_init 72 = .ok (.aload_n 0, 1) := by decide +kernel
theorem dX6_init_73 : decode cX6_init 73 = .ok (.getfield 11, 3) := by decide +kernel
theorem dX6_init_76 : decode cX6_init 76 = .ok (.iload_n 1, 1) := by decide +kernel
theorem dX6_init_77 : decode cX6_init 77 = .ok (.new 9, 3) := by decide +kernel
theorem dX6_init_80 : decode cX6_init 80 = .ok (.dup, 1) := by decide +kernel
theorem dX6_init_81 : decode cX6_init 81 = .ok (.invokespecial 15, 3) := by decide +kernel
theorem dX6_init_84 : decode cX6_init 84 = .ok (.aastore, 1) := by decide +kernel
theorem dX6_init_85 : decode cX6_init 85 = .ok (.iinc 1 1, 3) := by decide +kernel
theorem dX6_init_88 : decode cX6_init 88 = .ok (.goto (-22), 3) := by decide +kernel
theorem dX6_init_91 : decode cX6_init 91 = .ok (.return_, 1) := by decide +kernel
set_option maxRecDepth 20000 in
theorem ggX6_add_X6_isNoSet : GoodIn wsX6_add wsX6_isNoSet := goodIn_r _ [5] (by decide +kernel) (by decide +kernel)
set_option maxRecDepth 20000 in
theorem gX6_add_X6_isNoSet : GoodIn wsX6_add (va_wsS RX6 45 yX6_isNoSet wsX6_isNoSet) := goodIn_app (goodIn_of _ (by decide +kernel)) ggX6_add_X6_isNoSet
set_option maxRecDepth 20000 in
theorem ggX6_add_X6_keyOf : GoodIn wsX6_add wsX6_keyOf := goodIn_r _ [8] (by decide +kernel) (by decide +kernel)
set_option maxRecDepth 20000 in
theorem gX6_add_X6_keyOf : GoodIn wsX6_add (va_wsS RX6 49 yX6_keyOf wsX6_keyOf) := goodIn_app (goodIn_of _ (by decide +kernel)) ggX6_add_X6_keyOf
set_option maxRecDepth 20000 in
theorem ggX6_add_X6_lowOf : GoodIn wsX6_add wsX6_lowOf := goodIn_r _ [11, 12] (by decide +kernel) (by decide +kernel)
set_option maxRecDepth 20000 in
theorem gX6_add_X6_lowOf : GoodIn wsX6_add (va_wsS RX6 53 yX6_lowOf wsX6_lowOf) := goodIn_app (goodIn_of _ (by decide +kernel)) ggX6_add_X6_lowOf
set_option maxRecDepth 20000 in
theorem ggX6_add_X2_changeSpan : GoodIn wsX6_add wsX2_changeSpan := goodIn_r _ [17, 18, 19, 20, 16, 21, 22, 23, 24, 25, 26, 27, 28, 29, 30, 31, 32, 33, 34, 35, 36, 37, 38, 39, 40, 41, 42, 43, 44, 45, 46, 47, 48, 49, 50, 51, 52, 53, 54, 55, 56, 57, 58, 59, 60, 61, 62, 63, 64, 65, 66, 67, 68, 69, 70, 71, 72, 73, 74, 75, 76, 77, 78, 79, 80, 81, 82, 83, 90, 91, 92, 93, 94, 95] (by decide +kernel) (by decide +kernel)
set_option maxRecDepth 20000 in
theorem gX6_add_X2_changeSpan : GoodIn wsX6_add (wsV RX6 56 RX2 yX2_changeSpan wsX2_changeSpan) := goodIn_app (goodIn_of _ (by decide +kernel)) ggX6_add_X2_changeSpan
theorem dX6_add_0 : decode cX6_add 0 = .ok (.iload_n 1, 1) := by decide +kernel
theorem dX6_add_1 : decode cX6_add 1 = .ok (.invokestatic 45, 3) := by decide +kernel
theorem dX6_add_4 : decode cX6_add 4 = .ok (.ifCond .eq 8, 3) := by decide +kernel
theorem dX6_add_7 : decode cX6_add 7 = .ok (.bipush (-2), 2) := by decide +kernel
theorem dX6_add_9 : decode cX6_add 9 = .ok (.goto 25, 3) := by decide +kernel
theorem dX6_add_12 : decode cX6_add 12 = .ok (.aload_n 0, 1) := by decide +kernel
theorem dX6_add_13 : decode cX6_add 13 = .ok (.getfield 11, 3) := by decide +kernel
theorem dX6_add_16 : decode cX6_add 16 = .ok (.iload_n 1, 1) := by decide +kernel
theorem dX6_add_17 : decode cX6_add 17 = .ok (.aaload, 1) := by decide +kernel
theorem dX6_add_18 : decode cX6_add 18 = .ok (.iload_n 2, 1) := by decide +kernel
theorem dX6_add_19 : decode cX6_add 19 = .ok (.invokestatic 49, 3) := by decide +kernel
theorem dX6_add_22 : decode cX6_add 22 = .ok (.iload_n 2, 1) := by decide +kernel
theorem dX6_add_23 : decode cX6_add 23 = .ok (.invokestatic 53, 3) := by decide +kernel
theorem dX6_add_26 : decode cX6_add 26 = .ok (.iload_n 2, 1) := by decide +kernel
theorem dX6_add_27 : decode cX6_add 27 = .ok (.invokestatic 53, 3) := by decide +kernel
theorem dX6_add_30 : decode cX6_add 30 = .ok (.iconst 0, 1) := by decide +kernel
theorem dX6_add_31 : decode cX6_add 31 = .ok (.invokevirtual 56, 3) := by decide +kernel
theorem dX6_add_34 : decode cX6_add 34 = .ok (.ireturn, 1) := by decide +kernel
set_option maxRecDepth 20000 in
theorem ggX6_remove_X6_isNoSet : GoodIn wsX6_remove wsX6_isNoSet := goodIn_r _ [5] (by decide +kernel) (by decide +kernel)
set_option maxRecDepth 20000 in
theorem gX6_remove_X6_isNoSet : GoodIn wsX6_remove (va_wsS RX6 45 yX6_isNoSet wsX6_isNoSet) := goodIn_app (goodIn_of _ (by decide +kernel)) ggX6_remove_X6_isNoSet
set_option maxRecDepth 20000 in
theorem ggX6_remove_X6_keyOf : GoodIn wsX6_remove wsX6_keyOf := goodIn_r _ [8] (by decide +kernel) (by decide +kernel)
set_option maxRecDepth 20000 in
theorem gX6_remove_X6_keyOf : GoodIn wsX6_remove (va_wsS RX6 49 yX6_keyOf wsX6_keyOf) := goodIn_app (goodIn_of _ (by decide +kernel)) ggX6_remove_X6_keyOf
set_option maxRecDepth 20000 in
theorem ggX6_remove_X6_lowOf : GoodIn wsX6_remove wsX6_lowOf := goodIn_r _ [11, 12] (by decide +kernel) (by decide +kernel)
set_option maxRecDepth 20000 in
theorem gX6_remove_X6_lowOf : GoodIn wsX6_remove (va_wsS RX6 53 yX6_lowOf wsX6_lowOf) := goodIn_app (goodIn_of _ (by decide +kernel)) ggX6_remove_X6_lowOf
set_option maxRecDepth 20000 in
theorem ggX6_remove_X2_changeSpan : GoodIn wsX6_remove wsX2_changeSpan := goodIn_r _ [17, 18, 19, 20, 16, 21, 22, 23, 24, 25, 26, 27, 28, 29, 30, 31, 32, 33, 34, 35, 36, 37, 38, 39, 40, 41, 42, 43, 44, 45, 46, 47, 48, 49, 50, 51, 52, 53, 54, 55, 56, 57, 58, 59, 60, 61, 62, 63, 64, 65, 66, 67, 68, 69, 70, 71, 72, 73, 74, 75, 76, 77, 78, 79, 80, 81, 82, 83, 90, 91, 92, 93, 94, 95] (by decide +kernel) (by decide +kernel)
set_option maxRecDepth 20000 in
theorem gX6_remove_X2_changeSpan : GoodIn wsX6_remove (wsV RX6 56 RX2 yX2_changeSpan wsX2_changeSpan) := goodIn_app (goodIn_of _ (by decide +kernel)) ggX6_remove_X2_changeSpan
theorem dX6_remove_0 : decode cX6_remove 0 = .ok (.iload_n 1, 1) := by decide +kernel
theorem dX6_remove_1 : decode cX6_remove 1 = .ok (.invokestatic 45, 3) := by decide +kernel
theorem dX6_remove_4 : decode cX6_remove 4 = .ok (.ifCond .eq 8, 3) := by decide +kernel
theorem dX6_remove_7 : decode cX6_remove 7 = .ok (.bipush (-2), 2) := by decide +kernel
theorem dX6_remove_9 : decode cX6_remove 9 = .ok (.goto 25, 3) := by decide +kernel
theorem dX6_remove_12 : decode cX6_remove 12 = .ok (.aload_n 0, 1) := by decide +kernel
theorem dX6_remove_13 : decode cX6_remove 13 = .ok (.getfield 11, 3) := by decide +kernel
theorem dX6_remove_16 : decode cX6_remove 16 = .ok (.iload_n 1, 1) := by decide +kernel
theorem dX6_remove_17 : decode cX6_remove 17 = .ok (.aaload, 1) := by decide +kernel
theorem dX6_remove_18 : decode cX6_remove 18 = .ok (.iload_n 2, 1) := by decide +kernel
theorem dX6_remove_19 : decode cX6_remove 19 = .ok (.invokestatic 49, 3) := by decide +kernel
theorem dX6_remove_22 : decode cX6_remove 22 = .ok (.iload_n 2, 1) := by decide +kernel
theorem dX6_remove_23 : decode cX6_remove 23 = .ok (.invokestatic 53, 3) := by decide +kernel
theorem dX6_remove_26 : decode cX6_remove 26 = .ok (.iload_n 2, 1) := by decide +kernel
theorem dX6_remove_27 : decode cX6_remove 27 = .ok (.invokestatic 53, 3) := by decide +kernel
theorem dX6_remove_30 : decode cX6_remove 30 = .ok (.iconst 1, 1) := by decide +kernel
theorem dX6_remove_31 : decode cX6_remove 31 = .ok (.invokevirtual 56, 3) := by decide +kernel
theorem dX6_remove_34 : decode cX6_remove 34 = .ok (.ireturn, 1) := by decide +kernel
set_option maxRecDepth 20000 in
theorem ggX6_range_X6_isNoSet : GoodIn wsX6_range wsX6_isNoSet := goodIn_r _ [5] (by decide +kernel) (by decide +kernel)
set_option maxRecDepth 20000 in
theorem gX6_range_X6_isNoSet : GoodIn wsX6_range (va_wsS RX6 45 yX6_isNoSet wsX6_isNoSet) := goodIn_app (goodIn_of _ (by decide +kernel)) ggX6_range_X6_isNoSet
set_option maxRecDepth 20000 in
theorem ggX6_range_X6_isNoHalf : GoodIn wsX6_range wsX6_isNoHalf := goodIn_r _ [8, 9] (by decide +kernel) (by decide +kernel)
set_option maxRecDepth 20000 in
theorem gX6_range_X6_isNoHalf : GoodIn wsX6_range (va_wsS RX6 60 yX6_isNoHalf wsX6_isNoHalf) := goodIn_app (goodIn_of _ (by decide +kernel)) ggX6_range_X6_isNoHalf
set_option maxRecDepth 20000 in
theorem ggX6_range_X2_changeSpan : GoodIn wsX6_range wsX2_changeSpan := goodIn_r _ [14, 15, 16, 17, 13, 18, 19, 20, 21, 22, 23, 24, 25, 26, 27, 28, 29, 30, 31, 32, 33, 34, 35, 36, 37, 38, 39, 40, 41, 42, 43, 44, 45, 46, 47, 48, 49, 50, 51, 52, 53, 54, 55, 56, 57, 58, 59, 60, 61, 62, 63, 64, 65, 66, 67, 68, 69, 70, 71, 72, 73, 74, 75, 76, 77, 78, 79, 80, 91, 92, 93, 94, 95, 96] (by decide +kernel) (by decide +kernel)
set_option maxRecDepth 20000 in
theorem gX6_range_X2_changeSpan : GoodIn wsX6_range (wsV RX6 56 RX2 yX2_changeSpan wsX2_changeSpan) := goodIn_app (goodIn_of _ (by decide +kernel)) ggX6_range_X2_changeSpan
set_option maxRecDepth 20000 in
theorem ggX6_range_X2_total : GoodIn wsX6_range wsX2_total := goodIn_r _ [84, 24, 19, 72, 91, 92, 93, 94, 95, 96] (by decide +kernel) (by decide +kernel)
set_option maxRecDepth 20000 in
theorem gX6_range_X2_total : GoodIn wsX6_range (wsV RX6 63 RX2 yX2_total wsX2_total) := goodIn_app (goodIn_of _ (by decide +kernel)) ggX6_range_X2_total
theorem dX6_range_0 : decode cX6_range 0 = .ok (.iload_n 1, 1) := by decide +kernel
theorem dX6_range_1 : decode cX6_range 1 = .ok (.invokestatic 45, 3) := by decide +kernel
theorem dX6_range_4 : decode cX6_range 4 = .ok (.ifCond .ne 31, 3) := by decide +kernel
theorem dX6_range_7 : decode cX6_range 7 = .ok (.iload_n 2, 1) := by decide +kernel
theorem dX6_range_8 : decode cX6_range 8 = .ok (.invokestatic 60, 3) := by decide +kernel
theorem dX6_range_11 : decode cX6_range 11 = .ok (.ifCond .ne 24, 3) := by decide +kernel
theorem dX6_range_14 : decode cX6_range 14 = .ok (.iload_n 3, 1) := by decide +kernel
theorem dX6_range_15 : decode cX6_range 15 = .ok (.invokestatic 60, 3) := by decide +kernel
theorem dX6_range_18 : decode cX6_range 18 = .ok (.ifCond .ne 17, 3) := by decide +kernel
theorem dX6_range_21 : decode cX6_range 21 = .ok (.iload 4, 2) := by decide +kernel
theorem dX6_range_23 : decode cX6_range 23 = .ok (.invokestatic 60, 3) := by decide +kernel
theorem dX6_range_26 : decode cX6_range 26 = .ok (.ifCond .ne 9, 3) := by decide +kernel
theorem dX6_range_29 : decode cX6_range 29 = .ok (.iload_n 3, 1) := by decide +kernel
theorem dX6_range_30 : decode cX6_range 30 = .ok (.iload 4, 2) := by decide +kernel
theorem dX6_range_32 : decode cX6_range 32 = .ok (.if_icmp .le 6, 3) := by decide +kernel
theorem dX6_range_35 : decode cX6_range 35 = .ok (.bipush (-2), 2) := by decide +kernel
theorem dX6_range_37 : decode cX6_range 37 = .ok (.ireturn, 1) := by decide +kernel
theorem dX6_range_38 : decode cX6_range 38 = .ok (.iload 5, 2) := by decide +kernel
theorem dX6_range_40 : decode cX6_range 40 = .ok (.ifCond .lt 9, 3) := by decide +kernel
theorem dX6_range_43 : decode cX6_range 43 = .ok (.iload 5, 2) := by decide +kernel
theorem dX6_range_45 : decode cX6_range 45 = .ok (.iconst 2, 1) := by decide +kernel
theorem dX6_range_46 : decode cX6_range 46 = .ok (.if_icmp .le 6, 3) := by decide +kernel
theorem dX6_range_49 : decode cX6_range 49 = .ok (.bipush (-2), 2) := by decide +kernel
theorem dX6_range_51 : decode cX6_range 51 = .ok (.ireturn, 1) := by decide +kernel
theorem dX6_range_52 : decode cX6_range 52 = .ok (.aload_n 0, 1) := by decide +kernel
theorem dX6_range_53 : decode cX6_range 53 = .ok (.getfield 11, 3) := by decide +kernel
theorem dX6_range_56 : decode cX6_range 56 = .ok (.iload_n 1, 1) := by decide +kernel
theorem dX6_range_57 : decode cX6_range 57 = .ok (.aaload, 1) := by decide +kernel
theorem dX6_range_58 : decode cX6_range 58 = .ok (.iload_n 2, 1) := by decide +kernel
theorem dX6_range_59 : decode cX6_range 59 = .ok (.iload_n 3, 1) := by decide +kernel
theorem dX6_range_60 : decode cX6_range 60 = .ok (.iload 4, 2) := by decide +kernel
theorem dX6_range_62 : decode cX6_range 62 = .ok (.iload 5, 2) := by decide +kernel
theorem dX6_range_64 : decode cX6_range 64 = .ok (.invokevirtual 56, 3) := by decide +kernel
theorem dX6_range_67 : decode cX6_range 67 = .ok (.istore 6, 2) := by decide +kernel
theorem dX6_range_69 : decode cX6_range 69 = .ok (.iload 6, 2) := by decide +kernel
theorem dX6_range_71 : decode cX6_range 71 = .ok (.bipush (-3), 2) := by decide +kernel
theorem dX6_range_73 : decode cX6_range 73 = .ok (.if_icmp .ne 8, 3) := by decide +kernel
theorem dX6_range_76 : decode cX6_range 76 = .ok (.bipush (-3), 2) := by decide +kernel
theorem dX6_range_78 : decode cX6_range 78 = .ok (.goto 12, 3) := by decide +kernel
theorem dX6_range_81 : decode cX6_range 81 = .ok (.aload_n 0, 1) := by decide +kernel
theorem dX6_range_82 : decode cX6_range 82 = .ok (.getfield 11, 3) := by decide +kernel
theorem dX6_range_85 : decode cX6_range 85 = .ok (.iload_n 1, 1) := by decide +kernel
theorem dX6_range_86 : decode cX6_range 86 = .ok (.aaload, 1) := by decide +kernel
theorem dX6_range_87 : decode cX6_range 87 = .ok (.invokevirtual 63, 3) := by decide +kernel
theorem dX6_range_90 : decode cX6_range 90 = .ok (.ireturn, 1) := by decide +kernel
set_option maxRecDepth 20000 in
theorem ggX6_steps_X6_isNoSet : GoodIn wsX6_steps wsX6_isNoSet := goodIn_r _ [5] (by decide +kernel) (by decide +kernel)
set_option maxRecDepth 20000 in
theorem gX6_steps_X6_isNoSet : GoodIn wsX6_steps (va_wsS RX6 45 yX6_isNoSet wsX6_isNoSet) := goodIn_app (goodIn_of _ (by decide +kernel)) ggX6_steps_X6_isNoSet
set_option maxRecDepth 20000 in
theorem ggX6_steps_X6_isNoHalf : GoodIn wsX6_steps wsX6_isNoHalf := goodIn_r _ [8, 9] (by decide +kernel) (by decide +kernel)
set_option maxRecDepth 20000 in
theorem gX6_steps_X6_isNoHalf : GoodIn wsX6_steps (va_wsS RX6 60 yX6_isNoHalf wsX6_isNoHalf) := goodIn_app (goodIn_of _ (by decide +kernel)) ggX6_steps_X6_isNoHalf
set_option maxRecDepth 20000 in
theorem ggX6_steps_X2_putSteps : GoodIn wsX6_steps wsX2_putSteps := goodIn_r _ [14, 15, 16, 17, 13, 18, 19, 20, 21, 22, 23, 24, 25, 26, 27, 28, 29, 30, 31, 32, 33, 34, 35, 36, 37, 38, 39, 40, 41, 42, 43, 44, 45, 46, 47, 48, 49, 50, 51, 52, 53, 54, 55, 56, 57, 58, 59, 60, 61, 62, 63, 64, 65, 66, 67, 68, 69, 70, 81, 82, 83, 84, 85, 86] (by decide +kernel) (by decide +kernel)
set_option maxRecDepth 20000 in
theorem gX6_steps_X2_putSteps : GoodIn wsX6_steps (wsV RX6 67 RX2 yX2_putSteps wsX2_putSteps) := goodIn_app (goodIn_of _ (by decide +kernel)) ggX6_steps_X2_putSteps
set_option maxRecDepth 20000 in
theorem ggX6_steps_X2_total : GoodIn wsX6_steps wsX2_total := goodIn_r _ [74, 20, 19, 62, 81, 82, 83, 84, 85, 86] (by decide +kernel) (by decide +kernel)
set_option maxRecDepth 20000 in
theorem gX6_steps_X2_total : GoodIn wsX6_steps (wsV RX6 63 RX2 yX2_total wsX2_total) := goodIn_app (goodIn_of _ (by decide +kernel)) ggX6_steps_X2_total
theorem dX6_steps_0 : decode cX6_steps 0 = .ok (.iload_n 1, 1) := by decide +kernel
theorem dX6_steps_1 : decode cX6_steps 1 = .ok (.invokestatic 45, 3) := by decide +kernel
theorem dX6_steps_4 : decode cX6_steps 4 = .ok (.ifCond .ne 31, 3) := by decide +kernel
theorem dX6_steps_7 : decode cX6_steps 7 = .ok (.iload_n 2, 1) := by decide +kernel
theorem dX6_steps_8 : decode cX6_steps 8 = .ok (.invokestatic 60, 3) := by decide +kernel
theorem dX6_steps_11 : decode cX6_steps 11 = .ok (.ifCond .ne 24, 3) := by decide +kernel
theorem dX6_steps_14 : decode cX6_steps 14 = .ok (.iload_n 3, 1) := by decide +kernel
theorem dX6_steps_15 : decode cX6_steps 15 = .ok (.invokestatic 60, 3) := by decide +kernel
theorem dX6_steps_18 : decode cX6_steps 18 = .ok (.ifCond .ne 17, 3) := by decide +kernel
theorem dX6_steps_21 : decode cX6_steps 21 = .ok (.iload 4, 2) := by decide +kernel
theorem dX6_steps_23 : decode cX6_steps 23 = .ok (.invokestatic 60, 3) := by decide +kernel
theorem dX6_steps_26 : decode cX6_steps 26 = .ok (.ifCond .ne 9, 3) := by decide +kernel
theorem dX6_steps_29 : decode cX6_steps 29 = .ok (.iload 4, 2) := by decide +kernel
theorem dX6_steps_31 : decode cX6_steps 31 = .ok (.iconst 1, 1) := by decide +kernel
theorem dX6_steps_32 : decode cX6_steps 32 = .ok (.if_icmp .ge 6, 3) := by decide +kernel
theorem dX6_steps_35 : decode cX6_steps 35 = .ok (.bipush (-2), 2) := by decide +kernel
theorem dX6_steps_37 : decode cX6_steps 37 = .ok (.ireturn, 1) := by decide +kernel
theorem dX6_steps_38 : decode cX6_steps 38 = .ok (.aload_n 0, 1) := by decide +kernel
theorem dX6_steps_39 : decode cX6_steps 39 = .ok (.getfield 11, 3) := by decide +kernel
theorem dX6_steps_42 : decode cX6_steps 42 = .ok (.iload_n 1, 1) := by decide +kernel
theorem dX6_steps_43 : decode cX6_steps 43 = .ok (.aaload, 1) := by decide +kernel
theorem dX6_steps_44 : decode cX6_steps 44 = .ok (.iload_n 2, 1) := by decide +kernel
theorem dX6_steps_45 : decode cX6_steps 45 = .ok (.iload_n 3, 1) := by decide +kernel
theorem dX6_steps_46 : decode cX6_steps 46 = .ok (.iload 4, 2) := by decide +kernel
theorem dX6_steps_48 : decode cX6_steps 48 = .ok (.invokevirtual 67, 3) := by decide +kernel
theorem dX6_steps_51 : decode cX6_steps 51 = .ok (.istore 5, 2) := by decide +kernel
theorem dX6_steps_53 : decode cX6_steps 53 = .ok (.iload 5, 2) := by decide +kernel
theorem dX6_steps_55 : decode cX6_steps 55 = .ok (.bipush (-3), 2) := by decide +kernel
theorem dX6_steps_57 : decode cX6_steps 57 = .ok (.if_icmp .ne 8, 3) := by decide +kernel
theorem dX6_steps_60 : decode cX6_steps 60 = .ok (.bipush (-3), 2) := by decide +kernel
theorem dX6_steps_62 : decode cX6_steps 62 = .ok (.goto 12, 3) := by decide +kernel
theorem dX6_steps_65 : decode cX6_steps 65 = .ok (.aload_n 0, 1) := by decide +kernel
theorem dX6_steps_66 : decode cX6_steps 66 = .ok (.getfield 11, 3) := by decide +kernel
theorem dX6_steps_69 : decode cX6_steps 69 = .ok (.iload_n 1, 1) := by decide +kernel
theorem dX6_steps_70 : decode cX6_steps 70 = .ok (.aaload, 1) := by decide +kernel
theorem dX6_steps_71 : decode cX6_steps 71 = .ok (.invokevirtual 63, 3) := by decide +kernel
theorem dX6_steps_74 : decode cX6_steps 74 = .ok (.ireturn, 1) := by decide +kernel
set_option maxRecDepth 20000 in
theorem ggX6_clear_X6_isNoSet : GoodIn wsX6_clear wsX6_isNoSet := goodIn_r _ [6] (by decide +kernel) (by decide +kernel)
set_option maxRecDepth 20000 in
theorem gX6_clear_X6_isNoSet : GoodIn wsX6_clear (va_wsS RX6 45 yX6_isNoSet wsX6_isNoSet) := goodIn_app (goodIn_of _ (by decide +kernel)) ggX6_clear_X6_isNoSet
set_option maxRecDepth 20000 in
theorem ggX6_clear_X2_total : GoodIn wsX6_clear wsX2_total := goodIn_r _ [11, 12, 13, 14, 21, 22, 23, 24, 25, 26] (by decide +kernel) (by decide +kernel)
set_option maxRecDepth 20000 in
theorem gX6_clear_X2_total : GoodIn wsX6_clear (wsV RX6 63 RX2 yX2_total wsX2_total) := goodIn_app (goodIn_of _ (by decide +kernel)) ggX6_clear_X2_total
theorem dX6_clear_0 : decode cX6_clear 0 = .ok (.iload_n 1, 1) := by decide +kernel
theorem dX6_clear_1 : decode cX6_clear 1 = .ok (.invokestatic 45, 3) := by decide +kernel
theorem dX6_clear_4 : decode cX6_clear 4 = .ok (.ifCond .eq 6, 3) := by decide +kernel
theorem dX6_clear_7 : decode cX6_clear 7 = .ok (.bipush (-2), 2) := by decide +kernel
theorem dX6_clear_9 : decode cX6_clear 9 = .ok (.ireturn, 1) := by decide +kernel
theorem dX6_clear_10 : decode cX6_clear 10 = .ok (.aload_n 0, 1) := by decide +kernel
theorem dX6_clear_11 : decode cX6_clear 11 = .ok (.getfield 11, 3) := by decide +kernel
theorem dX6_clear_14 : decode cX6_clear 14 = .ok (.iload_n 1, 1) := by decide +kernel
theorem dX6_clear_15 : decode cX6_clear 15 = .ok (.aaload, 1) := by decide +kernel
theorem dX6_clear_16 : decode cX6_clear 16 = .ok (.invokevirtual 63, 3) := by decide +kernel
theorem dX6_clear_19 : decode cX6_clear 19 = .ok (.istore_n 2, 1) := by decide +kernel
theorem dX6_clear_20 : decode cX6_clear 20 = .ok (.aload_n 0, 1) := by decide +kernel
theorem dX6_clear_21 : decode cX6_clear 21 = .ok (.getfield 11, 3) := by decide +kernel
theorem dX6_clear_24 : decode cX6_clear 24 = .ok (.iload_n 1, 1) := by decide +kernel
theorem dX6_clear_25 : decode cX6_clear 25 = .ok (.aaload, 1) := by decide +kernel
theorem dX6_clear_26 : decode cX6_clear 26 = .ok (.iconst 0, 1) := by decide +kernel
theorem dX6_clear_27 : decode cX6_clear 27 = .ok (.putfield 71, 3) := by decide +kernel
theorem dX6_clear_30 : decode cX6_clear 30 = .ok (.iload_n 2, 1) := by decide +kernel
theorem dX6_clear_31 : decode cX6_clear 31 = .ok (.ireturn, 1) := by decide +kernel
set_option maxRecDepth 20000 in
theorem ggX6_join_X6_isNoSet : GoodIn wsX6_join wsX6_isNoSet := goodIn_r _ [6] (by decide +kernel) (by decide +kernel)
set_option maxRecDepth 20000 in
theorem gX6_join_X6_isNoSet : GoodIn wsX6_join (va_wsS RX6 45 yX6_isNoSet wsX6_isNoSet) := goodIn_app (goodIn_of _ (by decide +kernel)) ggX6_join_X6_isNoSet
set_option maxRecDepth 20000 in
theorem ggX6_join_X6_takeWork : GoodIn wsX6_join wsX6_takeWork := goodIn_r _ [10, 11, 79, 80, 81, 82, 83, 84] (by decide +kernel) (by decide +kernel)
set_option maxRecDepth 20000 in
theorem gX6_join_X6_takeWork : GoodIn wsX6_join (wsV RX6 74 RX6 yX6_takeWork wsX6_takeWork) := goodIn_app (goodIn_of _ (by decide +kernel)) ggX6_join_X6_takeWork
set_option maxRecDepth 20000 in
theorem ggX6_join_X2_becomeJoin : GoodIn wsX6_join wsX2_becomeJoin := goodIn_r _ [16, 17, 18, 19, 20, 21, 22, 23, 15, 24, 25, 26, 27, 28, 29, 30, 31, 32, 33, 34, 35, 36, 37, 38, 39, 40, 41, 42, 43, 44, 45, 46, 47, 48, 49, 50, 51, 52, 53, 54, 55, 56, 57, 58, 59, 60, 61, 62, 63, 64, 65, 66, 67, 68, 69, 70, 85, 86, 87, 88, 89, 90] (by decide +kernel) (by decide +kernel)
set_option maxRecDepth 20000 in
theorem gX6_join_X2_becomeJoin : GoodIn wsX6_join (wsV RX6 77 RX2 yX2_becomeJoin wsX2_becomeJoin) := goodIn_app (goodIn_of _ (by decide +kernel)) ggX6_join_X2_becomeJoin
set_option maxRecDepth 20000 in
theorem ggX6_join_X2_exchange : GoodIn wsX6_join wsX2_exchange := goodIn_r _ [74, 19, 17, 85, 86] (by decide +kernel) (by decide +kernel)
set_option maxRecDepth 20000 in
theorem gX6_join_X2_exchange : GoodIn wsX6_join (wsV RX6 81 RX2 yX2_exchange wsX2_exchange) := goodIn_app (goodIn_of _ (by decide +kernel)) ggX6_join_X2_exchange
set_option maxRecDepth 20000 in
theorem ggX6_join_X2_total : GoodIn wsX6_join wsX2_total := goodIn_r _ [78, 17, 19, 20, 85, 86, 87, 88, 89, 90] (by decide +kernel) (by decide +kernel)
set_option maxRecDepth 20000 in
theorem gX6_join_X2_total : GoodIn wsX6_join (wsV RX6 63 RX2 yX2_total wsX2_total) := goodIn_app (goodIn_of _ (by decide +kernel)) ggX6_join_X2_total
theorem dX6_join_0 : decode cX6_join 0 = .ok (.iload_n 1, 1) := by decide +kernel
theorem dX6_join_1 : decode cX6_join 1 = .ok (.invokestatic 45, 3) := by decide +kernel
theorem dX6_join_4 : decode cX6_join 4 = .ok (.ifCond .ne 27, 3) := by decide +kernel
theorem dX6_join_7 : decode cX6_join 7 = .ok (.iload_n 3, 1) := by decide +kernel
theorem dX6_join_8 : decode cX6_join 8 = .ok (.invokestatic 45, 3) := by decide +kernel
theorem dX6_join_11 : decode cX6_join 11 = .ok (.ifCond .ne 20, 3) := by decide +kernel
theorem dX6_join_14 : decode cX6_join 14 = .ok (.iload 4, 2) := by decide +kernel
theorem dX6_join_16 : decode cX6_join 16 = .ok (.invokestatic 45, 3) := by decide +kernel
theorem dX6_join_19 : decode cX6_join 19 = .ok (.ifCond .ne 12, 3) := by decide +kernel
theorem dX6_join_22 : decode cX6_join 22 = .ok (.iload_n 2, 1) := by decide +kernel
theorem dX6_join_23 : decode cX6_join 23 = .ok (.ifCond .lt 8, 3) := by decide +kernel
theorem dX6_join_26 : decode cX6_join 26 = .ok (.iload_n 2, 1) := by decide +kernel
theorem dX6_join_27 : decode cX6_join 27 = .ok (.iconst 3, 1) := by decide +kernel
theorem dX6_join_28 : decode cX6_join 28 = .ok (.if_icmp .le 6, 3) := by decide +kernel
theorem dX6_join_31 : decode cX6_join 31 = .ok (.bipush (-2), 2) := by decide +kernel
theorem dX6_join_33 : decode cX6_join 33 = .ok (.ireturn, 1) := by decide +kernel
theorem dX6_join_34 : decode cX6_join 34 = .ok (.aload_n 0, 1) := by decide +kernel
theorem dX6_join_35 : decode cX6_join 35 = .ok (.iconst 1, 1) := by decide +kernel
theorem dX6_join_36 : decode cX6_join 36 = .ok (.invokevirtual 74, 3) := by decide +kernel
theorem dX6_join_39 : decode cX6_join 39 = .ok (.ifCond .ne 6, 3) := by decide +kernel
theorem dX6_join_42 : decode cX6_join 42 = .ok (.bipush (-5), 2) := by decide +kernel
theorem dX6_join_44 : decode cX6_join 44 = .ok (.ireturn, 1) := by decide +kernel
theorem dX6_join_45 : decode cX6_join 45 = .ok (.aload_n 0, 1) := by decide +kernel
theorem dX6_join_46 : decode cX6_join 46 = .ok (.getfield 16, 3) := by decide +kernel
theorem dX6_join_49 : decode cX6_join 49 = .ok (.iload_n 2, 1) := by decide +kernel
theorem dX6_join_50 : decode cX6_join 50 = .ok (.aload_n 0, 1) := by decide +kernel
theorem dX6_join_51 : decode cX6_join 51 = .ok (.getfield 11, 3) := by decide +kernel
theorem dX6_join_54 : decode cX6_join 54 = .ok (.iload_n 3, 1) := by decide +kernel
theorem dX6_join_55 : decode cX6_join 55 = .ok (.aaload, 1) := by decide +kernel
theorem dX6_join_56 : decode cX6_join 56 = .ok (.aload_n 0, 1) := by decide +kernel
theorem dX6_join_57 : decode cX6_join 57 = .ok (.getfield 11, 3) := by decide +kernel
theorem dX6_join_60 : decode cX6_join 60 = .ok (.iload 4, 2) := by decide +kernel
theorem dX6_join_62 : decode cX6_join 62 = .ok (.aaload, 1) := by decide +kernel
theorem dX6_join_63 : decode cX6_join 63 = .ok (.invokevirtual 77, 3) := by decide +kernel
theorem dX6_join_66 : decode cX6_join 66 = .ok (.ifCond .ne 6, 3) := by decide +kernel
theorem dX6_join_69 : decode cX6_join 69 = .ok (.bipush (-3), 2) := by decide +kernel
theorem dX6_join_71 : decode cX6_join 71 = .ok (.ireturn, 1) := by decide +kernel
theorem dX6_join_72 : decode cX6_join 72 = .ok (.aload_n 0, 1) := by decide +kernel
theorem dX6_join_73 : decode cX6_join 73 = .ok (.getfield 11, 3) := by decide +kernel
theorem dX6_join_76 : decode cX6_join 76 = .ok (.iload_n 1, 1) := by decide +kernel
theorem dX6_join_77 : decode cX6_join 77 = .ok (.aaload, 1) := by decide +kernel
theorem dX6_join_78 : decode cX6_join 78 = .ok (.aload_n 0, 1) := by decide +kernel
theorem dX6_join_79 : decode cX6_join 79 = .ok (.getfield 16, 3) := by decide +kernel
theorem dX6_join_82 : decode cX6_join 82 = .ok (.invokevirtual 81, 3) := by decide +kernel
theorem dX6_join_85 : decode cX6_join 85 = .ok (.aload_n 0, 1) := by decide +kernel
theorem dX6_join_86 : decode cX6_join 86 = .ok (.getfield 11, 3) := by decide +kernel
theorem dX6_join_89 : decode cX6_join 89 = .ok (.iload_n 1, 1) := by decide +kernel
theorem dX6_join_90 : decode cX6_join 90 = .ok (.aaload, 1) := by decide +kernel
theorem dX6_join_91 : decode cX6_join 91 = .ok (.invokevirtual 63, 3) := by decide +kernel
theorem dX6_join_94 : decode cX6_join 94 = .ok (.ireturn, 1) := by decide +kernel
set_option maxRecDepth 20000 in
theorem ggX6_shrink_X6_isNoSet : GoodIn wsX6_shrink wsX6_isNoSet := goodIn_r _ [5] (by decide +kernel) (by decide +kernel)
set_option maxRecDepth 20000 in
theorem gX6_shrink_X6_isNoSet : GoodIn wsX6_shrink (va_wsS RX6 45 yX6_isNoSet wsX6_isNoSet) := goodIn_app (goodIn_of _ (by decide +kernel)) ggX6_shrink_X6_isNoSet
set_option maxRecDepth 20000 in
theorem ggX6_shrink_X6_takeWork : GoodIn wsX6_shrink wsX6_takeWork := goodIn_r _ [9, 10, 47, 48, 49, 50, 51, 52] (by decide +kernel) (by decide +kernel)
set_option maxRecDepth 20000 in
theorem gX6_shrink_X6_takeWork : GoodIn wsX6_shrink (wsV RX6 74 RX6 yX6_takeWork wsX6_takeWork) := goodIn_app (goodIn_of _ (by decide +kernel)) ggX6_shrink_X6_takeWork
set_option maxRecDepth 20000 in
theorem ggX6_shrink_X2_shrinkAll : GoodIn wsX6_shrink wsX2_shrinkAll := goodIn_r _ [15, 16, 17, 18, 19, 20, 21, 22, 23, 24, 25, 26, 27, 28, 29, 30, 31, 32, 33, 34, 35, 36, 37, 38, 39, 40, 41, 53, 54, 55, 56, 57, 58] (by decide +kernel) (by decide +kernel)
set_option maxRecDepth 20000 in
theorem gX6_shrink_X2_shrinkAll : GoodIn wsX6_shrink (wsV RX6 85 RX2 yX2_shrinkAll wsX2_shrinkAll) := goodIn_app (goodIn_of _ (by decide +kernel)) ggX6_shrink_X2_shrinkAll
set_option maxRecDepth 20000 in
theorem ggX6_shrink_X2_totalOfKind : GoodIn wsX6_shrink wsX2_totalOfKind := goodIn_r _ [45, 16, 17, 46, 53, 54, 55, 56, 57, 58] (by decide +kernel) (by decide +kernel)
set_option maxRecDepth 20000 in
theorem gX6_shrink_X2_totalOfKind : GoodIn wsX6_shrink (wsV RX6 88 RX2 yX2_totalOfKind wsX2_totalOfKind) := goodIn_app (goodIn_of _ (by decide +kernel)) ggX6_shrink_X2_totalOfKind
theorem dX6_shrink_0 : decode cX6_shrink 0 = .ok (.iload_n 1, 1) := by decide +kernel
theorem dX6_shrink_1 : decode cX6_shrink 1 = .ok (.invokestatic 45, 3) := by decide +kernel
theorem dX6_shrink_4 : decode cX6_shrink 4 = .ok (.ifCond .eq 6, 3) := by decide +kernel
theorem dX6_shrink_7 : decode cX6_shrink 7 = .ok (.bipush (-2), 2) := by decide +kernel
theorem dX6_shrink_9 : decode cX6_shrink 9 = .ok (.ireturn, 1) := by decide +kernel
theorem dX6_shrink_10 : decode cX6_shrink 10 = .ok (.aload_n 0, 1) := by decide +kernel
theorem dX6_shrink_11 : decode cX6_shrink 11 = .ok (.iconst 1, 1) := by decide +kernel
theorem dX6_shrink_12 : decode cX6_shrink 12 = .ok (.invokevirtual 74, 3) := by decide +kernel
theorem dX6_shrink_15 : decode cX6_shrink 15 = .ok (.ifCond .ne 6, 3) := by decide +kernel
theorem dX6_shrink_18 : decode cX6_shrink 18 = .ok (.bipush (-5), 2) := by decide +kernel
theorem dX6_shrink_20 : decode cX6_shrink 20 = .ok (.ireturn, 1) := by decide +kernel
theorem dX6_shrink_21 : decode cX6_shrink 21 = .ok (.aload_n 0, 1) := by decide +kernel
theorem dX6_shrink_22 : decode cX6_shrink 22 = .ok (.getfield 11, 3) := by decide +kernel
theorem dX6_shrink_25 : decode cX6_shrink 25 = .ok (.iload_n 1, 1) := by decide +kernel
theorem dX6_shrink_26 : decode cX6_shrink 26 = .ok (.aaload, 1) := by decide +kernel
theorem dX6_shrink_27 : decode cX6_shrink 27 = .ok (.invokevirtual 85, 3) := by decide +kernel
theorem dX6_shrink_30 : decode cX6_shrink 30 = .ok (.aload_n 0, 1) := by decide +kernel
theorem dX6_shrink_31 : decode cX6_shrink 31 = .ok (.getfield 11, 3) := by decide +kernel
theorem dX6_shrink_34 : decode cX6_shrink 34 = .ok (.iload_n 1, 1) := by decide +kernel
theorem dX6_shrink_35 : decode cX6_shrink 35 = .ok (.aaload, 1) := by decide +kernel
theorem dX6_shrink_36 : decode cX6_shrink 36 = .ok (.iconst 2, 1) := by decide +kernel
theorem dX6_shrink_37 : decode cX6_shrink 37 = .ok (.invokevirtual 88, 3) := by decide +kernel
theorem dX6_shrink_40 : decode cX6_shrink 40 = .ok (.ireturn, 1) := by decide +kernel
set_option maxRecDepth 20000 in
theorem ggX6_formula_X6_isNoSet : GoodIn wsX6_formula wsX6_isNoSet := goodIn_r _ [8] (by decide +kernel) (by decide +kernel)
set_option maxRecDepth 20000 in
theorem gX6_formula_X6_isNoSet : GoodIn wsX6_formula (va_wsS RX6 45 yX6_isNoSet wsX6_isNoSet) := goodIn_app (goodIn_of _ (by decide +kernel)) ggX6_formula_X6_isNoSet
set_option maxRecDepth 20000 in
theorem ggX6_formula_X3_isSound : GoodIn wsX6_formula wsX3_isSound := goodIn_r _ [12, 13, 14, 11, 15, 16, 17, 18] (by decide +kernel) (by decide +kernel)
set_option maxRecDepth 20000 in
theorem gX6_formula_X3_isSound : GoodIn wsX6_formula (va_wsS RX6 91 yX3_isSound wsX3_isSound) := goodIn_app (goodIn_of _ (by decide +kernel)) ggX6_formula_X3_isSound
set_option maxRecDepth 20000 in
theorem ggX6_formula_X6_takeWork : GoodIn wsX6_formula wsX6_takeWork := goodIn_r _ [22, 23, 151, 152, 153, 154, 155, 156] (by decide +kernel) (by decide +kernel)
set_option maxRecDepth 20000 in
theorem gX6_formula_X6_takeWork : GoodIn wsX6_formula (wsV RX6 74 RX6 yX6_takeWork wsX6_takeWork) := goodIn_app (goodIn_of _ (by decide +kernel)) ggX6_formula_X6_takeWork
set_option maxRecDepth 20000 in
theorem ggX6_formula_X3_evaluate : GoodIn wsX6_formula wsX3_evaluate := goodIn_r _ [27, 28, 29, 13, 14, 11, 15, 16, 17, 18, 30, 31, 32, 33, 34, 35, 36, 37, 38, 39, 40, 41, 42, 43, 44, 45, 46, 47, 48, 49, 50, 51, 52, 53, 54, 55, 56, 57, 58, 59, 60, 61, 62, 63, 64, 65, 66, 67, 68, 69, 70, 71, 72, 73, 74, 75, 76, 77, 78, 79, 80, 81, 82, 83, 84, 85, 86, 87, 88, 89, 90, 91, 92, 93, 94, 95, 96, 97, 98, 99, 100, 101, 102, 103, 104, 105, 106, 107, 108, 109, 110, 111, 112, 113, 114, 115, 116, 117, 118, 119, 120, 121, 122, 123, 124, 125, 126, 127, 128, 129, 130, 131, 132, 133, 134, 135, 136, 137, 138, 139, 140, 141, 142, 143, 144, 145, 157, 158, 159, 160, 161, 162, 163, 164] (by decide +kernel) (by decide +kernel)
set_option maxRecDepth 20000 in
theorem gX6_formula_X3_evaluate : GoodIn wsX6_formula (wsV RX6 95 RX3 yX3_evaluate wsX3_evaluate) := goodIn_app (goodIn_of _ (by decide +kernel)) ggX6_formula_X3_evaluate
set_option maxRecDepth 20000 in
theorem ggX6_formula_X2_exchange : GoodIn wsX6_formula wsX2_exchange := goodIn_r _ [96, 41, 39, 159, 160] (by decide +kernel) (by decide +kernel)
set_option maxRecDepth 20000 in
theorem gX6_formula_X2_exchange : GoodIn wsX6_formula (wsV RX6 81 RX2 yX2_exchange wsX2_exchange) := goodIn_app (goodIn_of _ (by decide +kernel)) ggX6_formula_X2_exchange
set_option maxRecDepth 20000 in
theorem ggX6_formula_X2_total : GoodIn wsX6_formula wsX2_total := goodIn_r _ [150, 39, 41, 42, 159, 160, 161, 162, 163, 164] (by decide +kernel) (by decide +kernel)
set_option maxRecDepth 20000 in
theorem gX6_formula_X2_total : GoodIn wsX6_formula (wsV RX6 63 RX2 yX2_total wsX2_total) := goodIn_app (goodIn_of _ (by decide +kernel)) ggX6_formula_X2_total
theorem dX6_formula_0 : decode cX6_formula 0 = .ok (.iload_n 1, 1) := by decide +kernel
theorem dX6_formula_1 : decode cX6_formula 1 = .ok (.invokestatic 45, 3) := by decide +kernel
theorem dX6_formula_4 : decode cX6_formula 4 = .ok (.ifCond .ne 12, 3) := by decide +kernel
theorem dX6_formula_7 : decode cX6_formula 7 = .ok (.lload_n 2, 1) := by decide +kernel
theorem dX6_formula_8 : decode cX6_formula 8 = .ok (.iload 4, 2) := by decide +kernel
theorem dX6_formula_10 : decode cX6_formula 10 = .ok (.invokestatic 91, 3) := by decide +kernel
theorem dX6_formula_13 : decode cX6_formula 13 = .ok (.ifCond .ne 6, 3) := by decide +kernel
theorem dX6_formula_16 : decode cX6_formula 16 = .ok (.bipush (-2), 2) := by decide +kernel
theorem dX6_formula_18 : decode cX6_formula 18 = .ok (.ireturn, 1) := by decide +kernel
theorem dX6_formula_19 : decode cX6_formula 19 = .ok (.aload_n 0, 1) := by decide +kernel
theorem dX6_formula_20 : decode cX6_formula 20 = .ok (.iload 4, 2) := by decide +kernel
theorem dX6_formula_22 : decode cX6_formula 22 = .ok (.invokevirtual 74, 3) := by decide +kernel
theorem dX6_formula_25 : decode cX6_formula 25 = .ok (.ifCond .ne 6, 3) := by decide +kernel
theorem dX6_formula_28 : decode cX6_formula 28 = .ok (.bipush (-5), 2) := by decide +kernel
theorem dX6_formula_30 : decode cX6_formula 30 = .ok (.ireturn, 1) := by decide +kernel
theorem dX6_formula_31 : decode cX6_formula 31 = .ok (.aload_n 0, 1) := by decide +kernel
theorem dX6_formula_32 : decode cX6_formula 32 = .ok (.getfield 23, 3) := by decide +kernel
theorem dX6_formula_35 : decode cX6_formula 35 = .ok (.lload_n 2, 1) := by decide +kernel
theorem dX6_formula_36 : decode cX6_formula 36 = .ok (.iload 4, 2) := by decide +kernel
theorem dX6_formula_38 : decode cX6_formula 38 = .ok (.aload_n 0, 1) := by decide +kernel
theorem dX6_formula_39 : decode cX6_formula 39 = .ok (.getfield 11, 3) := by decide +kernel
theorem dX6_formula_42 : decode cX6_formula 42 = .ok (.aload_n 0, 1) := by decide +kernel
theorem dX6_formula_43 : decode cX6_formula 43 = .ok (.getfield 16, 3) := by decide +kernel
theorem dX6_formula_46 : decode cX6_formula 46 = .ok (.invokevirtual 95, 3) := by decide +kernel
theorem dX6_formula_49 : decode cX6_formula 49 = .ok (.ifCond .ne 6, 3) := by decide +kernel
theorem dX6_formula_52 : decode cX6_formula 52 = .ok (.bipush (-3), 2) := by decide +kernel
theorem dX6_formula_54 : decode cX6_formula 54 = .ok (.ireturn, 1) := by decide +kernel
theorem dX6_formula_55 : decode cX6_formula 55 = .ok (.aload_n 0, 1) := by decide +kernel
theorem dX6_formula_56 : decode cX6_formula 56 = .ok (.getfield 11, 3) := by decide +kernel
theorem dX6_formula_59 : decode cX6_formula 59 = .ok (.iload_n 1, 1) := by decide +kernel
theorem dX6_formula_60 : decode cX6_formula 60 = .ok (.aaload, 1) := by decide +kernel
theorem dX6_formula_61 : decode cX6_formula 61 = .ok (.aload_n 0, 1) := by decide +kernel
theorem dX6_formula_62 : decode cX6_formula 62 = .ok (.getfield 23, 3) := by decide +kernel
theorem dX6_formula_65 : decode cX6_formula 65 = .ok (.getfield 99, 3) := by decide +kernel
theorem dX6_formula_68 : decode cX6_formula 68 = .ok (.iconst 0, 1) := by decide +kernel
theorem dX6_formula_69 : decode cX6_formula 69 = .ok (.aaload, 1) := by decide +kernel
theorem dX6_formula_70 : decode cX6_formula 70 = .ok (.invokevirtual 81, 3) := by decide +kernel
theorem dX6_formula_73 : decode cX6_formula 73 = .ok (.aload_n 0, 1) := by decide +kernel
theorem dX6_formula_74 : decode cX6_formula 74 = .ok (.getfield 11, 3) := by decide +kernel
theorem dX6_formula_77 : decode cX6_formula 77 = .ok (.iload_n 1, 1) := by decide +kernel
theorem dX6_formula_78 : decode cX6_formula 78 = .ok (.aaload, 1) := by decide +kernel
theorem dX6_formula_79 : decode cX6_formula 79 = .ok (.invokevirtual 63, 3) := by decide +kernel
theorem dX6_formula_82 : decode cX6_formula 82 = .ok (.ireturn, 1) := by decide +kernel
set_option maxRecDepth 20000 in
theorem ggX6_has_X6_isNoSet : GoodIn wsX6_has wsX6_isNoSet := goodIn_r _ [5] (by decide +kernel) (by decide +kernel)
set_option maxRecDepth 20000 in
theorem gX6_has_X6_isNoSet : GoodIn wsX6_has (va_wsS RX6 45 yX6_isNoSet wsX6_isNoSet) := goodIn_app (goodIn_of _ (by decide +kernel)) ggX6_has_X6_isNoSet
set_option maxRecDepth 20000 in
theorem ggX6_has_X6_keyOf : GoodIn wsX6_has wsX6_keyOf := goodIn_r _ [8] (by decide +kernel) (by decide +kernel)
set_option maxRecDepth 20000 in
theorem gX6_has_X6_keyOf : GoodIn wsX6_has (va_wsS RX6 49 yX6_keyOf wsX6_keyOf) := goodIn_app (goodIn_of _ (by decide +kernel)) ggX6_has_X6_keyOf
set_option maxRecDepth 20000 in
theorem ggX6_has_X2_find : GoodIn wsX6_has wsX2_find := goodIn_r _ [13, 14, 15, 16, 17, 12, 18, 19, 20, 21, 22, 23, 24, 25, 42, 43, 44, 45, 46, 47] (by decide +kernel) (by decide +kernel)
set_option maxRecDepth 20000 in
theorem gX6_has_X2_find : GoodIn wsX6_has (wsV RX6 102 RX2 yX2_find wsX2_find) := goodIn_app (goodIn_of _ (by decide +kernel)) ggX6_has_X2_find
set_option maxRecDepth 20000 in
theorem ggX6_has_X6_lowOf : GoodIn wsX6_has wsX6_lowOf := goodIn_r _ [28, 29] (by decide +kernel) (by decide +kernel)
set_option maxRecDepth 20000 in
theorem gX6_has_X6_lowOf : GoodIn wsX6_has (va_wsS RX6 53 yX6_lowOf wsX6_lowOf) := goodIn_app (goodIn_of _ (by decide +kernel)) ggX6_has_X6_lowOf
set_option maxRecDepth 20000 in
theorem ggX6_has_X1_holds : GoodIn wsX6_has wsX1_holds := goodIn_r _ [34, 35, 44, 45, 46, 47] (by decide +kernel) (by decide +kernel)
set_option maxRecDepth 20000 in
theorem gX6_has_X1_holds : GoodIn wsX6_has (wsV RX6 106 RX1 yX1_holds wsX1_holds) := goodIn_app (goodIn_of _ (by decide +kernel)) ggX6_has_X1_holds
theorem dX6_has_0 : decode cX6_has 0 = .ok (.iload_n 1, 1) := by decide +kernel
theorem dX6_has_1 : decode cX6_has 1 = .ok (.invokestatic 45, 3) := by decide +kernel
theorem dX6_has_4 : decode cX6_has 4 = .ok (.ifCond .eq 6, 3) := by decide +kernel
theorem dX6_has_7 : decode cX6_has 7 = .ok (.bipush (-2), 2) := by decide +kernel
theorem dX6_has_9 : decode cX6_has 9 = .ok (.ireturn, 1) := by decide +kernel
theorem dX6_has_10 : decode cX6_has 10 = .ok (.aload_n 0, 1) := by decide +kernel
theorem dX6_has_11 : decode cX6_has 11 = .ok (.getfield 11, 3) := by decide +kernel
theorem dX6_has_14 : decode cX6_has 14 = .ok (.iload_n 1, 1) := by decide +kernel
theorem dX6_has_15 : decode cX6_has 15 = .ok (.aaload, 1) := by decide +kernel
theorem dX6_has_16 : decode cX6_has 16 = .ok (.iload_n 2, 1) := by decide +kernel
theorem dX6_has_17 : decode cX6_has 17 = .ok (.invokestatic 49, 3) := by decide +kernel
theorem dX6_has_20 : decode cX6_has 20 = .ok (.invokevirtual 102, 3) := by decide +kernel
theorem dX6_has_23 : decode cX6_has 23 = .ok (.astore_n 3, 1) := by decide +kernel
theorem dX6_has_24 : decode cX6_has 24 = .ok (.aload_n 3, 1) := by decide +kernel
theorem dX6_has_25 : decode cX6_has 25 = .ok (.ifnull 18, 3) := by decide +kernel
theorem dX6_has_28 : decode cX6_has 28 = .ok (.aload_n 3, 1) := by decide +kernel
theorem dX6_has_29 : decode cX6_has 29 = .ok (.iload_n 2, 1) := by decide +kernel
theorem dX6_has_30 : decode cX6_has 30 = .ok (.invokestatic 53, 3) := by decide +kernel
theorem dX6_has_33 : decode cX6_has 33 = .ok (.invokevirtual 106, 3) := by decide +kernel
theorem dX6_has_36 : decode cX6_has 36 = .ok (.ifCond .eq 7, 3) := by decide +kernel
theorem dX6_has_39 : decode cX6_has 39 = .ok (.iconst 1, 1) := by decide +kernel
theorem dX6_has_40 : decode cX6_has 40 = .ok (.goto 4, 3) := by decide +kernel
theorem dX6_has_43 : decode cX6_has 43 = .ok (.iconst 0, 1) := by decide +kernel
theorem dX6_has_44 : decode cX6_has 44 = .ok (.ireturn, 1) := by decide +kernel
set_option maxRecDepth 20000 in
theorem ggX6_rank_X6_isNoSet : GoodIn wsX6_rank wsX6_isNoSet := goodIn_r _ [5] (by decide +kernel) (by decide +kernel)
set_option maxRecDepth 20000 in
theorem gX6_rank_X6_isNoSet : GoodIn wsX6_rank (va_wsS RX6 45 yX6_isNoSet wsX6_isNoSet) := goodIn_app (goodIn_of _ (by decide +kernel)) ggX6_rank_X6_isNoSet
set_option maxRecDepth 20000 in
theorem ggX6_rank_X6_keyOf : GoodIn wsX6_rank wsX6_keyOf := goodIn_r _ [8] (by decide +kernel) (by decide +kernel)
set_option maxRecDepth 20000 in
theorem gX6_rank_X6_keyOf : GoodIn wsX6_rank (va_wsS RX6 49 yX6_keyOf wsX6_keyOf) := goodIn_app (goodIn_of _ (by decide +kernel)) ggX6_rank_X6_keyOf
set_option maxRecDepth 20000 in
theorem ggX6_rank_X6_lowOf : GoodIn wsX6_rank wsX6_lowOf := goodIn_r _ [11, 12] (by decide +kernel) (by decide +kernel)
set_option maxRecDepth 20000 in
theorem gX6_rank_X6_lowOf : GoodIn wsX6_rank (va_wsS RX6 53 yX6_lowOf wsX6_lowOf) := goodIn_app (goodIn_of _ (by decide +kernel)) ggX6_rank_X6_lowOf
set_option maxRecDepth 20000 in
theorem ggX6_rank_X2_totalUpTo : GoodIn wsX6_rank wsX2_totalUpTo := goodIn_r _ [17, 18, 19, 20, 21, 22, 23, 24, 25, 26, 27, 28, 29, 30, 31, 32, 33, 34, 35, 36, 37, 38, 45, 46, 47, 48, 49, 50] (by decide +kernel) (by decide +kernel)
set_option maxRecDepth 20000 in
theorem gX6_rank_X2_totalUpTo : GoodIn wsX6_rank (wsV RX6 111 RX2 yX2_totalUpTo wsX2_totalUpTo) := goodIn_app (goodIn_of _ (by decide +kernel)) ggX6_rank_X2_totalUpTo
theorem dX6_rank_0 : decode cX6_rank 0 = .ok (.iload_n 1, 1) := by decide +kernel
theorem dX6_rank_1 : decode cX6_rank 1 = .ok (.invokestatic 45, 3) := by decide +kernel
theorem dX6_rank_4 : decode cX6_rank 4 = .ok (.ifCond .eq 8, 3) := by decide +kernel
theorem dX6_rank_7 : decode cX6_rank 7 = .ok (.bipush (-2), 2) := by decide +kernel
theorem dX6_rank_9 : decode cX6_rank 9 = .ok (.goto 20, 3) := by decide +kernel
theorem dX6_rank_12 : decode cX6_rank 12 = .ok (.aload_n 0, 1) := by decide +kernel
theorem dX6_rank_13 : decode cX6_rank 13 = .ok (.getfield 11, 3) := by decide +kernel
theorem dX6_rank_16 : decode cX6_rank 16 = .ok (.iload_n 1, 1) := by decide +kernel
theorem dX6_rank_17 : decode cX6_rank 17 = .ok (.aaload, 1) := by decide +kernel
theorem dX6_rank_18 : decode cX6_rank 18 = .ok (.iload_n 2, 1) := by decide +kernel
theorem dX6_rank_19 : decode cX6_rank 19 = .ok (.invokestatic 49, 3) := by decide +kernel
theorem dX6_rank_22 : decode cX6_rank 22 = .ok (.iload_n 2, 1) := by decide +kernel
theorem dX6_rank_23 : decode cX6_rank 23 = .ok (.invokestatic 53, 3) := by decide +kernel
theorem dX6_rank_26 : decode cX6_rank 26 = .ok (.invokevirtual 111, 3) := by decide +kernel
theorem dX6_rank_29 : decode cX6_rank 29 = .ok (.ireturn, 1) := by decide +kernel
set_option maxRecDepth 20000 in
theorem ggX6_select_X6_isNoSet : GoodIn wsX6_select wsX6_isNoSet := goodIn_r _ [6] (by decide +kernel) (by decide +kernel)
set_option maxRecDepth 20000 in
theorem gX6_select_X6_isNoSet : GoodIn wsX6_select (va_wsS RX6 45 yX6_isNoSet wsX6_isNoSet) := goodIn_app (goodIn_of _ (by decide +kernel)) ggX6_select_X6_isNoSet
set_option maxRecDepth 20000 in
theorem ggX6_select_X2_numberAt : GoodIn wsX6_select wsX2_numberAt := goodIn_r _ [11, 12, 13, 14, 15, 16, 17, 18, 19, 20, 21, 22, 23, 24, 25, 26, 27, 28, 29, 30, 31, 32, 33, 34, 35, 36, 37, 38, 39, 10, 40, 47, 48, 49, 50, 51, 52] (by decide +kernel) (by decide +kernel)
set_option maxRecDepth 20000 in
theorem gX6_select_X2_numberAt : GoodIn wsX6_select (wsV RX6 117 RX2 yX2_numberAt wsX2_numberAt) := goodIn_app (goodIn_of _ (by decide +kernel)) ggX6_select_X2_numberAt
theorem dX6_select_0 : decode cX6_select 0 = .ok (.iload_n 1, 1) := by decide +kernel
theorem dX6_select_1 : decode cX6_select 1 = .ok (.invokestatic 45, 3) := by decide +kernel
theorem dX6_select_4 : decode cX6_select 4 = .ok (.ifCond .ne 7, 3) := by decide +kernel
theorem dX6_select_7 : decode cX6_select 7 = .ok (.iload_n 2, 1) := by decide +kernel
theorem dX6_select_8 : decode cX6_select 8 = .ok (.ifCond .ge 9, 3) := by decide +kernel
theorem dX6_select_11 : decode cX6_select 11 = .ok (.ldc2_w 115, 3) := by decide +kernel
theorem dX6_select_14 : decode cX6_select 14 = .ok (.goto 13, 3) := by decide +kernel
theorem dX6_select_17 : decode cX6_select 17 = .ok (.aload_n 0, 1) := by decide +kernel
theorem dX6_select_18 : decode cX6_select 18 = .ok (.getfield 11, 3) := by decide +kernel
theorem dX6_select_21 : decode cX6_select 21 = .ok (.iload_n 1, 1) := by decide +kernel
theorem dX6_select_22 : decode cX6_select 22 = .ok (.aaload, 1) := by decide +kernel
theorem dX6_select_23 : decode cX6_select 23 = .ok (.iload_n 2, 1) := by decide +kernel
theorem dX6_select_24 : decode cX6_select 24 = .ok (.invokevirtual 117, 3) := by decide +kernel
theorem dX6_select_27 : decode cX6_select 27 = .ok (.lreturn, 1) := by decide +kernel
set_option maxRecDepth 20000 in
theorem ggX6_next_X6_isNoSet : GoodIn wsX6_next wsX6_isNoSet := goodIn_r _ [6] (by decide +kernel) (by decide +kernel)
set_option maxRecDepth 20000 in
theorem gX6_next_X6_isNoSet : GoodIn wsX6_next (va_wsS RX6 45 yX6_isNoSet wsX6_isNoSet) := goodIn_app (goodIn_of _ (by decide +kernel)) ggX6_next_X6_isNoSet
set_option maxRecDepth 20000 in
theorem ggX6_next_X6_keyOf : GoodIn wsX6_next wsX6_keyOf := goodIn_r _ [9] (by decide +kernel) (by decide +kernel)
set_option maxRecDepth 20000 in
theorem gX6_next_X6_keyOf : GoodIn wsX6_next (va_wsS RX6 49 yX6_keyOf wsX6_keyOf) := goodIn_app (goodIn_of _ (by decide +kernel)) ggX6_next_X6_keyOf
set_option maxRecDepth 20000 in
theorem ggX6_next_X6_lowOf : GoodIn wsX6_next wsX6_lowOf := goodIn_r _ [12, 13] (by decide +kernel) (by decide +kernel)
set_option maxRecDepth 20000 in
theorem gX6_next_X6_lowOf : GoodIn wsX6_next (va_wsS RX6 53 yX6_lowOf wsX6_lowOf) := goodIn_app (goodIn_of _ (by decide +kernel)) ggX6_next_X6_lowOf
set_option maxRecDepth 20000 in
theorem ggX6_next_X2_firstFrom : GoodIn wsX6_next wsX2_firstFrom := goodIn_r _ [18, 19, 20, 21, 22, 23, 24, 25, 26, 17, 27, 28, 29, 30, 31, 32, 33, 34, 35, 36, 37, 38, 39, 40, 41, 42, 43, 44, 45, 46, 47, 48, 49, 50, 51, 58, 59, 60, 61, 62, 63] (by decide +kernel) (by decide +kernel)
set_option maxRecDepth 20000 in
theorem gX6_next_X2_firstFrom : GoodIn wsX6_next (wsV RX6 121 RX2 yX2_firstFrom wsX2_firstFrom) := goodIn_app (goodIn_of _ (by decide +kernel)) ggX6_next_X2_firstFrom
theorem dX6_next_0 : decode cX6_next 0 = .ok (.iload_n 1, 1) := by decide +kernel
theorem dX6_next_1 : decode cX6_next 1 = .ok (.invokestatic 45, 3) := by decide +kernel
theorem dX6_next_4 : decode cX6_next 4 = .ok (.ifCond .eq 9, 3) := by decide +kernel
theorem dX6_next_7 : decode cX6_next 7 = .ok (.ldc2_w 115, 3) := by decide +kernel
theorem dX6_next_10 : decode cX6_next 10 = .ok (.goto 20, 3) := by decide +kernel
theorem dX6_next_13 : decode cX6_next 13 = .ok (.aload_n 0, 1) := by decide +kernel
theorem dX6_next_14 : decode cX6_next 14 = .ok (.getfield 11, 3) := by decide +kernel
theorem dX6_next_17 : decode cX6_next 17 = .ok (.iload_n 1, 1) := by decide +kernel
theorem dX6_next_18 : decode cX6_next 18 = .ok (.aaload, 1) := by decide +kernel
theorem dX6_next_19 : decode cX6_next 19 = .ok (.iload_n 2, 1) := by decide +kernel
theorem dX6_next_20 : decode cX6_next 20 = .ok (.invokestatic 49, 3) := by decide +kernel
theorem dX6_next_23 : decode cX6_next 23 = .ok (.iload_n 2, 1) := by decide +kernel
theorem dX6_next_24 : decode cX6_next 24 = .ok (.invokestatic 53, 3) := by decide +kernel
theorem dX6_next_27 : decode cX6_next 27 = .ok (.invokevirtual 121, 3) := by decide +kernel
theorem dX6_next_30 : decode cX6_next 30 = .ok (.lreturn, 1) := by decide +kernel
set_option maxRecDepth 20000 in
theorem ggX6_count_X6_isNoSet : GoodIn wsX6_count wsX6_isNoSet := goodIn_r _ [6] (by decide +kernel) (by decide +kernel)
set_option maxRecDepth 20000 in
theorem gX6_count_X6_isNoSet : GoodIn wsX6_count (va_wsS RX6 45 yX6_isNoSet wsX6_isNoSet) := goodIn_app (goodIn_of _ (by decide +kernel)) ggX6_count_X6_isNoSet
set_option maxRecDepth 20000 in
theorem ggX6_count_X2_total : GoodIn wsX6_count wsX2_total := goodIn_r _ [11, 12, 13, 14, 26, 27, 28, 29, 30, 31] (by decide +kernel) (by decide +kernel)
set_option maxRecDepth 20000 in
theorem gX6_count_X2_total : GoodIn wsX6_count (wsV RX6 63 RX2 yX2_total wsX2_total) := goodIn_app (goodIn_of _ (by decide +kernel)) ggX6_count_X2_total
set_option maxRecDepth 20000 in
theorem ggX6_count_X2_totalOfKind : GoodIn wsX6_count wsX2_totalOfKind := goodIn_r _ [18, 12, 13, 19, 26, 27, 28, 29, 30, 31] (by decide +kernel) (by decide +kernel)
set_option maxRecDepth 20000 in
theorem gX6_count_X2_totalOfKind : GoodIn wsX6_count (wsV RX6 88 RX2 yX2_totalOfKind wsX2_totalOfKind) := goodIn_app (goodIn_of _ (by decide +kernel)) ggX6_count_X2_totalOfKind
theorem dX6_count_0 : decode cX6_count 0 = .ok (.iload_n 1, 1) := by decide +kernel
theorem dX6_count_1 : decode cX6_count 1 = .ok (.invokestatic 45, 3) := by decide +kernel
theorem dX6_count_4 : decode cX6_count 4 = .ok (.ifCond .eq 6, 3) := by decide +kernel
theorem dX6_count_7 : decode cX6_count 7 = .ok (.bipush (-2), 2) := by decide +kernel
theorem dX6_count_9 : decode cX6_count 9 = .ok (.ireturn, 1) := by decide +kernel
theorem dX6_count_10 : decode cX6_count 10 = .ok (.iload_n 2, 1) := by decide +kernel
theorem dX6_count_11 : decode cX6_count 11 = .ok (.tableswitch 86 0 4 #[33, 43, 53, 64, 75], 33) := by decide +kernel
theorem dX6_count_44 : decode cX6_count 44 = .ok (.aload_n 0, 1) := by decide +kernel
theorem dX6_count_45 : decode cX6_count 45 = .ok (.getfield 11, 3) := by decide +kernel
theorem dX6_count_48 : decode cX6_count 48 = .ok (.iload_n 1, 1) := by decide +kernel
theorem dX6_count_49 : decode cX6_count 49 = .ok (.aaload, 1) := by decide +kernel
theorem dX6_count_50 : decode cX6_count 50 = .ok (.invokevirtual 63, 3) := by decide +kernel
theorem dX6_count_53 : decode cX6_count 53 = .ok (.ireturn, 1) := by decide +kernel
theorem dX6_count_54 : decode cX6_count 54 = .ok (.aload_n 0, 1) := by decide +kernel
theorem dX6_count_55 : decode cX6_count 55 = .ok (.getfield 11, 3) := by decide +kernel
theorem dX6_count_58 : decode cX6_count 58 = .ok (.iload_n 1, 1) := by decide +kernel
theorem dX6_count_59 : decode cX6_count 59 = .ok (.aaload, 1) := by decide +kernel
theorem dX6_count_60 : decode cX6_count 60 = .ok (.getfield 71, 3) := by decide +kernel
theorem dX6_count_63 : decode cX6_count 63 = .ok (.ireturn, 1) := by decide +kernel
theorem dX6_count_64 : decode cX6_count 64 = .ok (.aload_n 0, 1) := by decide +kernel
theorem dX6_count_65 : decode cX6_count 65 = .ok (.getfield 11, 3) := by decide +kernel
theorem dX6_count_68 : decode cX6_count 68 = .ok (.iload_n 1, 1) := by decide +kernel
theorem dX6_count_69 : decode cX6_count 69 = .ok (.aaload, 1) := by decide +kernel
theorem dX6_count_70 : decode cX6_count 70 = .ok (.iconst 0, 1) := by decide +kernel
theorem dX6_count_71 : decode cX6_count 71 = .ok (.invokevirtual 88, 3) := by decide +kernel
theorem dX6_count_74 : decode cX6_count 74 = .ok (.ireturn, 1) := by decide +kernel
theorem dX6_count_75 : decode cX6_count 75 = .ok (.aload_n 0, 1) := by decide +kernel
theorem dX6_count_76 : decode cX6_count 76 = .ok (.getfield 11, 3) := by decide +kernel
theorem dX6_count_79 : decode cX6_count 79 = .ok (.iload_n 1, 1) := by decide +kernel
theorem dX6_count_80 : decode cX6_count 80 = .ok (.aaload, 1) := by decide +kernel
theorem dX6_count_81 : decode cX6_count 81 = .ok (.iconst 1, 1) := by decide +kernel
theorem dX6_count_82 : decode cX6_count 82 = .ok (.invokevirtual 88, 3) := by decide +kernel
theorem dX6_count_85 : decode cX6_count 85 = .ok (.ireturn, 1) := by decide +kernel
theorem dX6_count_86 : decode cX6_count 86 = .ok (.aload_n 0, 1) := by decide +kernel
theorem dX6_count_87 : decode cX6_count 87 = .ok (.getfield 11, 3) := by decide +kernel
theorem dX6_count_90 : decode cX6_count 90 = .ok (.iload_n 1, 1) := by decide +kernel
theorem dX6_count_91 : decode cX6_count 91 = .ok (.aaload, 1) := by decide +kernel
theorem dX6_count_92 : decode cX6_count 92 = .ok (.iconst 2, 1) := by decide +kernel
theorem dX6_count_93 : decode cX6_count 93 = .ok (.invokevirtual 88, 3) := by decide +kernel
theorem dX6_count_96 : decode cX6_count 96 = .ok (.ireturn, 1) := by decide +kernel
theorem dX6_count_97 : decode cX6_count 97 = .ok (.bipush (-2), 2) := by decide +kernel
theorem dX6_count_99 : decode cX6_count 99 = .ok (.ireturn, 1) := by decide +kernel
set_option maxRecDepth 20000 in
theorem ggX6_container_X6_isNoSet : GoodIn wsX6_container wsX6_isNoSet := goodIn_r _ [10] (by decide +kernel) (by decide +kernel)
set_option maxRecDepth 20000 in
theorem gX6_container_X6_isNoSet : GoodIn wsX6_container (va_wsS RX6 45 yX6_isNoSet wsX6_isNoSet) := goodIn_app (goodIn_of _ (by decide +kernel)) ggX6_container_X6_isNoSet
set_option maxRecDepth 20000 in
theorem ggX6_container_X1_totalRuns : GoodIn wsX6_container wsX1_totalRuns := goodIn_r _ [15, 16, 17, 18, 19, 20, 21, 22, 23, 24, 33, 34, 35, 36] (by decide +kernel) (by decide +kernel)
set_option maxRecDepth 20000 in
theorem gX6_container_X1_totalRuns : GoodIn wsX6_container (wsV RX6 137 RX1 yX1_totalRuns wsX1_totalRuns) := goodIn_app (goodIn_of _ (by decide +kernel)) ggX6_container_X1_totalRuns
theorem dX6_container_0 : decode cX6_container 0 = .ok (.iload_n 1, 1) := by decide +kernel
theorem dX6_container_1 : decode cX6_container 1 = .ok (.invokestatic 45, 3) := by decide +kernel
theorem dX6_container_4 : decode cX6_container 4 = .ok (.ifCond .ne 20, 3) := by decide +kernel
theorem dX6_container_7 : decode cX6_container 7 = .ok (.iload_n 2, 1) := by decide +kernel
theorem dX6_container_8 : decode cX6_container 8 = .ok (.ifCond .lt 16, 3) := by decide +kernel
theorem dX6_container_11 : decode cX6_container 11 = .ok (.iload_n 2, 1) := by decide +kernel
theorem dX6_container_12 : decode cX6_container 12 = .ok (.aload_n 0, 1) := by decide +kernel
theorem dX6_container_13 : decode cX6_container 13 = .ok (.getfield 11, 3) := by decide +kernel
theorem dX6_container_16 : decode cX6_container 16 = .ok (.iload_n 1, 1) := by decide +kernel
theorem dX6_container_17 : decode cX6_container 17 = .ok (.aaload, 1) := by decide +kernel
theorem dX6_container_18 : decode cX6_container 18 = .ok (.getfield 71, 3) := by decide +kernel
theorem dX6_container_21 : decode cX6_container 21 = .ok (.if_icmp .lt 6, 3) := by decide +kernel
theorem dX6_container_24 : decode cX6_container 24 = .ok (.bipush (-2), 2) := by decide +kernel
theorem dX6_container_26 : decode cX6_container 26 = .ok (.ireturn, 1) := by decide +kernel
theorem dX6_container_27 : decode cX6_container 27 = .ok (.aload_n 0, 1) := by decide +kernel
theorem dX6_container_28 : decode cX6_container 28 = .ok (.getfield 11, 3) := by decide +kernel
theorem dX6_container_31 : decode cX6_container 31 = .ok (.iload_n 1, 1) := by decide +kernel
theorem dX6_container_32 : decode cX6_container 32 = .ok (.aaload, 1) := by decide +kernel
theorem dX6_container_33 : decode cX6_container 33 = .ok (.getfield 125, 3) := by decide +kernel
theorem dX6_container_36 : decode cX6_container 36 = .ok (.iload_n 2, 1) := by decide +kernel
theorem dX6_container_37 : decode cX6_container 37 = .ok (.aaload, 1) := by decide +kernel
theorem dX6_container_38 : decode cX6_container 38 = .ok (.astore 4, 2) := by decide +kernel
theorem dX6_container_40 : decode cX6_container 40 = .ok (.iload_n 3, 1) := by decide +kernel
theorem dX6_container_41 : decode cX6_container 41 = .ok (.tableswitch 55 0 3 #[31, 37, 43, 49], 31) := by decide +kernel
theorem dX6_container_72 : decode cX6_container 72 = .ok (.aload 4, 2) := by decide +kernel
theorem dX6_container_74 : decode cX6_container 74 = .ok (.getfield 129, 3) := by decide +kernel
theorem dX6_container_77 : decode cX6_container 77 = .ok (.ireturn, 1) := by decide +kernel
theorem dX6_container_78 : decode cX6_container 78 = .ok (.aload 4, 2) := by decide +kernel
theorem dX6_container_80 : decode cX6_container 80 = .ok (.getfield 132, 3) := by decide +kernel
theorem dX6_container_83 : decode cX6_container 83 = .ok (.ireturn, 1) := by decide +kernel
theorem dX6_container_84 : decode cX6_container 84 = .ok (.aload 4, 2) := by decide +kernel
theorem dX6_container_86 : decode cX6_container 86 = .ok (.getfield 135, 3) := by decide +kernel
theorem dX6_container_89 : decode cX6_container 89 = .ok (.ireturn, 1) := by decide +kernel
theorem dX6_container_90 : decode cX6_container 90 = .ok (.aload 4, 2) := by decide +kernel
theorem dX6_container_92 : decode cX6_container 92 = .ok (.invokevirtual 137, 3) := by decide +kernel
theorem dX6_container_95 : decode cX6_container 95 = .ok (.ireturn, 1) := by decide +kernel
theorem dX6_container_96 : decode cX6_container 96 = .ok (.bipush (-2), 2) := by decide +kernel
theorem dX6_container_98 : decode cX6_container 98 = .ok (.ireturn, 1) := by decide +kernel
set_option maxRecDepth 20000 in
theorem ggX6_compare_X6_isNoSet : GoodIn wsX6_compare wsX6_isNoSet := goodIn_r _ [5] (by decide +kernel) (by decide +kernel)
set_option maxRecDepth 20000 in
theorem gX6_compare_X6_isNoSet : GoodIn wsX6_compare (va_wsS RX6 45 yX6_isNoSet wsX6_isNoSet) := goodIn_app (goodIn_of _ (by decide +kernel)) ggX6_compare_X6_isNoSet
set_option maxRecDepth 20000 in
theorem ggX6_compare_X2_isInside : GoodIn wsX6_compare wsX2_isInside := goodIn_r _ [10, 11, 12, 13, 14, 15, 16, 9, 17, 18, 19, 20, 21, 22, 23, 24, 25, 26, 27, 28, 29, 30, 31, 32, 33, 48, 49, 50, 51, 52, 53] (by decide +kernel) (by decide +kernel)
set_option maxRecDepth 20000 in
theorem gX6_compare_X2_isInside : GoodIn wsX6_compare (wsV RX6 140 RX2 yX2_isInside wsX2_isInside) := goodIn_app (goodIn_of _ (by decide +kernel)) ggX6_compare_X2_isInside
set_option maxRecDepth 20000 in
theorem ggX6_compare_X2_meets : GoodIn wsX6_compare wsX2_meets := goodIn_r _ [37, 11, 12, 13, 14, 15, 16, 9, 17, 18, 19, 20, 21, 22, 23, 24, 25, 26, 38, 39, 40, 30, 41, 32, 48, 49, 50, 51, 52, 53] (by decide +kernel) (by decide +kernel)
set_option maxRecDepth 20000 in
theorem gX6_compare_X2_meets : GoodIn wsX6_compare (wsV RX6 144 RX2 yX2_meets wsX2_meets) := goodIn_app (goodIn_of _ (by decide +kernel)) ggX6_compare_X2_meets
theorem dX6_compare_0 : decode cX6_compare 0 = .ok (.iload_n 1, 1) := by decide +kernel
theorem dX6_compare_1 : decode cX6_compare 1 = .ok (.invokestatic 45, 3) := by decide +kernel
theorem dX6_compare_4 : decode cX6_compare 4 = .ok (.ifCond .ne 10, 3) := by decide +kernel
theorem dX6_compare_7 : decode cX6_compare 7 = .ok (.iload_n 2, 1) := by decide +kernel
theorem dX6_compare_8 : decode cX6_compare 8 = .ok (.invokestatic 45, 3) := by decide +kernel
theorem dX6_compare_11 : decode cX6_compare 11 = .ok (.ifCond .eq 6, 3) := by decide +kernel
theorem dX6_compare_14 : decode cX6_compare 14 = .ok (.bipush (-2), 2) := by decide +kernel
theorem dX6_compare_16 : decode cX6_compare 16 = .ok (.ireturn, 1) := by decide +kernel
theorem dX6_compare_17 : decode cX6_compare 17 = .ok (.aload_n 0, 1) := by decide +kernel
theorem dX6_compare_18 : decode cX6_compare 18 = .ok (.getfield 11, 3) := by decide +kernel
theorem dX6_compare_21 : decode cX6_compare 21 = .ok (.iload_n 1, 1) := by decide +kernel
theorem dX6_compare_22 : decode cX6_compare 22 = .ok (.aaload, 1) := by decide +kernel
theorem dX6_compare_23 : decode cX6_compare 23 = .ok (.aload_n 0, 1) := by decide +kernel
theorem dX6_compare_24 : decode cX6_compare 24 = .ok (.getfield 11, 3) := by decide +kernel
theorem dX6_compare_27 : decode cX6_compare 27 = .ok (.iload_n 2, 1) := by decide +kernel
theorem dX6_compare_28 : decode cX6_compare 28 = .ok (.aaload, 1) := by decide +kernel
theorem dX6_compare_29 : decode cX6_compare 29 = .ok (.invokevirtual 140, 3) := by decide +kernel
theorem dX6_compare_32 : decode cX6_compare 32 = .ok (.istore_n 3, 1) := by decide +kernel
theorem dX6_compare_33 : decode cX6_compare 33 = .ok (.aload_n 0, 1) := by decide +kernel
theorem dX6_compare_34 : decode cX6_compare 34 = .ok (.getfield 11, 3) := by decide +kernel
theorem dX6_compare_37 : decode cX6_compare 37 = .ok (.iload_n 2, 1) := by decide +kernel
theorem dX6_compare_38 : decode cX6_compare 38 = .ok (.aaload, 1) := by decide +kernel
theorem dX6_compare_39 : decode cX6_compare 39 = .ok (.aload_n 0, 1) := by decide +kernel
theorem dX6_compare_40 : decode cX6_compare 40 = .ok (.getfield 11, 3) := by decide +kernel
theorem dX6_compare_43 : decode cX6_compare 43 = .ok (.iload_n 1, 1) := by decide +kernel
theorem dX6_compare_44 : decode cX6_compare 44 = .ok (.aaload, 1) := by decide +kernel
theorem dX6_compare_45 : decode cX6_compare 45 = .ok (.invokevirtual 140, 3) := by decide +kernel
theorem dX6_compare_48 : decode cX6_compare 48 = .ok (.istore 4, 2) := by decide +kernel
theorem dX6_compare_50 : decode cX6_compare 50 = .ok (.iload_n 3, 1) := by decide +kernel
theorem dX6_compare_51 : decode cX6_compare 51 = .ok (.ifCond .eq 14, 3) := by decide +kernel
theorem dX6_compare_54 : decode cX6_compare 54 = .ok (.iload 4, 2) := by decide +kernel
theorem dX6_compare_56 : decode cX6_compare 56 = .ok (.ifCond .eq 7, 3) := by decide +kernel
theorem dX6_compare_59 : decode cX6_compare 59 = .ok (.iconst 2, 1) := by decide +kernel
theorem dX6_compare_60 : decode cX6_compare 60 = .ok (.goto 4, 3) := by decide +kernel
theorem dX6_compare_63 : decode cX6_compare 63 = .ok (.iconst 3, 1) := by decide +kernel
theorem dX6_compare_64 : decode cX6_compare 64 = .ok (.ireturn, 1) := by decide +kernel
theorem dX6_compare_65 : decode cX6_compare 65 = .ok (.iload 4, 2) := by decide +kernel
theorem dX6_compare_67 : decode cX6_compare 67 = .ok (.ifCond .eq 5, 3) := by decide +kernel
theorem dX6_compare_70 : decode cX6_compare 70 = .ok (.iconst 4, 1) := by decide +kernel
theorem dX6_compare_71 : decode cX6_compare 71 = .ok (.ireturn, 1) := by decide +kernel
theorem dX6_compare_72 : decode cX6_compare 72 = .ok (.aload_n 0, 1) := by decide +kernel
theorem dX6_compare_73 : decode cX6_compare 73 = .ok (.getfield 11, 3) := by decide +kernel
theorem dX6_compare_76 : decode cX6_compare 76 = .ok (.iload_n 1, 1) := by decide +kernel
theorem dX6_compare_77 : decode cX6_compare 77 = .ok (.aaload, 1) := by decide +kernel
theorem dX6_compare_78 : decode cX6_compare 78 = .ok (.aload_n 0, 1) := by decide +kernel
theorem dX6_compare_79 : decode cX6_compare 79 = .ok (.getfield 11, 3) := by decide +kernel
theorem dX6_compare_82 : decode cX6_compare 82 = .ok (.iload_n 2, 1) := by decide +kernel
theorem dX6_compare_83 : decode cX6_compare 83 = .ok (.aaload, 1) := by decide +kernel
theorem dX6_compare_84 : decode cX6_compare 84 = .ok (.invokevirtual 144, 3) := by decide +kernel
theorem dX6_compare_87 : decode cX6_compare 87 = .ok (.ifCond .eq 7, 3) := by decide +kernel
theorem dX6_compare_90 : decode cX6_compare 90 = .ok (.iconst 1, 1) := by decide +kernel
theorem dX6_compare_91 : decode cX6_compare 91 = .ok (.goto 4, 3) := by decide +kernel
theorem dX6_compare_94 : decode cX6_compare 94 = .ok (.iconst 0, 1) := by decide +kernel
theorem dX6_compare_95 : decode cX6_compare 95 = .ok (.ireturn, 1) := by decide +kernel
set_option maxRecDepth 20000 in
theorem ggX6_write_X6_isNoSet : GoodIn wsX6_write wsX6_isNoSet := goodIn_r _ [8] (by decide +kernel) (by decide +kernel)
set_option maxRecDepth 20000 in
theorem gX6_write_X6_isNoSet : GoodIn wsX6_write (va_wsS RX6 45 yX6_isNoSet wsX6_isNoSet) := goodIn_app (goodIn_of _ (by decide +kernel)) ggX6_write_X6_isNoSet
set_option maxRecDepth 20000 in
theorem ggX6_write_X5_bytesOf : GoodIn wsX6_write wsX5_bytesOf := goodIn_r _ [12, 13, 14, 15, 16, 11, 17, 18, 19, 20, 21, 22, 23, 24, 25, 26, 27, 28, 29, 30, 31, 32, 33, 34, 35, 36, 37, 38, 39, 40, 41, 42, 43, 44, 45, 46, 47, 48, 49, 50, 134, 135, 136, 137, 138, 139] (by decide +kernel) (by decide +kernel)
set_option maxRecDepth 20000 in
theorem gX6_write_X5_bytesOf : GoodIn wsX6_write (va_wsS RX6 147 yX5_bytesOf wsX5_bytesOf) := goodIn_app (goodIn_of _ (by decide +kernel)) ggX6_write_X5_bytesOf
set_option maxRecDepth 20000 in
theorem ggX6_write_X5_putSet : GoodIn wsX6_write wsX5_putSet := goodIn_r _ [53, 13, 14, 54, 36, 55, 56, 11, 57, 58, 35, 59, 18, 19, 20, 21, 22, 23, 24, 25, 26, 27, 28, 60, 61, 62, 63, 64, 65, 66, 67, 68, 69, 70, 71, 72, 73, 74, 75, 76, 77, 78, 79, 80, 81, 82, 83, 84, 85, 86, 29, 30, 31, 87, 88, 89, 15, 16, 17, 32, 33, 34, 37, 38, 39, 40, 41, 42, 43, 44, 45, 46, 47, 48, 49, 50, 90, 91, 92, 93, 94, 95, 96, 97, 98, 99, 100, 101, 102, 103, 104, 105, 106, 107, 108, 109, 110, 111, 112, 113, 114, 115, 116, 117, 118, 119, 120, 121, 122, 123, 124, 125, 134, 135, 136, 137, 138, 139, 132, 133] (by decide +kernel) (by decide +kernel)
set_option maxRecDepth 20000 in
theorem gX6_write_X5_putSet : GoodIn wsX6_write (va_wsS RX6 155 yX5_putSet wsX5_putSet) := goodIn_app (goodIn_of _ (by decide +kernel)) ggX6_write_X5_putSet
theorem dX6_write_0 : decode cX6_write 0 = .ok (.iload_n 1, 1) := by decide +kernel
theorem dX6_write_1 : decode cX6_write 1 = .ok (.invokestatic 45, 3) := by decide +kernel
theorem dX6_write_4 : decode cX6_write 4 = .ok (.ifCond .eq 6, 3) := by decide +kernel
theorem dX6_write_7 : decode cX6_write 7 = .ok (.bipush (-2), 2) := by decide +kernel
theorem dX6_write_9 : decode cX6_write 9 = .ok (.ireturn, 1) := by decide +kernel
theorem dX6_write_10 : decode cX6_write 10 = .ok (.aload_n 0, 1) := by decide +kernel
theorem dX6_write_11 : decode cX6_write 11 = .ok (.getfield 11, 3) := by decide +kernel
theorem dX6_write_14 : decode cX6_write 14 = .ok (.iload_n 1, 1) := by decide +kernel
theorem dX6_write_15 : decode cX6_write 15 = .ok (.aaload, 1) := by decide +kernel
theorem dX6_write_16 : decode cX6_write 16 = .ok (.invokestatic 147, 3) := by decide +kernel
theorem dX6_write_19 : decode cX6_write 19 = .ok (.ldc 153, 2) := by decide +kernel
theorem dX6_write_21 : decode cX6_write 21 = .ok (.if_icmp .le 6, 3) := by decide +kernel
theorem dX6_write_24 : decode cX6_write 24 = .ok (.bipush (-4), 2) := by decide +kernel
theorem dX6_write_26 : decode cX6_write 26 = .ok (.ireturn, 1) := by decide +kernel
theorem dX6_write_27 : decode cX6_write 27 = .ok (.aload_n 0, 1) := by decide +kernel
theorem dX6_write_28 : decode cX6_write 28 = .ok (.getfield 30, 3) := by decide +kernel
theorem dX6_write_31 : decode cX6_write 31 = .ok (.iconst 0, 1) := by decide +kernel
theorem dX6_write_32 : decode cX6_write 32 = .ok (.putfield 154, 3) := by decide +kernel
theorem dX6_write_35 : decode cX6_write 35 = .ok (.aload_n 0, 1) := by decide +kernel
theorem dX6_write_36 : decode cX6_write 36 = .ok (.getfield 11, 3) := by decide +kernel
theorem dX6_write_39 : decode cX6_write 39 = .ok (.iload_n 1, 1) := by decide +kernel
theorem dX6_write_40 : decode cX6_write 40 = .ok (.aaload, 1) := by decide +kernel
theorem dX6_write_41 : decode cX6_write 41 = .ok (.aload_n 0, 1) := by decide +kernel
theorem dX6_write_42 : decode cX6_write 42 = .ok (.getfield 30, 3) := by decide +kernel
theorem dX6_write_45 : decode cX6_write 45 = .ok (.invokestatic 155, 3) := by decide +kernel
theorem dX6_write_48 : decode cX6_write 48 = .ok (.aload_n 0, 1) := by decide +kernel
theorem dX6_write_49 : decode cX6_write 49 = .ok (.getfield 30, 3) := by decide +kernel
theorem dX6_write_52 : decode cX6_write 52 = .ok (.getfield 154, 3) := by decide +kernel
theorem dX6_write_55 : decode cX6_write 55 = .ok (.ireturn, 1) := by decide +kernel
set_option maxRecDepth 20000 in
theorem ggX6_read_X6_isNoSet : GoodIn wsX6_read wsX6_isNoSet := goodIn_r _ [9] (by decide +kernel) (by decide +kernel)
set_option maxRecDepth 20000 in
theorem gX6_read_X6_isNoSet : GoodIn wsX6_read (va_wsS RX6 45 yX6_isNoSet wsX6_isNoSet) := goodIn_app (goodIn_of _ (by decide +kernel)) ggX6_read_X6_isNoSet
set_option maxRecDepth 20000 in
theorem ggX6_read_X6_takeWork : GoodIn wsX6_read wsX6_takeWork := goodIn_r _ [13, 14, 145, 146, 147, 148, 149, 150] (by decide +kernel) (by decide +kernel)
set_option maxRecDepth 20000 in
theorem gX6_read_X6_takeWork : GoodIn wsX6_read (wsV RX6 74 RX6 yX6_takeWork wsX6_takeWork) := goodIn_app (goodIn_of _ (by decide +kernel)) ggX6_read_X6_takeWork
set_option maxRecDepth 20000 in
theorem ggX6_read_X4_takeSet : GoodIn wsX6_read wsX4_takeSet := goodIn_r _ [19, 20, 21, 22, 23, 24, 25, 26, 27, 28, 29, 30, 31, 32, 18, 33, 34, 35, 36, 37, 38, 39, 40, 41, 42, 43, 44, 45, 46, 47, 48, 49, 50, 51, 52, 53, 54, 55, 56, 57, 58, 59, 60, 61, 62, 63, 64, 65, 66, 67, 68, 69, 70, 71, 72, 73, 74, 75, 76, 77, 78, 79, 80, 81, 82, 83, 84, 85, 86, 87, 88, 89, 90, 91, 92, 93, 94, 95, 96, 97, 98, 99, 100, 101, 102, 103, 104, 105, 106, 107, 108, 109, 110, 111, 112, 113, 114, 115, 116, 117, 118, 119, 120, 121, 122, 123, 124, 125, 126, 127, 128, 129, 130, 131, 132, 151, 152, 153, 154, 155, 156, 157, 158, 159, 160, 161, 162, 163, 164, 165, 166, 167, 168] (by decide +kernel) (by decide +kernel)
set_option maxRecDepth 20000 in
theorem gX6_read_X4_takeSet : GoodIn wsX6_read (wsV RX6 159 RX4 yX4_takeSet wsX4_takeSet) := goodIn_app (goodIn_of _ (by decide +kernel)) ggX6_read_X4_takeSet
set_option maxRecDepth 20000 in
theorem ggX6_read_X2_exchange : GoodIn wsX6_read wsX2_exchange := goodIn_r _ [137, 138, 139, 163, 164] (by decide +kernel) (by decide +kernel)
set_option maxRecDepth 20000 in
theorem gX6_read_X2_exchange : GoodIn wsX6_read (wsV RX6 81 RX2 yX2_exchange wsX2_exchange) := goodIn_app (goodIn_of _ (by decide +kernel)) ggX6_read_X2_exchange
set_option maxRecDepth 20000 in
theorem ggX6_read_X2_total : GoodIn wsX6_read wsX2_total := goodIn_r _ [143, 139, 138, 144, 163, 164, 165, 166, 167, 168] (by decide +kernel) (by decide +kernel)
set_option maxRecDepth 20000 in
theorem gX6_read_X2_total : GoodIn wsX6_read (wsV RX6 63 RX2 yX2_total wsX2_total) := goodIn_app (goodIn_of _ (by decide +kernel)) ggX6_read_X2_total
theorem dX6_read_0 : decode cX6_read 0 = .ok (.iload_n 1, 1) := by decide +kernel
theorem dX6_read_1 : decode cX6_read 1 = .ok (.invokestatic 45, 3) := by decide +kernel
theorem dX6_read_4 : decode cX6_read 4 = .ok (.ifCond .eq 6, 3) := by decide +kernel
theorem dX6_read_7 : decode cX6_read 7 = .ok (.bipush (-2), 2) := by decide +kernel
theorem dX6_read_9 : decode cX6_read 9 = .ok (.ireturn, 1) := by decide +kernel
theorem dX6_read_10 : decode cX6_read 10 = .ok (.aload_n 0, 1) := by decide +kernel
theorem dX6_read_11 : decode cX6_read 11 = .ok (.iconst 1, 1) := by decide +kernel
theorem dX6_read_12 : decode cX6_read 12 = .ok (.invokevirtual 74, 3) := by decide +kernel
theorem dX6_read_15 : decode cX6_read 15 = .ok (.ifCond .ne 6, 3) := by decide +kernel
theorem dX6_read_18 : decode cX6_read 18 = .ok (.bipush (-5), 2) := by decide +kernel
theorem dX6_read_20 : decode cX6_read 20 = .ok (.ireturn, 1) := by decide +kernel
theorem dX6_read_21 : decode cX6_read 21 = .ok (.aload_n 0, 1) := by decide +kernel
theorem dX6_read_22 : decode cX6_read 22 = .ok (.getfield 37, 3) := by decide +kernel
theorem dX6_read_25 : decode cX6_read 25 = .ok (.aload_n 0, 1) := by decide +kernel
theorem dX6_read_26 : decode cX6_read 26 = .ok (.getfield 30, 3) := by decide +kernel
theorem dX6_read_29 : decode cX6_read 29 = .ok (.aload_n 0, 1) := by decide +kernel
theorem dX6_read_30 : decode cX6_read 30 = .ok (.getfield 16, 3) := by decide +kernel
theorem dX6_read_33 : decode cX6_read 33 = .ok (.invokevirtual 159, 3) := by decide +kernel
theorem dX6_read_36 : decode cX6_read 36 = .ok (.ifCond .ne 14, 3) := by decide +kernel
theorem dX6_read_39 : decode cX6_read 39 = .ok (.bipush (-100), 2) := by decide +kernel
theorem dX6_read_41 : decode cX6_read 41 = .ok (.aload_n 0, 1) := by decide +kernel
theorem dX6_read_42 : decode cX6_read 42 = .ok (.getfield 37, 3) := by decide +kernel
theorem dX6_read_45 : decode cX6_read 45 = .ok (.getfield 163, 3) := by decide +kernel
theorem dX6_read_48 : decode cX6_read 48 = .ok (.isub, 1) := by decide +kernel
theorem dX6_read_49 : decode cX6_read 49 = .ok (.ireturn, 1) := by decide +kernel
theorem dX6_read_50 : decode cX6_read 50 = .ok (.aload_n 0, 1) := by decide +kernel
theorem dX6_read_51 : decode cX6_read 51 = .ok (.getfield 11, 3) := by decide +kernel
theorem dX6_read_54 : decode cX6_read 54 = .ok (.iload_n 1, 1) := by decide +kernel
theorem dX6_read_55 : decode cX6_read 55 = .ok (.aaload, 1) := by decide +kernel
theorem dX6_read_56 : decode cX6_read 56 = .ok (.aload_n 0, 1) := by decide +kernel
theorem dX6_read_57 : decode cX6_read 57 = .ok (.getfield 16, 3) := by decide +kernel
theorem dX6_read_60 : decode cX6_read 60 = .ok (.invokevirtual 81, 3) := by decide +kernel
theorem dX6_read_63 : decode cX6_read 63 = .ok (.aload_n 0, 1) := by decide +kernel
theorem dX6_read_64 : decode cX6_read 64 = .ok (.getfield 11, 3) := by decide +kernel
theorem dX6_read_67 : decode cX6_read 67 = .ok (.iload_n 1, 1) := by decide +kernel
theorem dX6_read_68 : decode cX6_read 68 = .ok (.aaload, 1) := by decide +kernel
theorem dX6_read_69 : decode cX6_read 69 = .ok (.invokevirtual 63, 3) := by decide +kernel
theorem dX6_read_72 : decode cX6_read 72 = .ok (.ireturn, 1) := by decide +kernel
theorem dX6_fault_0 : decode cX6_fault 0 = .ok (.aload_n 0, 1) := by decide +kernel
theorem dX6_fault_1 : decode cX6_fault 1 = .ok (.getfield 37, 3) := by decide +kernel
theorem dX6_fault_4 : decode cX6_fault 4 = .ok (.getfield 166, 3) := by decide +kernel
theorem dX6_fault_7 : decode cX6_fault 7 = .ok (.ireturn, 1) := by decide +kernel
theorem dX6_cut_0 : decode cX6_cut 0 = .ok (.iload_n 1, 1) := by decide +kernel
theorem dX6_cut_1 : decode cX6_cut 1 = .ok (.ifCond .lt 14, 3) := by decide +kernel
theorem dX6_cut_4 : decode cX6_cut 4 = .ok (.iload_n 1, 1) := by decide +kernel
theorem dX6_cut_5 : decode cX6_cut 5 = .ok (.aload_n 0, 1) := by decide +kernel
theorem dX6_cut_6 : decode cX6_cut 6 = .ok (.getfield 30, 3) := by decide +kernel
theorem dX6_cut_9 : decode cX6_cut 9 = .ok (.getfield 154, 3) := by decide +kernel
theorem dX6_cut_12 : decode cX6_cut 12 = .ok (.if_icmp .le 6, 3) := by decide +kernel
theorem dX6_cut_15 : decode cX6_cut 15 = .ok (.bipush (-2), 2) := by decide +kernel
theorem dX6_cut_17 : decode cX6_cut 17 = .ok (.ireturn, 1) := by decide +kernel
theorem dX6_cut_18 : decode cX6_cut 18 = .ok (.aload_n 0, 1) := by decide +kernel
theorem dX6_cut_19 : decode cX6_cut 19 = .ok (.getfield 30, 3) := by decide +kernel
theorem dX6_cut_22 : decode cX6_cut 22 = .ok (.getfield 154, 3) := by decide +kernel
theorem dX6_cut_25 : decode cX6_cut 25 = .ok (.iload_n 1, 1) := by decide +kernel
theorem dX6_cut_26 : decode cX6_cut 26 = .ok (.isub, 1) := by decide +kernel
theorem dX6_cut_27 : decode cX6_cut 27 = .ok (.istore_n 2, 1) := by decide +kernel
theorem dX6_cut_28 : decode cX6_cut 28 = .ok (.aload_n 0, 1) := by decide +kernel
theorem dX6_cut_29 : decode cX6_cut 29 = .ok (.getfield 30, 3) := by decide +kernel
theorem dX6_cut_32 : decode cX6_cut 32 = .ok (.iload_n 1, 1) := by decide +kernel
theorem dX6_cut_33 : decode cX6_cut 33 = .ok (.putfield 154, 3) := by decide +kernel
theorem dX6_cut_36 : decode cX6_cut 36 = .ok (.iload_n 2, 1) := by decide +kernel
theorem dX6_cut_37 : decode cX6_cut 37 = .ok (.ireturn, 1) := by decide +kernel
set_option maxRecDepth 20000 in
theorem ggX6_type_X0_put : GoodIn wsX6_type wsX0_put := goodIn_r _ [8, 9, 10, 11, 12, 13, 14, 15, 16, 17, 18, 19, 20, 21, 22, 23, 24, 25, 26, 27, 28, 29, 30, 37, 38] (by decide +kernel) (by decide +kernel)
set_option maxRecDepth 20000 in
theorem gX6_type_X0_put : GoodIn wsX6_type (wsV RX6 169 RX0 yX0_put wsX0_put) := goodIn_app (goodIn_of _ (by decide +kernel)) ggX6_type_X0_put
theorem dX6_type_0 : decode cX6_type 0 = .ok (.iload_n 3, 1) := by decide +kernel
theorem dX6_type_1 : decode cX6_type 1 = .ok (.ifCond .lt 9, 3) := by decide +kernel
theorem dX6_type_4 : decode cX6_type 4 = .ok (.iload_n 3, 1) := by decide +kernel
theorem dX6_type_5 : decode cX6_type 5 = .ok (.bipush 8, 2) := by decide +kernel
theorem dX6_type_7 : decode cX6_type 7 = .ok (.if_icmp .le 6, 3) := by decide +kernel
theorem dX6_type_10 : decode cX6_type 10 = .ok (.bipush (-2), 2) := by decide +kernel
theorem dX6_type_12 : decode cX6_type 12 = .ok (.ireturn, 1) := by decide +kernel
theorem dX6_type_13 : decode cX6_type 13 = .ok (.aload_n 0, 1) := by decide +kernel
theorem dX6_type_14 : decode cX6_type 14 = .ok (.getfield 30, 3) := by decide +kernel
theorem dX6_type_17 : decode cX6_type 17 = .ok (.getfield 154, 3) := by decide +kernel
theorem dX6_type_20 : decode cX6_type 20 = .ok (.iload_n 3, 1) := by decide +kernel
theorem dX6_type_21 : decode cX6_type 21 = .ok (.iadd, 1) := by decide +kernel
theorem dX6_type_22 : decode cX6_type 22 = .ok (.ldc 153, 2) := by decide +kernel
theorem dX6_type_24 : decode cX6_type 24 = .ok (.if_icmp .le 6, 3) := by decide +kernel
theorem dX6_type_27 : decode cX6_type 27 = .ok (.bipush (-4), 2) := by decide +kernel
theorem dX6_type_29 : decode cX6_type 29 = .ok (.ireturn, 1) := by decide +kernel
theorem dX6_type_30 : decode cX6_type 30 = .ok (.aload_n 0, 1) := by decide +kernel
theorem dX6_type_31 : decode cX6_type 31 = .ok (.getfield 30, 3) := by decide +kernel
theorem dX6_type_34 : decode cX6_type 34 = .ok (.lload_n 1, 1) := by decide +kernel
theorem dX6_type_35 : decode cX6_type 35 = .ok (.iload_n 3, 1) := by decide +kernel
theorem dX6_type_36 : decode cX6_type 36 = .ok (.invokevirtual 169, 3) := by decide +kernel
theorem dX6_type_39 : decode cX6_type 39 = .ok (.aload_n 0, 1) := by decide +kernel
theorem dX6_type_40 : decode cX6_type 40 = .ok (.getfield 30, 3) := by decide +kernel
theorem dX6_type_43 : decode cX6_type 43 = .ok (.getfield 154, 3) := by decide +kernel
theorem dX6_type_46 : decode cX6_type 46 = .ok (.ireturn, 1) := by decide +kernel
set_option maxRecDepth 20000 in
theorem ggX6_at_X0_lacks : GoodIn wsX6_at wsX0_lacks := goodIn_r _ [6, 7, 19, 20] (by decide +kernel) (by decide +kernel)
set_option maxRecDepth 20000 in
theorem gX6_at_X0_lacks : GoodIn wsX6_at (wsV RX6 173 RX0 yX0_lacks wsX0_lacks) := goodIn_app (goodIn_of _ (by decide +kernel)) ggX6_at_X0_lacks
set_option maxRecDepth 20000 in
theorem ggX6_at_X0_byteAt : GoodIn wsX6_at wsX0_byteAt := goodIn_r _ [11, 12, 19, 20] (by decide +kernel) (by decide +kernel)
set_option maxRecDepth 20000 in
theorem gX6_at_X0_byteAt : GoodIn wsX6_at (wsV RX6 176 RX0 yX0_byteAt wsX0_byteAt) := goodIn_app (goodIn_of _ (by decide +kernel)) ggX6_at_X0_byteAt
theorem dX6_at_0 : decode cX6_at 0 = .ok (.aload_n 0, 1) := by decide +kernel
theorem dX6_at_1 : decode cX6_at 1 = .ok (.getfield 30, 3) := by decide +kernel
theorem dX6_at_4 : decode cX6_at 4 = .ok (.iload_n 1, 1) := by decide +kernel
theorem dX6_at_5 : decode cX6_at 5 = .ok (.invokevirtual 173, 3) := by decide +kernel
theorem dX6_at_8 : decode cX6_at 8 = .ok (.ifCond .eq 8, 3) := by decide +kernel
theorem dX6_at_11 : decode cX6_at 11 = .ok (.bipush (-2), 2) := by decide +kernel
theorem dX6_at_13 : decode cX6_at 13 = .ok (.goto 11, 3) := by decide +kernel
theorem dX6_at_16 : decode cX6_at 16 = .ok (.aload_n 0, 1) := by decide +kernel
theorem dX6_at_17 : decode cX6_at 17 = .ok (.getfield 30, 3) := by decide +kernel
theorem dX6_at_20 : decode cX6_at 20 = .ok (.iload_n 1, 1) := by decide +kernel
theorem dX6_at_21 : decode cX6_at 21 = .ok (.invokevirtual 176, 3) := by decide +kernel
theorem dX6_at_24 : decode cX6_at 24 = .ok (.ireturn, 1) := by decide +kernel
set_option maxRecDepth 20000 in
theorem ggX6_alter_X0_lacks : GoodIn wsX6_alter wsX0_lacks := goodIn_r _ [7, 8, 20, 21] (by decide +kernel) (by decide +kernel)
set_option maxRecDepth 20000 in
theorem gX6_alter_X0_lacks : GoodIn wsX6_alter (wsV RX6 173 RX0 yX0_lacks wsX0_lacks) := goodIn_app (goodIn_of _ (by decide +kernel)) ggX6_alter_X0_lacks
set_option maxRecDepth 20000 in
theorem ggX6_alter_X0_byteAt : GoodIn wsX6_alter wsX0_byteAt := goodIn_r _ [12, 13, 20, 21] (by decide +kernel) (by decide +kernel)
set_option maxRecDepth 20000 in
theorem gX6_alter_X0_byteAt : GoodIn wsX6_alter (wsV RX6 176 RX0 yX0_byteAt wsX0_byteAt) := goodIn_app (goodIn_of _ (by decide +kernel)) ggX6_alter_X0_byteAt
theorem dX6_alter_0 : decode cX6_alter 0 = .ok (.aload_n 0, 1) := by decide +kernel
theorem dX6_alter_1 : decode cX6_alter 1 = .ok (.getfield 30, 3) := by decide +kernel
theorem dX6_alter_4 : decode cX6_alter 4 = .ok (.iload_n 1, 1) := by decide +kernel
theorem dX6_alter_5 : decode cX6_alter 5 = .ok (.invokevirtual 173, 3) := by decide +kernel
theorem dX6_alter_8 : decode cX6_alter 8 = .ok (.ifCond .ne 14, 3) := by decide +kernel
theorem dX6_alter_11 : decode cX6_alter 11 = .ok (.iload_n 2, 1) := by decide +kernel
theorem dX6_alter_12 : decode cX6_alter 12 = .ok (.ifCond .lt 10, 3) := by decide +kernel
theorem dX6_alter_15 : decode cX6_alter 15 = .ok (.iload_n 2, 1) := by decide +kernel
theorem dX6_alter_16 : decode cX6_alter 16 = .ok (.sipush 255, 3) := by decide +kernel
theorem dX6_alter_19 : decode cX6_alter 19 = .ok (.if_icmp .le 6, 3) := by decide +kernel
theorem dX6_alter_22 : decode cX6_alter 22 = .ok (.bipush (-2), 2) := by decide +kernel
theorem dX6_alter_24 : decode cX6_alter 24 = .ok (.ireturn, 1) := by decide +kernel
theorem dX6_alter_25 : decode cX6_alter 25 = .ok (.aload_n 0, 1) := by decide +kernel
theorem dX6_alter_26 : decode cX6_alter 26 = .ok (.getfield 30, 3) := by decide +kernel
theorem dX6_alter_29 : decode cX6_alter 29 = .ok (.iload_n 1, 1) := by decide +kernel
theorem dX6_alter_30 : decode cX6_alter 30 = .ok (.invokevirtual 176, 3) := by decide +kernel
theorem dX6_alter_33 : decode cX6_alter 33 = .ok (.istore_n 3, 1) := by decide +kernel
theorem dX6_alter_34 : decode cX6_alter 34 = .ok (.aload_n 0, 1) := by decide +kernel
theorem dX6_alter_35 : decode cX6_alter 35 = .ok (.getfield 30, 3) := by decide +kernel
theorem dX6_alter_38 : decode cX6_alter 38 = .ok (.getfield 179, 3) := by decide +kernel
theorem dX6_alter_41 : decode cX6_alter 41 = .ok (.iload_n 1, 1) := by decide +kernel
theorem dX6_alter_42 : decode cX6_alter 42 = .ok (.iload_n 2, 1) := by decide +kernel
theorem dX6_alter_43 : decode cX6_alter 43 = .ok (.i2b, 1) := by decide +kernel
theorem dX6_alter_44 : decode cX6_alter 44 = .ok (.bastore, 1) := by decide +kernel
theorem dX6_alter_45 : decode cX6_alter 45 = .ok (.iload_n 3, 1) := by decide +kernel
theorem dX6_alter_46 : decode cX6_alter 46 = .ok (.ireturn, 1) := by decide +kernel
theorem dX6_work_0 : decode cX6_work 0 = .ok (.aload_n 0, 1) := by decide +kernel
theorem dX6_work_1 : decode cX6_work 1 = .ok (.getfield 41, 3) := by decide +kernel
theorem dX6_work_4 : decode cX6_work 4 = .ok (.ireturn, 1) := by decide +kernel
theorem dX6_size_0 : decode cX6_size 0 = .ok (.aload_n 0, 1) := by decide +kernel
theorem dX6_size_1 : decode cX6_size 1 = .ok (.getfield 30, 3) := by decide +kernel
theorem dX6_size_4 : decode cX6_size 4 = .ok (.getfield 154, 3) := by decide +kernel
theorem dX6_size_7 : decode cX6_size 7 = .ok (.ireturn, 1) := by decide +kernel
set_option maxRecDepth 20000 in
theorem ggX6_digest_X2_digestSetFrom : GoodIn wsX6_digest wsX2_digestSetFrom := goodIn_r _ [7, 8, 9, 10, 11, 12, 13, 6, 14, 15, 16, 17, 18, 19, 20, 21, 22, 23, 24, 25, 26, 27, 28, 29, 30, 31, 32, 33, 34, 35, 36, 37, 44, 45, 46, 47, 48, 49] (by decide +kernel) (by decide +kernel)
set_option maxRecDepth 20000 in
theorem gX6_digest_X2_digestSetFrom : GoodIn wsX6_digest (wsV RX6 185 RX2 yX2_digestSetFrom wsX2_digestSetFrom) := goodIn_app (goodIn_of _ (by decide +kernel)) ggX6_digest_X2_digestSetFrom
theorem dX6_digest_0 : decode cX6_digest 0 = .ok (.ldc2_w 183, 3) := by decide +kernel
theorem dX6_digest_3 : decode cX6_digest 3 = .ok (.lstore_n 1, 1) := by decide +kernel
theorem dX6_digest_4 : decode cX6_digest 4 = .ok (.iconst 0, 1) := by decide +kernel
theorem dX6_digest_5 : decode cX6_digest 5 = .ok (.istore_n 3, 1) := by decide +kernel
theorem dX6_digest_6 : decode cX6_digest 6 = .ok (.iload_n 3, 1) := by decide +kernel
theorem dX6_digest_7 : decode cX6_digest 7 = .ok (.bipush 8, 2) := by decide +kernel
theorem dX6_digest_9 : decode cX6_digest 9 = .ok (.if_icmp .ge 20, 3) := by decide +kernel
theorem dX6_digest_12 : decode cX6_digest 12 = .ok (.aload_n 0, 1) := by decide +kernel
theorem dX6_digest_13 : decode cX6_digest 13 = .ok (.getfield 11, 3) := by decide +kernel
theorem dX6_digest_16 : decode cX6_digest 16 = .ok (.iload_n 3, 1) := by decide +kernel
theorem dX6_digest_17 : decode cX6_digest 17 = .ok (.aaload, 1) := by decide +kernel
theorem dX6_digest_18 : decode cX6_digest 18 = .ok (.lload_n 1, 1) := by decide +kernel
theorem dX6_digest_19 : decode cX6_digest 19 = .ok (.invokevirtual 185, 3) := by decide +kernel
theorem dX6_digest_22 : decode cX6_digest 22 = .ok (.lstore_n 1, 1) := by decide +kernel
theorem dX6_digest_23 : decode cX6_digest 23 = .ok (.iinc 3 1, 3) := by decide +kernel
theorem dX6_digest_26 : decode cX6_digest 26 = .ok (.goto (-20), 3) := by decide +kernel
theorem dX6_digest_29 : decode cX6_digest 29 = .ok (.lload_n 1, 1) := by decide +kernel
theorem dX6_digest_30 : decode cX6_digest 30 = .ok (.lreturn, 1) := by decide +kernel
theorem dX6_isNoSet_0 : decode cX6_isNoSet 0 = .ok (.iload_n 0, 1) := by decide +kernel
theorem dX6_isNoSet_1 : decode cX6_isNoSet 1 = .ok (.ifCond .lt 9, 3) := by decide +kernel
theorem dX6_isNoSet_4 : decode cX6_isNoSet 4 = .ok (.iload_n 0, 1) := by decide +kernel
theorem dX6_isNoSet_5 : decode cX6_isNoSet 5 = .ok (.bipush 8, 2) := by decide +kernel
theorem dX6_isNoSet_7 : decode cX6_isNoSet 7 = .ok (.if_icmp .lt 7, 3) := by decide +kernel
theorem dX6_isNoSet_10 : decode cX6_isNoSet 10 = .ok (.iconst 1, 1) := by decide +kernel
theorem dX6_isNoSet_11 : decode cX6_isNoSet 11 = .ok (.goto 4, 3) := by decide +kernel
theorem dX6_isNoSet_14 : decode cX6_isNoSet 14 = .ok (.iconst 0, 1) := by decide +kernel
theorem dX6_isNoSet_15 : decode cX6_isNoSet 15 = .ok (.ireturn, 1) := by decide +kernel
theorem dX6_isNoHalf_0 : decode cX6_isNoHalf 0 = .ok (.iload_n 0, 1) := by decide +kernel
theorem dX6_isNoHalf_1 : decode cX6_isNoHalf 1 = .ok (.ifCond .lt 9, 3) := by decide +kernel
theorem dX6_isNoHalf_4 : decode cX6_isNoHalf 4 = .ok (.iload_n 0, 1) := by decide +kernel
theorem dX6_isNoHalf_5 : decode cX6_isNoHalf 5 = .ok (.ldc 189, 2) := by decide +kernel
theorem dX6_isNoHalf_7 : decode cX6_isNoHalf 7 = .ok (.if_icmp .le 7, 3) := by decide +kernel
theorem dX6_isNoHalf_10 : decode cX6_isNoHalf 10 = .ok (.iconst 1, 1) := by decide +kernel
theorem dX6_isNoHalf_11 : decode cX6_isNoHalf 11 = .ok (.goto 4, 3) := by decide +kernel
theorem dX6_isNoHalf_14 : decode cX6_isNoHalf 14 = .ok (.iconst 0, 1) := by decide +kernel
theorem dX6_isNoHalf_15 : decode cX6_isNoHalf 15 = .ok (.ireturn, 1) := by decide +kernel
theorem dX6_keyOf_0 : decode cX6_keyOf 0 = .ok (.iload_n 0, 1) := by decide +kernel
theorem dX6_keyOf_1 : decode cX6_keyOf 1 = .ok (.bipush 16, 2) := by decide +kernel
theorem dX6_keyOf_3 : decode cX6_keyOf 3 = .ok (.iushr, 1) := by decide +kernel
theorem dX6_keyOf_4 : decode cX6_keyOf 4 = .ok (.ireturn, 1) := by decide +kernel
theorem dX6_lowOf_0 : decode cX6_lowOf 0 = .ok (.iload_n 0, 1) := by decide +kernel
theorem dX6_lowOf_1 : decode cX6_lowOf 1 = .ok (.ldc 189, 2) := by decide +kernel
theorem dX6_lowOf_3 : decode cX6_lowOf 3 = .ok (.iand, 1) := by decide +kernel
theorem dX6_lowOf_4 : decode cX6_lowOf 4 = .ok (.ireturn, 1) := by decide +kernel
theorem dX6_takeWork_0 : decode cX6_takeWork 0 = .ok (.iload_n 1, 1) := by decide +kernel
theorem dX6_takeWork_1 : decode cX6_takeWork 1 = .ok (.aload_n 0, 1) := by decide +kernel
theorem dX6_takeWork_2 : decode cX6_takeWork 2 = .ok (.getfield 41, 3) := by decide +kernel
theorem dX6_takeWork_5 : decode cX6_takeWork 5 = .ok (.if_icmp .le 5, 3) := by decide +kernel
theorem dX6_takeWork_8 : decode cX6_takeWork 8 = .ok (.iconst 0, 1) := by decide +kernel
theorem dX6_takeWork_9 : decode cX6_takeWork 9 = .ok (.ireturn, 1) := by decide +kernel
theorem dX6_takeWork_10 : decode cX6_takeWork 10 = .ok (.aload_n 0, 1) := by decide +kernel
theorem dX6_takeWork_11 : decode cX6_takeWork 11 = .ok (.dup, 1) := by decide +kernel
theorem dX6_takeWork_12 : decode cX6_takeWork 12 = .ok (.getfield 41, 3) := by decide +kernel
theorem dX6_takeWork_15 : decode cX6_takeWork 15 = .ok (.iload_n 1, 1) := by decide +kernel
theorem dX6_takeWork_16 : decode cX6_takeWork 16 = .ok (.isub, 1) := by decide +kernel
theorem dX6_takeWork_17 : decode cX6_takeWork 17 = .ok (.putfield 41, 3) := by decide +kernel
theorem dX6_takeWork_20 : decode cX6_takeWork 20 = .ok (.iconst 1, 1) := by decide +kernel
theorem dX6_takeWork_21 : decode cX6_takeWork 21 = .ok (.ireturn, 1) := by decide +kernel
end
section
theorem dJ6_numberOfTrailingZeros_0f7a4_0 : decode cJ6_numberOfTrailingZeros_0f7a4 0 = .ok (.iload_n 0, 1) := by decide +kernel
theorem dJ6_numberOfTrailingZeros_0f7a4_1 : decode cJ6_numberOfTrailingZeros_0f7a4 1 = .ok (.iconst (-1), 1) := by decide +kernel
theorem dJ6_numberOfTrailingZeros_0f7a4_2 : decode cJ6_numberOfTrailingZeros_0f7a4 2 = .ok (.ixor, 1) := by decide +kernel
theorem dJ6_numberOfTrailingZeros_0f7a4_3 : decode cJ6_numberOfTrailingZeros_0f7a4 3 = .ok (.iload_n 0, 1) := by decide +kernel
theorem dJ6_numberOfTrailingZeros_0f7a4_4 : decode cJ6_numberOfTrailingZeros_0f7a4 4 = .ok (.iconst 1, 1) := by decide +kernel
theorem dJ6_numberOfTrailingZeros_0f7a4_5 : decode cJ6_numberOfTrailingZeros_0f7a4 5 = .ok (.isub, 1) := by decide +kernel
theorem dJ6_numberOfTrailingZeros_0f7a4_6 : decode cJ6_numberOfTrailingZeros_0f7a4 6 = .ok (.iand, 1) := by decide +kernel
theorem dJ6_numberOfTrailingZeros_0f7a4_7 : decode cJ6_numberOfTrailingZeros_0f7a4 7 = .ok (.istore_n 0, 1) := by decide +kernel
theorem dJ6_numberOfTrailingZeros_0f7a4_8 : decode cJ6_numberOfTrailingZeros_0f7a4 8 = .ok (.iload_n 0, 1) := by decide +kernel
theorem dJ6_numberOfTrailingZeros_0f7a4_9 : decode cJ6_numberOfTrailingZeros_0f7a4 9 = .ok (.ifCond .gt 8, 3) := by decide +kernel
theorem dJ6_numberOfTrailingZeros_0f7a4_12 : decode cJ6_numberOfTrailingZeros_0f7a4 12 = .ok (.iload_n 0, 1) := by decide +kernel
theorem dJ6_numberOfTrailingZeros_0f7a4_13 : decode cJ6_numberOfTrailingZeros_0f7a4 13 = .ok (.bipush 32, 2) := by decide +kernel
theorem dJ6_numberOfTrailingZeros_0f7a4_15 : decode cJ6_numberOfTrailingZeros_0f7a4 15 = .ok (.iand, 1) := by decide +kernel
theorem dJ6_numberOfTrailingZeros_0f7a4_16 : decode cJ6_numberOfTrailingZeros_0f7a4 16 = .ok (.ireturn, 1) := by decide +kernel
theorem dJ6_numberOfTrailingZeros_0f7a4_17 : decode cJ6_numberOfTrailingZeros_0f7a4 17 = .ok (.iconst 1, 1) := by decide +kernel
theorem dJ6_numberOfTrailingZeros_0f7a4_18 : decode cJ6_numberOfTrailingZeros_0f7a4 18 = .ok (.istore_n 1, 1) := by decide +kernel
theorem dJ6_numberOfTrailingZeros_0f7a4_19 : decode cJ6_numberOfTrailingZeros_0f7a4 19 = .ok (.iload_n 0, 1) := by decide +kernel
theorem dJ6_numberOfTrailingZeros_0f7a4_20 : decode cJ6_numberOfTrailingZeros_0f7a4 20 = .ok (.ldc_w 264, 3) := by decide +kernel
theorem dJ6_numberOfTrailingZeros_0f7a4_23 : decode cJ6_numberOfTrailingZeros_0f7a4 23 = .ok (.if_icmp .le 11, 3) := by decide +kernel
theorem dJ6_numberOfTrailingZeros_0f7a4_26 : decode cJ6_numberOfTrailingZeros_0f7a4 26 = .ok (.iinc 1 16, 3) := by decide +kernel
theorem dJ6_numberOfTrailingZeros_0f7a4_29 : decode cJ6_numberOfTrailingZeros_0f7a4 29 = .ok (.iload_n 0, 1) := by decide +kernel
theorem dJ6_numberOfTrailingZeros_0f7a4_30 : decode cJ6_numberOfTrailingZeros_0f7a4 30 = .ok (.bipush 16, 2) := by decide +kernel
theorem dJ6_numberOfTrailingZeros_0f7a4_32 : decode cJ6_numberOfTrailingZeros_0f7a4 32 = .ok (.iushr, 1) := by decide +kernel
theorem dJ6_numberOfTrailingZeros_0f7a4_33 : decode cJ6_numberOfTrailingZeros_0f7a4 33 = .ok (.istore_n 0, 1) := by decide +kernel
theorem dJ6_numberOfTrailingZeros_0f7a4_34 : decode cJ6_numberOfTrailingZeros_0f7a4 34 = .ok (.iload_n 0, 1) := by decide +kernel
theorem dJ6_numberOfTrailingZeros_0f7a4_35 : decode cJ6_numberOfTrailingZeros_0f7a4 35 = .ok (.sipush 256, 3) := by decide +kernel
theorem dJ6_numberOfTrailingZeros_0f7a4_38 : decode cJ6_numberOfTrailingZeros_0f7a4 38 = .ok (.if_icmp .le 11, 3) := by decide +kernel
theorem dJ6_numberOfTrailingZeros_0f7a4_41 : decode cJ6_numberOfTrailingZeros_0f7a4 41 = .ok (.iinc 1 8, 3) := by decide +kernel
theorem dJ6_numberOfTrailingZeros_0f7a4_44 : decode cJ6_numberOfTrailingZeros_0f7a4 44 = .ok (.iload_n 0, 1) := by decide +kernel
theorem dJ6_numberOfTrailingZeros_0f7a4_45 : decode cJ6_numberOfTrailingZeros_0f7a4 45 = .ok (.bipush 8, 2) := by decide +kernel
theorem dJ6_numberOfTrailingZeros_0f7a4_47 : decode cJ6_numberOfTrailingZeros_0f7a4 47 = .ok (.iushr, 1) := by decide +kernel
theorem dJ6_numberOfTrailingZeros_0f7a4_48 : decode cJ6_numberOfTrailingZeros_0f7a4 48 = .ok (.istore_n 0, 1) := by decide +kernel
theorem dJ6_numberOfTrailingZeros_0f7a4_49 : decode cJ6_numberOfTrailingZeros_0f7a4 49 = .ok (.iload_n 0, 1) := by decide +kernel
theorem dJ6_numberOfTrailingZeros_0f7a4_50 : decode cJ6_numberOfTrailingZeros_0f7a4 50 = .ok (.bipush 16, 2) := by decide +kernel
theorem dJ6_numberOfTrailingZeros_0f7a4_52 : decode cJ6_numberOfTrailingZeros_0f7a4 52 = .ok (.if_icmp .le 10, 3) := by decide +kernel
theorem dJ6_numberOfTrailingZeros_0f7a4_55 : decode cJ6_numberOfTrailingZeros_0f7a4 55 = .ok (.iinc 1 4, 3) := by decide +kernel
theorem dJ6_numberOfTrailingZeros_0f7a4_58 : decode cJ6_numberOfTrailingZeros_0f7a4 58 = .ok (.iload_n 0, 1) := by decide +kernel
theorem dJ6_numberOfTrailingZeros_0f7a4_59 : decode cJ6_numberOfTrailingZeros_0f7a4 59 = .ok (.iconst 4, 1) := by decide +kernel
theorem dJ6_numberOfTrailingZeros_0f7a4_60 : decode cJ6_numberOfTrailingZeros_0f7a4 60 = .ok (.iushr, 1) := by decide +kernel
theorem dJ6_numberOfTrailingZeros_0f7a4_61 : decode cJ6_numberOfTrailingZeros_0f7a4 61 = .ok (.istore_n 0, 1) := by decide +kernel
theorem dJ6_numberOfTrailingZeros_0f7a4_62 : decode cJ6_numberOfTrailingZeros_0f7a4 62 = .ok (.iload_n 0, 1) := by decide +kernel
theorem dJ6_numberOfTrailingZeros_0f7a4_63 : decode cJ6_numberOfTrailingZeros_0f7a4 63 = .ok (.iconst 4, 1) := by decide +kernel
theorem dJ6_numberOfTrailingZeros_0f7a4_64 : decode cJ6_numberOfTrailingZeros_0f7a4 64 = .ok (.if_icmp .le 10, 3) := by decide +kernel
theorem dJ6_numberOfTrailingZeros_0f7a4_67 : decode cJ6_numberOfTrailingZeros_0f7a4 67 = .ok (.iinc 1 2, 3) := by decide +kernel
theorem dJ6_numberOfTrailingZeros_0f7a4_70 : decode cJ6_numberOfTrailingZeros_0f7a4 70 = .ok (.iload_n 0, 1) := by decide +kernel
theorem dJ6_numberOfTrailingZeros_0f7a4_71 : decode cJ6_numberOfTrailingZeros_0f7a4 71 = .ok (.iconst 2, 1) := by decide +kernel
theorem dJ6_numberOfTrailingZeros_0f7a4_72 : decode cJ6_numberOfTrailingZeros_0f7a4 72 = .ok (.iushr, 1) := by decide +kernel
theorem dJ6_numberOfTrailingZeros_0f7a4_73 : decode cJ6_numberOfTrailingZeros_0f7a4 73 = .ok (.istore_n 0, 1) := by decide +kernel
theorem dJ6_numberOfTrailingZeros_0f7a4_74 : decode cJ6_numberOfTrailingZeros_0f7a4 74 = .ok (.iload_n 1, 1) := by decide +kernel
theorem dJ6_numberOfTrailingZeros_0f7a4_75 : decode cJ6_numberOfTrailingZeros_0f7a4 75 = .ok (.iload_n 0, 1) := by decide +kernel
theorem dJ6_numberOfTrailingZeros_0f7a4_76 : decode cJ6_numberOfTrailingZeros_0f7a4 76 = .ok (.iconst 1, 1) := by decide +kernel
theorem dJ6_numberOfTrailingZeros_0f7a4_77 : decode cJ6_numberOfTrailingZeros_0f7a4 77 = .ok (.iushr, 1) := by decide +kernel
theorem dJ6_numberOfTrailingZeros_0f7a4_78 : decode cJ6_numberOfTrailingZeros_0f7a4 78 = .ok (.iadd, 1) := by decide +kernel
theorem dJ6_numberOfTrailingZeros_0f7a4_79 : decode cJ6_numberOfTrailingZeros_0f7a4 79 = .ok (.ireturn, 1) := by decide +kernel
set_option maxRecDepth 20000 in
theorem ggJ13_numberOfTrailingZeros_95d88_J6_numberOfTrailingZeros_0f7a4 : GoodIn wsJ13_numberOfTrailingZeros_95d88 wsJ6_numberOfTrailingZeros_0f7a4 := goodIn_r _ [4, 5] (by decide +kernel) (by decide +kernel)
set_option maxRecDepth 20000 in
theorem gJ13_numberOfTrailingZeros_95d88_J6_numberOfTrailingZeros_0f7a4 : GoodIn wsJ13_numberOfTrailingZeros_95d88 (va_wsS RJ13 311 yJ6_numberOfTrailingZeros_0f7a4 wsJ6_numberOfTrailingZeros_0f7a4) := goodIn_app (goodIn_of _ (by decide +kernel)) ggJ13_numberOfTrailingZeros_95d88_J6_numberOfTrailingZeros_0f7a4
theorem dJ13_numberOfTrailingZeros_95d88_0 : decode cJ13_numberOfTrailingZeros_95d88 0 = .ok (.lload_n 0, 1) := by decide +kernel
theorem dJ13_numberOfTrailingZeros_95d88_1 : decode cJ13_numberOfTrailingZeros_95d88 1 = .ok (.l2i, 1) := by decide +kernel
theorem dJ13_numberOfTrailingZeros_95d88_2 : decode cJ13_numberOfTrailingZeros_95d88 2 = .ok (.istore_n 2, 1) := by decide +kernel
theorem dJ13_numberOfTrailingZeros_95d88_3 : decode cJ13_numberOfTrailingZeros_95d88 3 = .ok (.iload_n 2, 1) := by decide +kernel
theorem dJ13_numberOfTrailingZeros_95d88_4 : decode cJ13_numberOfTrailingZeros_95d88 4 = .ok (.ifCond .ne 17, 3) := by decide +kernel
theorem dJ13_numberOfTrailingZeros_95d88_7 : decode cJ13_numberOfTrailingZeros_95d88 7 = .ok (.bipush 32, 2) := by decide +kernel
theorem dJ13_numberOfTrailingZeros_95d88_9 : decode cJ13_numberOfTrailingZeros_95d88 9 = .ok (.lload_n 0, 1) := by decide +kernel
theorem dJ13_numberOfTrailingZeros_95d88_10 : decode cJ13_numberOfTrailingZeros_95d88 10 = .ok (.bipush 32, 2) := by decide +kernel
theorem dJ13_numberOfTrailingZeros_95d88_12 : decode cJ13_numberOfTrailingZeros_95d88 12 = .ok (.lushr, 1) := by decide +kernel
theorem dJ13_numberOfTrailingZeros_95d88_13 : decode cJ13_numberOfTrailingZeros_95d88 13 = .ok (.l2i, 1) := by decide +kernel
theorem dJ13_numberOfTrailingZeros_95d88_14 : decode cJ13_numberOfTrailingZeros_95d88 14 = .ok (.invokestatic 311, 3) := by decide +kernel
theorem dJ13_numberOfTrailingZeros_95d88_17 : decode cJ13_numberOfTrailingZeros_95d88 17 = .ok (.iadd, 1) := by decide +kernel
theorem dJ13_numberOfTrailingZeros_95d88_18 : decode cJ13_numberOfTrailingZeros_95d88 18 = .ok (.goto 7, 3) := by decide +kernel
theorem dJ13_numberOfTrailingZeros_95d88_21 : decode cJ13_numberOfTrailingZeros_95d88 21 = .ok (.iload_n 2, 1) := by decide +kernel
theorem dJ13_numberOfTrailingZeros_95d88_22 : decode cJ13_numberOfTrailingZeros_95d88 22 = .ok (.invokestatic 311, 3) := by decide +kernel
theorem dJ13_numberOfTrailingZeros_95d88_25 : decode cJ13_numberOfTrailingZeros_95d88 25 = .ok (.ireturn, 1) := by decide +kernel
theorem dJ13_bitCount_95d88_0 : decode cJ13_bitCount_95d88 0 = .ok (.lload_n 0, 1) := by decide +kernel
theorem dJ13_bitCount_95d88_1 : decode cJ13_bitCount_95d88 1 = .ok (.lload_n 0, 1) := by decide +kernel
theorem dJ13_bitCount_95d88_2 : decode cJ13_bitCount_95d88 2 = .ok (.iconst 1, 1) := by decide +kernel
theorem dJ13_bitCount_95d88_3 : decode cJ13_bitCount_95d88 3 = .ok (.lushr, 1) := by decide +kernel
theorem dJ13_bitCount_95d88_4 : decode cJ13_bitCount_95d88 4 = .ok (.ldc2_w 314, 3) := by decide +kernel
theorem dJ13_bitCount_95d88_7 : decode cJ13_bitCount_95d88 7 = .ok (.land, 1) := by decide +kernel
theorem dJ13_bitCount_95d88_8 : decode cJ13_bitCount_95d88 8 = .ok (.lsub, 1) := by decide +kernel
theorem dJ13_bitCount_95d88_9 : decode cJ13_bitCount_95d88 9 = .ok (.lstore_n 0, 1) := by decide +kernel
theorem dJ13_bitCount_95d88_10 : decode cJ13_bitCount_95d88 10 = .ok (.lload_n 0, 1) := by decide +kernel
theorem dJ13_bitCount_95d88_11 : decode cJ13_bitCount_95d88 11 = .ok (.ldc2_w 316, 3) := by decide +kernel
theorem dJ13_bitCount_95d88_14 : decode cJ13_bitCount_95d88 14 = .ok (.land, 1) := by decide +kernel
theorem dJ13_bitCount_95d88_15 : decode cJ13_bitCount_95d88 15 = .ok (.lload_n 0, 1) := by decide +kernel
theorem dJ13_bitCount_95d88_16 : decode cJ13_bitCount_95d88 16 = .ok (.iconst 2, 1) := by decide +kernel
theorem dJ13_bitCount_95d88_17 : decode cJ13_bitCount_95d88 17 = .ok (.lushr, 1) := by decide +kernel
theorem dJ13_bitCount_95d88_18 : decode cJ13_bitCount_95d88 18 = .ok (.ldc2_w 316, 3) := by decide +kernel
theorem dJ13_bitCount_95d88_21 : decode cJ13_bitCount_95d88 21 = .ok (.land, 1) := by decide +kernel
theorem dJ13_bitCount_95d88_22 : decode cJ13_bitCount_95d88 22 = .ok (.ladd, 1) := by decide +kernel
theorem dJ13_bitCount_95d88_23 : decode cJ13_bitCount_95d88 23 = .ok (.lstore_n 0, 1) := by decide +kernel
theorem dJ13_bitCount_95d88_24 : decode cJ13_bitCount_95d88 24 = .ok (.lload_n 0, 1) := by decide +kernel
theorem dJ13_bitCount_95d88_25 : decode cJ13_bitCount_95d88 25 = .ok (.lload_n 0, 1) := by decide +kernel
theorem dJ13_bitCount_95d88_26 : decode cJ13_bitCount_95d88 26 = .ok (.iconst 4, 1) := by decide +kernel
theorem dJ13_bitCount_95d88_27 : decode cJ13_bitCount_95d88 27 = .ok (.lushr, 1) := by decide +kernel
theorem dJ13_bitCount_95d88_28 : decode cJ13_bitCount_95d88 28 = .ok (.ladd, 1) := by decide +kernel
theorem dJ13_bitCount_95d88_29 : decode cJ13_bitCount_95d88 29 = .ok (.ldc2_w 318, 3) := by decide +kernel
theorem dJ13_bitCount_95d88_32 : decode cJ13_bitCount_95d88 32 = .ok (.land, 1) := by decide +kernel
theorem dJ13_bitCount_95d88_33 : decode cJ13_bitCount_95d88 33 = .ok (.lstore_n 0, 1) := by decide +kernel
theorem dJ13_bitCount_95d88_34 : decode cJ13_bitCount_95d88 34 = .ok (.lload_n 0, 1) := by decide +kernel
theorem dJ13_bitCount_95d88_35 : decode cJ13_bitCount_95d88 35 = .ok (.lload_n 0, 1) := by decide +kernel
theorem dJ13_bitCount_95d88_36 : decode cJ13_bitCount_95d88 36 = .ok (.bipush 8, 2) := by decide +kernel
theorem dJ13_bitCount_95d88_38 : decode cJ13_bitCount_95d88 38 = .ok (.lushr, 1) := by decide +kernel
theorem dJ13_bitCount_95d88_39 : decode cJ13_bitCount_95d88 39 = .ok (.ladd, 1) := by decide +kernel
theorem dJ13_bitCount_95d88_40 : decode cJ13_bitCount_95d88 40 = .ok (.lstore_n 0, 1) := by decide +kernel
theorem dJ13_bitCount_95d88_41 : decode cJ13_bitCount_95d88 41 = .ok (.lload_n 0, 1) := by decide +kernel
theorem dJ13_bitCount_95d88_42 : decode cJ13_bitCount_95d88 42 = .ok (.lload_n 0, 1) := by decide +kernel
theorem dJ13_bitCount_95d88_43 : decode cJ13_bitCount_95d88 43 = .ok (.bipush 16, 2) := by decide +kernel
theorem dJ13_bitCount_95d88_45 : decode cJ13_bitCount_95d88 45 = .ok (.lushr, 1) := by decide +kernel
theorem dJ13_bitCount_95d88_46 : decode cJ13_bitCount_95d88 46 = .ok (.ladd, 1) := by decide +kernel
theorem dJ13_bitCount_95d88_47 : decode cJ13_bitCount_95d88 47 = .ok (.lstore_n 0, 1) := by decide +kernel
theorem dJ13_bitCount_95d88_48 : decode cJ13_bitCount_95d88 48 = .ok (.lload_n 0, 1) := by decide +kernel
theorem dJ13_bitCount_95d88_49 : decode cJ13_bitCount_95d88 49 = .ok (.lload_n 0, 1) := by decide +kernel
theorem dJ13_bitCount_95d88_50 : decode cJ13_bitCount_95d88 50 = .ok (.bipush 32, 2) := by decide +kernel
theorem dJ13_bitCount_95d88_52 : decode cJ13_bitCount_95d88 52 = .ok (.lushr, 1) := by decide +kernel
theorem dJ13_bitCount_95d88_53 : decode cJ13_bitCount_95d88 53 = .ok (.ladd, 1) := by decide +kernel
theorem dJ13_bitCount_95d88_54 : decode cJ13_bitCount_95d88 54 = .ok (.lstore_n 0, 1) := by decide +kernel
theorem dJ13_bitCount_95d88_55 : decode cJ13_bitCount_95d88 55 = .ok (.lload_n 0, 1) := by decide +kernel
theorem dJ13_bitCount_95d88_56 : decode cJ13_bitCount_95d88 56 = .ok (.l2i, 1) := by decide +kernel
theorem dJ13_bitCount_95d88_57 : decode cJ13_bitCount_95d88 57 = .ok (.bipush 127, 2) := by decide +kernel
theorem dJ13_bitCount_95d88_59 : decode cJ13_bitCount_95d88 59 = .ok (.iand, 1) := by decide +kernel
theorem dJ13_bitCount_95d88_60 : decode cJ13_bitCount_95d88 60 = .ok (.ireturn, 1) := by decide +kernel
theorem dJ9_min_7cf53_0 : decode cJ9_min_7cf53 0 = .ok (.iload_n 0, 1) := by decide +kernel
theorem dJ9_min_7cf53_1 : decode cJ9_min_7cf53 1 = .ok (.iload_n 1, 1) := by decide +kernel
theorem dJ9_min_7cf53_2 : decode cJ9_min_7cf53 2 = .ok (.if_icmp .gt 7, 3) := by decide +kernel
theorem dJ9_min_7cf53_5 : decode cJ9_min_7cf53 5 = .ok (.iload_n 0, 1) := by decide +kernel
theorem dJ9_min_7cf53_6 : decode cJ9_min_7cf53 6 = .ok (.goto 4, 3) := by decide +kernel
theorem dJ9_min_7cf53_9 : decode cJ9_min_7cf53 9 = .ok (.iload_n 1, 1) := by decide +kernel
theorem dJ9_min_7cf53_10 : decode cJ9_min_7cf53 10 = .ok (.ireturn, 1) := by decide +kernel
theorem dJ7_fill_d0a16_0 : decode cJ7_fill_d0a16 0 = .ok (.iconst 0, 1) := by decide +kernel
theorem dJ7_fill_d0a16_1 : decode cJ7_fill_d0a16 1 = .ok (.istore_n 3, 1) := by decide +kernel
theorem dJ7_fill_d0a16_2 : decode cJ7_fill_d0a16 2 = .ok (.aload_n 0, 1) := by decide +kernel
theorem dJ7_fill_d0a16_3 : decode cJ7_fill_d0a16 3 = .ok (.arraylength, 1) := by decide +kernel
theorem dJ7_fill_d0a16_4 : decode cJ7_fill_d0a16 4 = .ok (.istore 4, 2) := by decide +kernel
theorem dJ7_fill_d0a16_6 : decode cJ7_fill_d0a16 6 = .ok (.iload_n 3, 1) := by decide +kernel
theorem dJ7_fill_d0a16_7 : decode cJ7_fill_d0a16 7 = .ok (.iload 4, 2) := by decide +kernel
theorem dJ7_fill_d0a16_9 : decode cJ7_fill_d0a16 9 = .ok (.if_icmp .ge 13, 3) := by decide +kernel
theorem dJ7_fill_d0a16_12 : decode cJ7_fill_d0a16 12 = .ok (.aload_n 0, 1) := by decide +kernel
theorem dJ7_fill_d0a16_13 : decode cJ7_fill_d0a16 13 = .ok (.iload_n 3, 1) := by decide +kernel
theorem dJ7_fill_d0a16_14 : decode cJ7_fill_d0a16 14 = .ok (.lload_n 1, 1) := by decide +kernel
theorem dJ7_fill_d0a16_15 : decode cJ7_fill_d0a16 15 = .ok (.lastore, 1) := by decide +kernel
theorem dJ7_fill_d0a16_16 : decode cJ7_fill_d0a16 16 = .ok (.iinc 3 1, 3) := by decide +kernel
theorem dJ7_fill_d0a16_19 : decode cJ7_fill_d0a16 19 = .ok (.goto (-13), 3) := by decide +kernel
theorem dJ7_fill_d0a16_22 : decode cJ7_fill_d0a16 22 = .ok (.return_, 1) := by decide +kernel
theorem dJ7_copyOf_9075b_0 : decode cJ7_copyOf_9075b 0 = .ok (.iload_n 1, 1) := by decide +kernel
theorem dJ7_copyOf_9075b_1 : decode cJ7_copyOf_9075b 1 = .ok (.aload_n 0, 1) := by decide +kernel
theorem dJ7_copyOf_9075b_2 : decode cJ7_copyOf_9075b 2 = .ok (.arraylength, 1) := by decide +kernel
theorem dJ7_copyOf_9075b_3 : decode cJ7_copyOf_9075b 3 = .ok (.if_icmp .ne 11, 3) := by decide +kernel
theorem dJ7_copyOf_9075b_6 : decode cJ7_copyOf_9075b 6 = .ok (.aload_n 0, 1) := by decide +kernel
theorem dJ7_copyOf_9075b_7 : decode cJ7_copyOf_9075b 7 = .ok (.invokevirtual 310, 3) := by decide +kernel
theorem dJ7_copyOf_9075b_10 : decode cJ7_copyOf_9075b 10 = .ok (.checkcast 311, 3) := by decide +kernel
theorem dJ7_copyOf_9075b_13 : decode cJ7_copyOf_9075b 13 = .ok (.areturn, 1) := by decide +kernel
theorem dJ7_copyOf_9075b_14 : decode cJ7_copyOf_9075b 14 = .ok (.iload_n 1, 1) := by decide +kernel
theorem dJ7_copyOf_9075b_15 : decode cJ7_copyOf_9075b 15 = .ok (.newarray .byte, 2) := by decide +kernel
theorem dJ7_copyOf_9075b_17 : decode cJ7_copyOf_9075b 17 = .ok (.astore_n 2, 1) := by decide +kernel
theorem dJ7_copyOf_9075b_18 : decode cJ7_copyOf_9075b 18 = .ok (.aload_n 0, 1) := by decide +kernel
theorem dJ7_copyOf_9075b_19 : decode cJ7_copyOf_9075b 19 = .ok (.iconst 0, 1) := by decide +kernel
theorem dJ7_copyOf_9075b_20 : decode cJ7_copyOf_9075b 20 = .ok (.aload_n 2, 1) := by decide +kernel
theorem dJ7_copyOf_9075b_21 : decode cJ7_copyOf_9075b 21 = .ok (.iconst 0, 1) := by decide +kernel
theorem dJ7_copyOf_9075b_22 : decode cJ7_copyOf_9075b 22 = .ok (.aload_n 0, 1) := by decide +kernel
theorem dJ7_copyOf_9075b_23 : decode cJ7_copyOf_9075b 23 = .ok (.arraylength, 1) := by decide +kernel
theorem dJ7_copyOf_9075b_24 : decode cJ7_copyOf_9075b 24 = .ok (.iload_n 1, 1) := by decide +kernel
theorem dJ7_copyOf_9075b_25 : decode cJ7_copyOf_9075b 25 = .ok (.invokestatic 304, 3) := by decide +kernel
theorem dJ7_copyOf_9075b_28 : decode cJ7_copyOf_9075b 28 = .ok (.invokestatic 150, 3) := by decide +kernel
theorem dJ7_copyOf_9075b_31 : decode cJ7_copyOf_9075b 31 = .ok (.aload_n 2, 1) := by decide +kernel
theorem dJ7_copyOf_9075b_32 : decode cJ7_copyOf_9075b 32 = .ok (.areturn, 1) := by decide +kernel
set_option maxRecDepth 20000 in
theorem ggL_law_X6_init : GoodIn wsL_law wsX6_init := goodIn_r _ [9, 10, 11, 12, 13, 14, 15, 16, 17, 18, 19, 20, 21, 22, 23, 24, 25, 26, 27, 28, 29, 30, 31, 32, 33, 34, 35, 36, 37, 38, 39, 40, 41, 42, 43, 44, 45, 46, 47, 48, 49, 50, 51, 52, 53, 54, 55, 56, 57, 58, 59, 60, 873, 874, 875, 876, 877, 878, 895, 896, 897, 898, 899, 900, 901, 902, 903, 904, 905, 906, 907, 908, 909, 910, 911, 912, 913, 914] (by decide +kernel) (by decide +kernel)
set_option maxRecDepth 20000 in
theorem gL_law_X6_init : GoodIn wsL_law (wsX6_init) := ggL_law_X6_init
set_option maxRecDepth 20000 in
theorem ggL_law_X7_init : GoodIn wsL_law wsX7_init := goodIn_r _ [63, 64, 11, 12, 58, 65, 66, 67, 68, 69, 70, 71, 72, 73, 74, 75, 76, 77, 879, 880, 881, 882, 883, 884, 885, 886, 887, 888, 889, 890, 891, 892, 893, 894] (by decide +kernel) (by decide +kernel)
set_option maxRecDepth 20000 in
theorem gL_law_X7_init : GoodIn wsL_law (wsX7_init) := ggL_law_X7_init
set_option maxRecDepth 20000 in
theorem ggL_law_X6_add : GoodIn wsL_law wsX6_add := goodIn_r _ [81, 14, 82, 83, 2, 84, 85, 86, 87, 88, 89, 90, 91, 92, 93, 94, 16, 95, 96, 97, 98, 99, 36, 100, 101, 102, 103, 104, 105, 106, 107, 108, 109, 110, 111, 112, 113, 114, 115, 116, 117, 38, 118, 42, 119, 120, 121, 122, 123, 124, 125, 70, 126, 127, 128, 129, 130, 131, 132, 133, 134, 135, 136, 137, 138, 139, 140, 141, 142, 143, 144, 145, 146, 147, 148, 149, 150, 151, 152, 153, 154, 155, 156, 157, 873, 874, 875, 876, 877, 878, 895, 896, 911, 912, 913, 914] (by decide +kernel) (by decide +kernel)
set_option maxRecDepth 20000 in
theorem gL_law_X6_add : GoodIn wsL_law (wsV RL 13 RX6 yX6_add wsX6_add) := goodIn_app (goodIn_of _ (by decide +kernel)) ggL_law_X6_add
set_option maxRecDepth 20000 in
theorem ggL_law_X7_add : GoodIn wsL_law wsX7_add := goodIn_r _ [161, 65, 162, 68, 163, 164, 5, 165, 166, 167, 168, 169, 170, 171, 172, 173, 66, 174, 175, 176, 177, 71, 178, 179, 180, 181, 67, 182, 183, 184, 185, 186, 187, 188, 189, 190, 191, 192, 193, 194, 195, 196, 197, 879, 880, 881, 882, 883, 884, 885, 886, 887, 888, 889, 890, 891, 892, 893, 894] (by decide +kernel) (by decide +kernel)
set_option maxRecDepth 20000 in
theorem gL_law_X7_add : GoodIn wsL_law (wsV RL 17 RX7 yX7_add wsX7_add) := goodIn_app (goodIn_of _ (by decide +kernel)) ggL_law_X7_add
set_option maxRecDepth 20000 in
theorem ggL_law_X6_remove : GoodIn wsL_law wsX6_remove := goodIn_r _ [201, 14, 82, 83, 2, 84, 85, 86, 87, 88, 89, 90, 91, 92, 93, 94, 16, 95, 96, 97, 98, 99, 36, 100, 101, 102, 103, 104, 105, 106, 107, 108, 109, 110, 111, 112, 113, 114, 115, 116, 117, 38, 118, 42, 119, 120, 121, 122, 123, 124, 125, 70, 126, 127, 128, 129, 130, 131, 132, 133, 134, 135, 136, 137, 138, 139, 140, 141, 142, 143, 144, 145, 146, 147, 148, 149, 150, 151, 152, 153, 154, 155, 156, 157, 873, 874, 875, 876, 877, 878, 895, 896, 911, 912, 913, 914] (by decide +kernel) (by decide +kernel)
set_option maxRecDepth 20000 in
theorem gL_law_X6_remove : GoodIn wsL_law (wsV RL 18 RX6 yX6_remove wsX6_remove) := goodIn_app (goodIn_of _ (by decide +kernel)) ggL_law_X6_remove
set_option maxRecDepth 20000 in
theorem ggL_law_X7_remove : GoodIn wsL_law wsX7_remove := goodIn_r _ [205, 162, 68, 163, 164, 5, 165, 166, 167, 168, 169, 170, 171, 172, 173, 65, 66, 174, 175, 176, 177, 71, 186, 187, 188, 189, 190, 191, 192, 193, 67, 194, 195, 196, 197, 182, 183, 184, 185, 879, 880, 881, 882, 883, 884, 885, 886, 887, 888, 889, 890, 891, 892, 893, 894] (by decide +kernel) (by decide +kernel)
set_option maxRecDepth 20000 in
theorem gL_law_X7_remove : GoodIn wsL_law (wsV RL 21 RX7 yX7_remove wsX7_remove) := goodIn_app (goodIn_of _ (by decide +kernel)) ggL_law_X7_remove
set_option maxRecDepth 20000 in
theorem ggL_law_X6_range : GoodIn wsL_law wsX6_range := goodIn_r _ [209, 14, 82, 83, 2, 84, 210, 211, 212, 91, 92, 93, 94, 16, 95, 96, 97, 98, 99, 36, 100, 101, 102, 103, 104, 105, 106, 107, 108, 109, 110, 111, 112, 113, 114, 115, 116, 117, 38, 118, 42, 119, 120, 121, 122, 123, 124, 125, 70, 126, 127, 128, 129, 130, 131, 132, 133, 134, 135, 136, 137, 138, 139, 140, 141, 142, 143, 144, 145, 146, 147, 148, 149, 150, 151, 152, 153, 154, 155, 156, 157, 213, 214, 215, 216, 873, 874, 875, 876, 877, 878, 895, 896, 911, 912, 913, 914] (by decide +kernel) (by decide +kernel)
set_option maxRecDepth 20000 in
theorem gL_law_X6_range : GoodIn wsL_law (wsV RL 22 RX6 yX6_range wsX6_range) := goodIn_app (goodIn_of _ (by decide +kernel)) ggL_law_X6_range
set_option maxRecDepth 20000 in
theorem ggL_law_X7_range : GoodIn wsL_law wsX7_range := goodIn_r _ [220, 221, 163, 164, 5, 165, 166, 167, 168, 169, 222, 223, 224, 225, 226, 227, 228, 229, 65, 68, 170, 171, 172, 173, 66, 230, 231, 232, 233, 178, 179, 180, 181, 67, 71, 182, 183, 184, 185, 174, 175, 176, 177, 186, 187, 188, 189, 190, 191, 192, 193, 194, 195, 196, 197, 879, 880, 881, 882, 883, 884, 885, 886, 887, 888, 889, 890, 891, 892, 893, 894] (by decide +kernel) (by decide +kernel)
set_option maxRecDepth 20000 in
theorem gL_law_X7_range : GoodIn wsL_law (wsV RL 26 RX7 yX7_range wsX7_range) := goodIn_app (goodIn_of _ (by decide +kernel)) ggL_law_X7_range
set_option maxRecDepth 20000 in
theorem ggL_law_X6_steps : GoodIn wsL_law wsX6_steps := goodIn_r _ [237, 14, 82, 83, 2, 84, 210, 211, 212, 91, 238, 239, 240, 16, 241, 111, 112, 113, 114, 36, 104, 100, 101, 102, 103, 105, 106, 107, 108, 109, 110, 115, 116, 117, 38, 118, 42, 119, 120, 121, 122, 123, 124, 125, 70, 126, 127, 128, 129, 242, 243, 244, 245, 246, 247, 248, 249, 250, 145, 146, 147, 148, 149, 150, 151, 152, 153, 154, 155, 156, 157, 213, 214, 215, 216, 873, 874, 875, 876, 877, 878, 895, 896, 911, 912, 913, 914] (by decide +kernel) (by decide +kernel)
set_option maxRecDepth 20000 in
theorem gL_law_X6_steps : GoodIn wsL_law (wsV RL 27 RX6 yX6_steps wsX6_steps) := goodIn_app (goodIn_of _ (by decide +kernel)) ggL_law_X6_steps
set_option maxRecDepth 20000 in
theorem ggL_law_X7_steps : GoodIn wsL_law wsX7_steps := goodIn_r _ [254, 225, 162, 163, 164, 5, 165, 166, 167, 168, 169, 222, 223, 224, 226, 227, 228, 229, 65, 68, 170, 171, 172, 173, 66, 230, 231, 232, 233, 178, 179, 180, 181, 67, 71, 182, 183, 184, 185, 174, 175, 176, 177, 186, 187, 188, 189, 190, 191, 192, 193, 194, 195, 196, 197, 879, 880, 881, 882, 883, 884, 885, 886, 887, 888, 889, 890, 891, 892, 893, 894] (by decide +kernel) (by decide +kernel)
set_option maxRecDepth 20000 in
theorem gL_law_X7_steps : GoodIn wsL_law (wsV RL 31 RX7 yX7_steps wsX7_steps) := goodIn_app (goodIn_of _ (by decide +kernel)) ggL_law_X7_steps
set_option maxRecDepth 20000 in
theorem ggL_law_X6_clear : GoodIn wsL_law wsX6_clear := goodIn_r _ [258, 14, 259, 82, 83, 2, 84, 213, 214, 215, 16, 216, 104, 36, 149, 873, 874, 875, 876, 877, 878, 895, 896, 911, 912, 913, 914] (by decide +kernel) (by decide +kernel)
set_option maxRecDepth 20000 in
theorem gL_law_X6_clear : GoodIn wsL_law (wsV RL 32 RX6 yX6_clear wsX6_clear) := goodIn_app (goodIn_of _ (by decide +kernel)) ggL_law_X6_clear
set_option maxRecDepth 20000 in
theorem ggL_law_X7_clear : GoodIn wsL_law wsX7_clear := goodIn_r _ [263, 65, 163, 164, 5, 165, 166, 167, 168, 169, 230, 231, 232, 233, 68, 879, 880, 881, 882, 883, 884, 885, 886, 887, 888, 889, 890, 891, 892, 893, 894] (by decide +kernel) (by decide +kernel)
set_option maxRecDepth 20000 in
theorem gL_law_X7_clear : GoodIn wsL_law (wsV RL 36 RX7 yX7_clear wsX7_clear) := goodIn_app (goodIn_of _ (by decide +kernel)) ggL_law_X7_clear
set_option maxRecDepth 20000 in
theorem ggL_law_X6_join : GoodIn wsL_law wsX6_join := goodIn_r _ [267, 17, 14, 82, 83, 2, 84, 268, 269, 270, 271, 30, 272, 273, 274, 16, 275, 104, 110, 36, 149, 106, 107, 108, 109, 105, 276, 277, 278, 38, 279, 42, 280, 281, 282, 283, 119, 120, 121, 122, 123, 124, 125, 70, 284, 285, 286, 287, 288, 289, 290, 134, 138, 139, 140, 141, 142, 143, 144, 291, 292, 293, 294, 295, 296, 297, 298, 299, 151, 152, 153, 300, 301, 302, 303, 213, 214, 215, 216, 873, 874, 875, 876, 877, 878, 895, 896, 911, 912, 913, 914] (by decide +kernel) (by decide +kernel)
set_option maxRecDepth 20000 in
theorem gL_law_X6_join : GoodIn wsL_law (wsV RL 37 RX6 yX6_join wsX6_join) := goodIn_app (goodIn_of _ (by decide +kernel)) ggL_law_X6_join
set_option maxRecDepth 20000 in
theorem ggL_law_X7_join : GoodIn wsL_law wsX7_join := goodIn_r _ [307, 308, 72, 163, 164, 5, 165, 166, 167, 168, 169, 309, 310, 311, 312, 65, 66, 313, 314, 315, 316, 317, 71, 68, 67, 318, 319, 320, 321, 178, 179, 180, 181, 182, 183, 184, 185, 322, 323, 324, 190, 191, 192, 193, 194, 195, 196, 197, 325, 326, 327, 328, 329, 330, 331, 332, 230, 231, 232, 233, 879, 880, 881, 882, 883, 884, 885, 886, 887, 888, 889, 890, 891, 892, 893, 894] (by decide +kernel) (by decide +kernel)
set_option maxRecDepth 20000 in
theorem gL_law_X7_join : GoodIn wsL_law (wsV RL 40 RX7 yX7_join wsX7_join) := goodIn_app (goodIn_of _ (by decide +kernel)) ggL_law_X7_join
set_option maxRecDepth 20000 in
theorem ggL_law_X6_shrink : GoodIn wsL_law wsX6_shrink := goodIn_r _ [336, 14, 82, 83, 2, 84, 268, 269, 270, 271, 30, 337, 338, 339, 16, 340, 104, 36, 341, 342, 343, 38, 344, 121, 120, 345, 346, 347, 348, 42, 134, 138, 139, 140, 141, 142, 143, 144, 299, 151, 152, 153, 349, 350, 351, 352, 353, 873, 874, 875, 876, 877, 878, 895, 896, 911, 912, 913, 914] (by decide +kernel) (by decide +kernel)
set_option maxRecDepth 20000 in
theorem gL_law_X6_shrink : GoodIn wsL_law (wsV RL 41 RX6 yX6_shrink wsX6_shrink) := goodIn_app (goodIn_of _ (by decide +kernel)) ggL_law_X6_shrink
set_option maxRecDepth 20000 in
theorem ggL_law_X7_shrink : GoodIn wsL_law wsX7_shrink := goodIn_r _ [357, 72, 65, 68, 67, 163, 164, 5, 165, 166, 167, 168, 169, 358, 359, 360, 361, 71, 321, 322, 323, 324, 194, 195, 196, 197, 879, 880, 881, 882, 883, 884, 885, 886, 887, 888, 889, 890, 891, 892, 893, 894] (by decide +kernel) (by decide +kernel)
set_option maxRecDepth 20000 in
theorem gL_law_X7_shrink : GoodIn wsL_law (wsV RL 44 RX7 yX7_shrink wsX7_shrink) := goodIn_app (goodIn_of _ (by decide +kernel)) ggL_law_X7_shrink
set_option maxRecDepth 20000 in
theorem ggL_law_X6_formula : GoodIn wsL_law wsX6_formula := goodIn_r _ [365, 21, 14, 17, 366, 82, 83, 2, 84, 367, 368, 20, 369, 370, 371, 372, 373, 374, 375, 268, 269, 270, 271, 30, 376, 377, 378, 379, 380, 48, 381, 382, 383, 384, 385, 273, 274, 16, 275, 104, 110, 36, 149, 106, 107, 108, 109, 105, 276, 277, 278, 38, 279, 42, 280, 281, 282, 283, 119, 120, 121, 122, 123, 124, 125, 70, 284, 285, 286, 287, 288, 289, 290, 134, 138, 139, 140, 141, 142, 143, 144, 291, 292, 293, 294, 295, 296, 297, 298, 299, 151, 152, 153, 386, 301, 302, 303, 387, 388, 389, 390, 391, 392, 93, 94, 95, 96, 97, 98, 99, 100, 101, 102, 103, 111, 112, 113, 114, 115, 116, 117, 118, 126, 127, 128, 129, 130, 131, 132, 133, 135, 136, 137, 145, 146, 147, 148, 150, 154, 155, 156, 157, 393, 394, 395, 396, 300, 213, 214, 215, 216, 873, 874, 875, 876, 877, 878, 897, 898, 895, 896, 911, 912, 913, 914] (by decide +kernel) (by decide +kernel)
set_option maxRecDepth 20000 in
theorem gL_law_X6_formula : GoodIn wsL_law (wsV RL 47 RX6 yX6_formula wsX6_formula) := goodIn_app (goodIn_of _ (by decide +kernel)) ggL_law_X6_formula
set_option maxRecDepth 20000 in
theorem ggL_law_X7_formula : GoodIn wsL_law wsX7_formula := goodIn_r _ [400, 401, 72, 402, 403, 404, 163, 164, 5, 165, 166, 167, 168, 169, 405, 406, 407, 309, 310, 311, 312, 65, 66, 313, 314, 315, 316, 317, 71, 68, 67, 318, 319, 320, 321, 178, 179, 180, 181, 182, 183, 184, 185, 322, 323, 324, 190, 191, 192, 193, 194, 195, 196, 197, 325, 326, 327, 328, 329, 330, 331, 332, 408, 409, 410, 411, 230, 231, 232, 233, 879, 880, 881, 882, 883, 884, 885, 886, 887, 888, 889, 890, 891, 892, 893, 894] (by decide +kernel) (by decide +kernel)
set_option maxRecDepth 20000 in
theorem gL_law_X7_formula : GoodIn wsL_law (wsV RL 51 RX7 yX7_formula wsX7_formula) := goodIn_app (goodIn_of _ (by decide +kernel)) ggL_law_X7_formula
set_option maxRecDepth 20000 in
theorem ggL_law_X6_has : GoodIn wsL_law wsX6_has := goodIn_r _ [415, 14, 82, 83, 2, 84, 85, 86, 87, 416, 97, 98, 16, 99, 36, 100, 101, 102, 103, 104, 105, 106, 107, 108, 109, 110, 88, 89, 90, 91, 417, 248, 249, 38, 250, 42, 873, 874, 875, 876, 877, 878, 895, 896, 911, 912, 913, 914] (by decide +kernel) (by decide +kernel)
set_option maxRecDepth 20000 in
theorem gL_law_X6_has : GoodIn wsL_law (wsV RL 52 RX6 yX6_has wsX6_has) := goodIn_app (goodIn_of _ (by decide +kernel)) ggL_law_X6_has
set_option maxRecDepth 20000 in
theorem ggL_law_X7_has : GoodIn wsL_law wsX7_has := goodIn_r _ [421, 162, 163, 164, 5, 165, 166, 167, 168, 169, 170, 171, 172, 173, 65, 66, 174, 175, 176, 177, 71, 879, 880, 881, 882, 883, 884, 885, 886, 887, 888, 889, 890, 891, 892, 893, 894] (by decide +kernel) (by decide +kernel)
set_option maxRecDepth 20000 in
theorem gL_law_X7_has : GoodIn wsL_law (wsV RL 55 RX7 yX7_has wsX7_has) := goodIn_app (goodIn_of _ (by decide +kernel)) ggL_law_X7_has
set_option maxRecDepth 20000 in
theorem ggL_law_X6_rank : GoodIn wsL_law wsX6_rank := goodIn_r _ [425, 14, 82, 83, 2, 84, 85, 86, 87, 88, 89, 90, 91, 426, 427, 428, 16, 429, 104, 36, 105, 149, 430, 431, 432, 38, 433, 42, 135, 136, 137, 134, 138, 139, 140, 141, 142, 143, 144, 873, 874, 875, 876, 877, 878, 895, 896, 911, 912, 913, 914] (by decide +kernel) (by decide +kernel)
set_option maxRecDepth 20000 in
theorem gL_law_X6_rank : GoodIn wsL_law (wsV RL 56 RX6 yX6_rank wsX6_rank) := goodIn_app (goodIn_of _ (by decide +kernel)) ggL_law_X6_rank
set_option maxRecDepth 20000 in
theorem ggL_law_X7_rank : GoodIn wsL_law wsX7_rank := goodIn_r _ [437, 162, 65, 66, 68, 71, 163, 164, 5, 165, 166, 167, 168, 169, 322, 323, 324, 174, 175, 176, 177, 879, 880, 881, 882, 883, 884, 885, 886, 887, 888, 889, 890, 891, 892, 893, 894] (by decide +kernel) (by decide +kernel)
set_option maxRecDepth 20000 in
theorem gL_law_X7_rank : GoodIn wsL_law (wsV RL 59 RX7 yX7_rank wsX7_rank) := goodIn_app (goodIn_of _ (by decide +kernel)) ggL_law_X7_rank
set_option maxRecDepth 20000 in
theorem ggL_law_X6_select : GoodIn wsL_law wsX6_select := goodIn_r _ [441, 442, 14, 82, 83, 2, 84, 443, 444, 445, 16, 446, 104, 36, 149, 105, 447, 448, 449, 450, 38, 451, 42, 138, 139, 140, 141, 142, 143, 144, 452, 453, 454, 455, 456, 457, 458, 459, 460, 461, 462, 873, 874, 875, 876, 877, 878, 895, 896, 911, 912, 913, 914] (by decide +kernel) (by decide +kernel)
set_option maxRecDepth 20000 in
theorem gL_law_X6_select : GoodIn wsL_law (wsV RL 60 RX6 yX6_select wsX6_select) := goodIn_app (goodIn_of _ (by decide +kernel)) ggL_law_X6_select
set_option maxRecDepth 20000 in
theorem ggL_law_X7_select : GoodIn wsL_law wsX7_select := goodIn_r _ [466, 467, 321, 65, 68, 71, 163, 164, 5, 165, 166, 167, 168, 169, 322, 323, 324, 174, 175, 176, 177, 468, 469, 470, 471, 472, 66, 879, 880, 881, 882, 883, 884, 885, 886, 887, 888, 889, 890, 891, 892, 893, 894] (by decide +kernel) (by decide +kernel)
set_option maxRecDepth 20000 in
theorem gL_law_X7_select : GoodIn wsL_law (wsV RL 64 RX7 yX7_select wsX7_select) := goodIn_app (goodIn_of _ (by decide +kernel)) ggL_law_X7_select
set_option maxRecDepth 20000 in
theorem ggL_law_X6_next : GoodIn wsL_law wsX6_next := goodIn_r _ [476, 442, 14, 82, 83, 2, 84, 85, 86, 87, 88, 89, 90, 91, 477, 478, 479, 16, 480, 104, 36, 105, 110, 447, 100, 101, 102, 103, 481, 482, 483, 38, 484, 485, 486, 487, 488, 42, 134, 489, 452, 453, 140, 454, 455, 456, 457, 458, 459, 460, 461, 462, 873, 874, 875, 876, 877, 878, 895, 896, 911, 912, 913, 914] (by decide +kernel) (by decide +kernel)
set_option maxRecDepth 20000 in
theorem gL_law_X6_next : GoodIn wsL_law (wsV RL 65 RX6 yX6_next wsX6_next) := goodIn_app (goodIn_of _ (by decide +kernel)) ggL_law_X6_next
set_option maxRecDepth 20000 in
theorem ggL_law_X7_next : GoodIn wsL_law wsX7_next := goodIn_r _ [493, 467, 65, 66, 313, 162, 321, 163, 164, 5, 165, 166, 167, 168, 169, 174, 175, 176, 177, 71, 468, 469, 470, 471, 472, 879, 880, 881, 882, 883, 884, 885, 886, 887, 888, 889, 890, 891, 892, 893, 894] (by decide +kernel) (by decide +kernel)
set_option maxRecDepth 20000 in
theorem gL_law_X7_next : GoodIn wsL_law (wsV RL 68 RX7 yX7_next wsX7_next) := goodIn_app (goodIn_of _ (by decide +kernel)) ggL_law_X7_next
set_option maxRecDepth 20000 in
theorem ggL_law_X6_count : GoodIn wsL_law wsX6_count := goodIn_r _ [497, 14, 259, 82, 83, 2, 84, 213, 214, 215, 16, 216, 104, 36, 149, 349, 350, 351, 352, 353, 873, 874, 875, 876, 877, 878, 895, 896, 911, 912, 913, 914] (by decide +kernel) (by decide +kernel)
set_option maxRecDepth 20000 in
theorem gL_law_X6_count : GoodIn wsL_law (wsV RL 69 RX6 yX6_count wsX6_count) := goodIn_app (goodIn_of _ (by decide +kernel)) ggL_law_X6_count
set_option maxRecDepth 20000 in
theorem ggL_law_X7_count : GoodIn wsL_law wsX7_count := goodIn_r _ [501, 502, 65, 67, 163, 164, 5, 165, 166, 167, 168, 169, 230, 231, 232, 233, 68, 879, 880, 881, 882, 883, 884, 885, 886, 887, 888, 889, 890, 891, 892, 893, 894] (by decide +kernel) (by decide +kernel)
set_option maxRecDepth 20000 in
theorem gL_law_X7_count : GoodIn wsL_law (wsV RL 72 RX7 yX7_count wsX7_count) := goodIn_app (goodIn_of _ (by decide +kernel)) ggL_law_X7_count
set_option maxRecDepth 20000 in
theorem ggL_law_X6_container : GoodIn wsL_law wsX6_container := goodIn_r _ [506, 14, 259, 507, 508, 509, 510, 82, 83, 2, 84, 511, 346, 347, 38, 348, 42, 134, 138, 139, 140, 141, 142, 143, 144, 873, 874, 875, 876, 877, 878, 895, 896, 911, 912, 913, 914] (by decide +kernel) (by decide +kernel)
set_option maxRecDepth 20000 in
theorem gL_law_X6_container : GoodIn wsL_law (wsV RL 73 RX6 yX6_container wsX6_container) := goodIn_app (goodIn_of _ (by decide +kernel)) ggL_law_X6_container
set_option maxRecDepth 20000 in
theorem ggL_law_X7_container : GoodIn wsL_law wsX7_container := goodIn_r _ [515, 65, 308, 66, 67, 68, 163, 164, 5, 165, 166, 167, 168, 169, 358, 359, 360, 361, 71, 321, 322, 323, 324, 879, 880, 881, 882, 883, 884, 885, 886, 887, 888, 889, 890, 891, 892, 893, 894] (by decide +kernel) (by decide +kernel)
set_option maxRecDepth 20000 in
theorem gL_law_X7_container : GoodIn wsL_law (wsV RL 77 RX7 yX7_container wsX7_container) := goodIn_app (goodIn_of _ (by decide +kernel)) ggL_law_X7_container
set_option maxRecDepth 20000 in
theorem ggL_law_X6_compare : GoodIn wsL_law wsX6_compare := goodIn_r _ [519, 14, 82, 83, 2, 84, 520, 521, 522, 16, 523, 104, 36, 105, 96, 97, 98, 99, 100, 101, 102, 103, 106, 107, 108, 109, 110, 524, 296, 297, 38, 298, 42, 134, 525, 526, 527, 528, 529, 530, 531, 532, 873, 874, 875, 876, 877, 878, 895, 896, 911, 912, 913, 914] (by decide +kernel) (by decide +kernel)
set_option maxRecDepth 20000 in
theorem gL_law_X6_compare : GoodIn wsL_law (wsV RL 78 RX6 yX6_compare wsX6_compare) := goodIn_app (goodIn_of _ (by decide +kernel)) ggL_law_X6_compare
set_option maxRecDepth 20000 in
theorem ggL_law_X7_compare : GoodIn wsL_law wsX7_compare := goodIn_r _ [536, 163, 164, 5, 165, 166, 167, 168, 169, 537, 538, 539, 540, 65, 66, 71, 170, 171, 172, 173, 322, 323, 324, 230, 231, 232, 233, 68, 879, 880, 881, 882, 883, 884, 885, 886, 887, 888, 889, 890, 891, 892, 893, 894] (by decide +kernel) (by decide +kernel)
set_option maxRecDepth 20000 in
theorem gL_law_X7_compare : GoodIn wsL_law (wsV RL 81 RX7 yX7_compare wsX7_compare) := goodIn_app (goodIn_of _ (by decide +kernel)) ggL_law_X7_compare
set_option maxRecDepth 20000 in
theorem ggL_law_X6_write : GoodIn wsL_law wsX6_write := goodIn_r _ [544, 14, 545, 25, 546, 82, 83, 2, 84, 547, 548, 549, 550, 551, 552, 553, 554, 555, 556, 557, 558, 559, 350, 351, 16, 352, 104, 36, 353, 560, 561, 562, 563, 564, 565, 566, 567, 568, 346, 347, 38, 348, 42, 134, 138, 139, 140, 141, 142, 143, 144, 569, 570, 571, 572, 573, 574, 575, 576, 577, 578, 579, 580, 24, 581, 582, 54, 583, 584, 585, 128, 586, 587, 588, 589, 590, 591, 592, 53, 593, 594, 595, 596, 597, 281, 282, 283, 598, 599, 600, 601, 602, 603, 604, 605, 606, 607, 608, 609, 453, 454, 455, 456, 457, 458, 459, 610, 611, 612, 613, 614, 615, 616, 482, 483, 484, 485, 486, 487, 488, 489, 452, 617, 618, 619, 620, 873, 874, 875, 876, 877, 878, 899, 900, 895, 896, 911, 912, 913, 914] (by decide +kernel) (by decide +kernel)
set_option maxRecDepth 20000 in
theorem gL_law_X6_write : GoodIn wsL_law (wsV RL 82 RX6 yX6_write wsX6_write) := goodIn_app (goodIn_of _ (by decide +kernel)) ggL_law_X6_write
set_option maxRecDepth 20000 in
theorem ggL_law_X7_write : GoodIn wsL_law wsX7_write := goodIn_r _ [624, 65, 73, 625, 67, 66, 68, 626, 163, 164, 5, 165, 166, 167, 168, 169, 627, 628, 629, 630, 631, 632, 633, 634, 635, 499, 500, 501, 502, 230, 231, 232, 233, 636, 637, 638, 639, 358, 359, 360, 361, 71, 321, 322, 323, 324, 640, 641, 642, 643, 74, 644, 645, 646, 647, 313, 174, 175, 176, 177, 879, 880, 881, 882, 883, 884, 885, 886, 887, 888, 889, 890, 891, 892, 893, 894] (by decide +kernel) (by decide +kernel)
set_option maxRecDepth 20000 in
theorem gL_law_X7_write : GoodIn wsL_law (wsV RL 85 RX7 yX7_write wsX7_write) := goodIn_app (goodIn_of _ (by decide +kernel)) ggL_law_X7_write
set_option maxRecDepth 20000 in
theorem ggL_law_X6_read : GoodIn wsL_law wsX6_read := goodIn_r _ [651, 29, 25, 17, 652, 14, 82, 83, 2, 84, 268, 269, 270, 271, 30, 653, 654, 655, 28, 656, 657, 658, 659, 660, 661, 662, 663, 664, 665, 666, 667, 668, 669, 670, 671, 672, 673, 674, 675, 676, 677, 678, 679, 680, 681, 682, 683, 684, 685, 686, 687, 688, 24, 689, 690, 691, 692, 693, 54, 694, 695, 696, 697, 698, 699, 700, 701, 702, 703, 704, 705, 706, 59, 60, 707, 708, 709, 710, 711, 712, 713, 714, 715, 716, 717, 116, 117, 38, 118, 42, 119, 120, 121, 122, 123, 124, 125, 70, 126, 127, 128, 129, 718, 719, 720, 721, 722, 723, 724, 131, 132, 133, 134, 135, 136, 137, 138, 139, 140, 141, 142, 143, 144, 725, 726, 727, 728, 729, 730, 731, 732, 733, 734, 300, 301, 302, 16, 303, 36, 104, 213, 214, 215, 216, 149, 873, 874, 875, 876, 877, 878, 901, 902, 903, 904, 905, 906, 907, 908, 909, 910, 899, 900, 895, 896, 911, 912, 913, 914] (by decide +kernel) (by decide +kernel)
set_option maxRecDepth 20000 in
theorem gL_law_X6_read : GoodIn wsL_law (wsV RL 86 RX6 yX6_read wsX6_read) := goodIn_app (goodIn_of _ (by decide +kernel)) ggL_law_X6_read
set_option maxRecDepth 20000 in
theorem ggL_law_X7_read : GoodIn wsL_law wsX7_read := goodIn_r _ [738, 72, 739, 740, 741, 163, 164, 5, 165, 166, 167, 168, 169, 742, 743, 744, 745, 65, 76, 321, 75, 71, 68, 746, 67, 77, 626, 747, 748, 749, 750, 751, 472, 752, 753, 502, 754, 755, 756, 757, 758, 759, 760, 761, 762, 763, 764, 765, 74, 766, 767, 768, 769, 66, 770, 771, 772, 773, 774, 775, 776, 777, 162, 186, 187, 188, 189, 778, 779, 780, 781, 782, 783, 784, 785, 322, 323, 324, 329, 330, 331, 332, 182, 183, 184, 185, 230, 231, 232, 233, 879, 880, 881, 882, 883, 884, 885, 886, 887, 888, 889, 890, 891, 892, 893, 894] (by decide +kernel) (by decide +kernel)
set_option maxRecDepth 20000 in
theorem gL_law_X7_read : GoodIn wsL_law (wsV RL 89 RX7 yX7_read wsX7_read) := goodIn_app (goodIn_of _ (by decide +kernel)) ggL_law_X7_read
set_option maxRecDepth 20000 in
theorem ggL_law_X6_fault : GoodIn wsL_law wsX6_fault := goodIn_r _ [789, 29, 790, 873, 874, 875, 876, 877, 878, 901, 902, 903, 904, 905, 906, 907, 908, 909, 910] (by decide +kernel) (by decide +kernel)
set_option maxRecDepth 20000 in
theorem gL_law_X6_fault : GoodIn wsL_law (wsV RL 90 RX6 yX6_fault wsX6_fault) := goodIn_app (goodIn_of _ (by decide +kernel)) ggL_law_X6_fault
set_option maxRecDepth 20000 in
theorem ggL_law_X7_fault : GoodIn wsL_law wsX7_fault := goodIn_r _ [794, 739, 879, 880, 881, 882, 883, 884, 885, 886, 887, 888, 889, 890, 891, 892, 893, 894] (by decide +kernel) (by decide +kernel)
set_option maxRecDepth 20000 in
theorem gL_law_X7_fault : GoodIn wsL_law (wsV RL 94 RX7 yX7_fault wsX7_fault) := goodIn_app (goodIn_of _ (by decide +kernel)) ggL_law_X7_fault
set_option maxRecDepth 20000 in
theorem ggL_law_X6_cut : GoodIn wsL_law wsX6_cut := goodIn_r _ [798, 25, 546, 873, 874, 875, 876, 877, 878, 899, 900] (by decide +kernel) (by decide +kernel)
set_option maxRecDepth 20000 in
theorem gL_law_X6_cut : GoodIn wsL_law (wsV RL 95 RX6 yX6_cut wsX6_cut) := goodIn_app (goodIn_of _ (by decide +kernel)) ggL_law_X6_cut
set_option maxRecDepth 20000 in
theorem ggL_law_X7_cut : GoodIn wsL_law wsX7_cut := goodIn_r _ [802, 626, 167, 168, 5, 169, 879, 880, 881, 882, 883, 884, 885, 886, 887, 888, 889, 890, 891, 892, 893, 894] (by decide +kernel) (by decide +kernel)
set_option maxRecDepth 20000 in
theorem gL_law_X7_cut : GoodIn wsL_law (wsV RL 98 RX7 yX7_cut wsX7_cut) := goodIn_app (goodIn_of _ (by decide +kernel)) ggL_law_X7_cut
set_option maxRecDepth 20000 in
theorem ggL_law_X6_type : GoodIn wsL_law wsX6_type := goodIn_r _ [806, 25, 546, 545, 807, 579, 580, 24, 581, 582, 54, 583, 584, 585, 128, 586, 587, 588, 589, 590, 591, 592, 53, 593, 594, 595, 596, 597, 281, 282, 283, 873, 874, 875, 876, 877, 878, 899, 900] (by decide +kernel) (by decide +kernel)
set_option maxRecDepth 20000 in
theorem gL_law_X6_type : GoodIn wsL_law (wsV RL 99 RX6 yX6_type wsX6_type) := goodIn_app (goodIn_of _ (by decide +kernel)) ggL_law_X6_type
set_option maxRecDepth 20000 in
theorem ggL_law_X7_type : GoodIn wsL_law wsX7_type := goodIn_r _ [811, 401, 626, 73, 74, 402, 167, 168, 5, 169, 879, 880, 881, 882, 883, 884, 885, 886, 887, 888, 889, 890, 891, 892, 893, 894] (by decide +kernel) (by decide +kernel)
set_option maxRecDepth 20000 in
theorem gL_law_X7_type : GoodIn wsL_law (wsV RL 103 RX7 yX7_type wsX7_type) := goodIn_app (goodIn_of _ (by decide +kernel)) ggL_law_X7_type
set_option maxRecDepth 20000 in
theorem ggL_law_X6_at : GoodIn wsL_law wsX6_at := goodIn_r _ [815, 25, 816, 817, 818, 24, 819, 582, 820, 691, 692, 693, 54, 873, 874, 875, 876, 877, 878, 899, 900] (by decide +kernel) (by decide +kernel)
set_option maxRecDepth 20000 in
theorem gL_law_X6_at : GoodIn wsL_law (wsV RL 104 RX6 yX6_at wsX6_at) := goodIn_app (goodIn_of _ (by decide +kernel)) ggL_law_X6_at
set_option maxRecDepth 20000 in
theorem ggL_law_X7_at : GoodIn wsL_law wsX7_at := goodIn_r _ [824, 626, 74, 167, 168, 5, 169, 879, 880, 881, 882, 883, 884, 885, 886, 887, 888, 889, 890, 891, 892, 893, 894] (by decide +kernel) (by decide +kernel)
set_option maxRecDepth 20000 in
theorem gL_law_X7_at : GoodIn wsL_law (wsV RL 107 RX7 yX7_at wsX7_at) := goodIn_app (goodIn_of _ (by decide +kernel)) ggL_law_X7_at
set_option maxRecDepth 20000 in
theorem ggL_law_X6_alter : GoodIn wsL_law wsX6_alter := goodIn_r _ [828, 25, 829, 816, 817, 818, 24, 819, 582, 820, 691, 692, 693, 54, 873, 874, 875, 876, 877, 878, 899, 900] (by decide +kernel) (by decide +kernel)
set_option maxRecDepth 20000 in
theorem gL_law_X6_alter : GoodIn wsL_law (wsV RL 108 RX6 yX6_alter wsX6_alter) := goodIn_app (goodIn_of _ (by decide +kernel)) ggL_law_X6_alter
set_option maxRecDepth 20000 in
theorem ggL_law_X7_alter : GoodIn wsL_law wsX7_alter := goodIn_r _ [833, 626, 402, 74, 167, 168, 5, 169, 879, 880, 881, 882, 883, 884, 885, 886, 887, 888, 889, 890, 891, 892, 893, 894] (by decide +kernel) (by decide +kernel)
set_option maxRecDepth 20000 in
theorem gL_law_X7_alter : GoodIn wsL_law (wsV RL 111 RX7 yX7_alter wsX7_alter) := goodIn_app (goodIn_of _ (by decide +kernel)) ggL_law_X7_alter
set_option maxRecDepth 20000 in
theorem ggL_law_X6_work : GoodIn wsL_law wsX6_work := goodIn_r _ [837, 30, 873, 874, 875, 876, 877, 878] (by decide +kernel) (by decide +kernel)
set_option maxRecDepth 20000 in
theorem gL_law_X6_work : GoodIn wsL_law (wsV RL 112 RX6 yX6_work wsX6_work) := goodIn_app (goodIn_of _ (by decide +kernel)) ggL_law_X6_work
set_option maxRecDepth 20000 in
theorem ggL_law_X7_work : GoodIn wsL_law wsX7_work := goodIn_r _ [841, 72, 879, 880, 881, 882, 883, 884, 885, 886, 887, 888, 889, 890, 891, 892, 893, 894] (by decide +kernel) (by decide +kernel)
set_option maxRecDepth 20000 in
theorem gL_law_X7_work : GoodIn wsL_law (wsV RL 115 RX7 yX7_work wsX7_work) := goodIn_app (goodIn_of _ (by decide +kernel)) ggL_law_X7_work
set_option maxRecDepth 20000 in
theorem ggL_law_X6_size : GoodIn wsL_law wsX6_size := goodIn_r _ [845, 25, 546, 873, 874, 875, 876, 877, 878, 899, 900] (by decide +kernel) (by decide +kernel)
set_option maxRecDepth 20000 in
theorem gL_law_X6_size : GoodIn wsL_law (wsV RL 116 RX6 yX6_size wsX6_size) := goodIn_app (goodIn_of _ (by decide +kernel)) ggL_law_X6_size
set_option maxRecDepth 20000 in
theorem ggL_law_X7_size : GoodIn wsL_law wsX7_size := goodIn_r _ [849, 626, 879, 880, 881, 882, 883, 884, 885, 886, 887, 888, 889, 890, 891, 892, 893, 894] (by decide +kernel) (by decide +kernel)
set_option maxRecDepth 20000 in
theorem gL_law_X7_size : GoodIn wsL_law (wsV RL 119 RX7 yX7_size wsX7_size) := goodIn_app (goodIn_of _ (by decide +kernel)) ggL_law_X7_size
set_option maxRecDepth 20000 in
theorem ggL_law_X6_digest : GoodIn wsL_law wsX6_digest := goodIn_r _ [853, 854, 14, 855, 856, 857, 16, 858, 859, 104, 36, 860, 214, 215, 216, 149, 861, 862, 863, 38, 864, 865, 119, 120, 121, 42, 345, 346, 347, 348, 134, 138, 139, 140, 141, 142, 143, 144, 873, 874, 875, 876, 877, 878, 895, 896, 911, 912, 913, 914] (by decide +kernel) (by decide +kernel)
set_option maxRecDepth 20000 in
theorem gL_law_X6_digest : GoodIn wsL_law (wsV RL 120 RX6 yX6_digest wsX6_digest) := goodIn_app (goodIn_of _ (by decide +kernel)) ggL_law_X6_digest
set_option maxRecDepth 20000 in
theorem ggL_law_X7_digest : GoodIn wsL_law wsX7_digest := goodIn_r _ [869, 870, 871, 65, 71, 230, 231, 232, 5, 233, 68, 872, 513, 514, 515, 308, 66, 67, 163, 164, 165, 166, 167, 168, 169, 358, 359, 360, 361, 321, 322, 323, 324, 879, 880, 881, 882, 883, 884, 885, 886, 887, 888, 889, 890, 891, 892, 893, 894] (by decide +kernel) (by decide +kernel)
set_option maxRecDepth 20000 in
theorem gL_law_X7_digest : GoodIn wsL_law (wsV RL 124 RX7 yX7_digest wsX7_digest) := goodIn_app (goodIn_of _ (by decide +kernel)) ggL_law_X7_digest
end
section
abbrev vwCl : List vw_C := [(RX0, TX0, 2), (RX1, TX1, 4), (RX2, TX2, 2), (RX3, TX3, 2), (RX4, TX4, 10), (RX6, TX6, 6), (RX7, TX7, 16)]
/-! THE POOL STATE: addresses, kinds, int fields, reference fields, lengths, rows of ints, of longs, of references -/
abbrev PS : Type := List Nat × (Nat → Nat) × (Nat → Nat → Int32) × (Nat → Nat → Option Nat) × (Nat → Nat) × (Nat → Nat → Int32) × (Nat → Nat → Int64) × (Nat → Nat → Option Nat)
abbrev PS.L (S : PS) : List Nat := S.1
abbrev PS.K (S : PS) : Nat → Nat := S.2.1
abbrev PS.fi (S : PS) : Nat → Nat → Int32 := S.2.2.1
abbrev PS.fr (S : PS) : Nat → Nat → Option Nat := S.2.2.2.1
abbrev PS.ln (S : PS) : Nat → Nat := S.2.2.2.2.1
abbrev PS.ri (S : PS) : Nat → Nat → Int32 := S.2.2.2.2.2.1
abbrev PS.rj (S : PS) : Nat → Nat → Int64 := S.2.2.2.2.2.2.1
abbrev PS.rr (S : PS) : Nat → Nat → Option Nat := S.2.2.2.2.2.2.2
def up2 {α : Type} (f : Nat → Nat → α) (a i : Nat) (v : α) : Nat → Nat → α := va_up f a (va_up (f a) i v)
theorem up2_self {α : Type} (f : Nat → Nat → α) (a i : Nat) (v : α) : up2 f a i v a i = v := by simp [up2, va_up]
theorem up2_ne {α : Type} (f : Nat → Nat → α) {a i b j : Nat} (v : α) (h : b ≠ a ∨ j ≠ i) : up2 f a i v b j = f b j := by
  unfold up2 va_up
  by_cases hb : b = a
  · subst hb
    rcases h with h | h
    · exact absurd rfl h
    · simp [h]
  · simp [hb]
abbrev PS.setI (S : PS) (a i : Nat) (v : Int32) : PS := (S.L, S.K, up2 S.fi a i v, S.fr, S.ln, S.ri, S.rj, S.rr)
abbrev PS.setR (S : PS) (a i : Nat) (v : Option Nat) : PS := (S.L, S.K, S.fi, up2 S.fr a i v, S.ln, S.ri, S.rj, S.rr)
abbrev PS.rowI (S : PS) (a : Nat) (f : Nat → Int32) : PS := (S.L, S.K, S.fi, S.fr, S.ln, va_up S.ri a f, S.rj, S.rr)
abbrev PS.rowJ (S : PS) (a : Nat) (f : Nat → Int64) : PS := (S.L, S.K, S.fi, S.fr, S.ln, S.ri, va_up S.rj a f, S.rr)
abbrev PS.rowR (S : PS) (a : Nat) (f : Nat → Option Nat) : PS := (S.L, S.K, S.fi, S.fr, S.ln, S.ri, S.rj, va_up S.rr a f)
/-- a new object, all its fields blank -/
abbrev PS.newO (S : PS) (a κ : Nat) : PS := (S.L ++ [a], va_up S.K a κ, va_up S.fi a (fun _ => 0), va_up S.fr a (fun _ => none), S.ln, S.ri, S.rj, S.rr)
/-- a new array of n places, all blank -/
abbrev PS.newA (S : PS) (a κ n : Nat) : PS := (S.L ++ [a], va_up S.K a κ, S.fi, S.fr, va_up S.ln a n, va_up S.ri a (fun _ => 0), va_up S.rj a (fun _ => 0), va_up S.rr a (fun _ => none))
/-- which slots of a kind hold references -/
def lay (κ : Nat) : List Bool := match κ with
  | 0 => [true, false]
  | 1 => [false, false, false, true]
  | 2 => [true, false]
  | 3 => [true, false]
  | 4 => [false, false, false, false, false, false, false, false, true, true]
  | 5 => [true, true, true, true, true, false]
  | 6 => [true, true, true, true, true, false, false, true, false, false, false, false, true, true, true, false]
  | _ => []
def fval (S : PS) (a : Nat) : Nat → List Bool → List Value
  | _, [] => []
  | i, b :: bs => (match b with | true => va_rf (S.fr a i) | false => .int (S.fi a i)) :: fval S a (i + 1) bs
def wcell (cy : Nat → ClassId) (S : PS) (a : Nat) : va_E :=
  if S.K a < 7 then .inr (S.K a, fval S a 0 (lay (S.K a)))
  else if S.K a < 9 then .inl (cy (S.K a), S.ln a, .inl (S.ri a))
  else if S.K a = 9 then .inl (cy (S.K a), S.ln a, .inr (.inl (S.rj a)))
  else .inl (cy (S.K a), S.ln a, .inr (.inr (.inr (.inr (S.rr a)))))
abbrev wW (cy : Nat → ClassId) (S : PS) : va_W := va_pl S.L (wcell cy S)
abbrev wty (cy : Nat → ClassId) : List (ClassId × FieldType) := [(cy 7, .byte), (cy 8, .int), (cy 9, .long), (cy 10, .object "RoaringIndex$Container"), (cy 11, .object "RoaringIndex$NumberSet")]
/-- the links between nest mates -/
def NN (U : State) : Prop := va_Nw (.fieldLinkNest "RoaringIndex$Container" 9 "RoaringIndex" "NO_WORDS" "[J" "RoaringIndex") U ∧ va_Nw (.methodLinkNest "RoaringIndex$NumberSet" 17 yX1_init "RoaringIndex") U ∧ va_Nw (.methodLinkNest "RoaringIndex" 29 yX0_init "RoaringIndex") U ∧ va_Nw (.methodLinkNest "RoaringIndex" 36 yX4_init "RoaringIndex") U
theorem NN.warm {s U : State} (hW : s.WarmedH U.vm) (h : NN s) : NN U := ⟨h.1.warmF hW, h.2.1.warmM hW, h.2.2.1.warmM hW, h.2.2.2.warmM hW⟩
theorem NN.same {u U : State} (e : u.vm = U.vm) (h : NN u) : NN U := ⟨h.1.same rfl e, h.2.1.same rfl e, h.2.2.1.same rfl e, h.2.2.2.same rfl e⟩
/-- the array that the static NO_WORDS holds: empty, and not of the world -/
def NwO (nw : Nat) (A : Nat → Prop) (U : State) (H : Heap) : Prop := NN U ∧ va_Z "RoaringIndex" "NO_WORDS" "[J" (.ref nw) A U H ∧ ¬ A nw ∧ ∃ cell : Cell, H[nw]? = some cell ∧ U.isArrayOf cell .long ∧ cell.slots.size = 0
theorem NwO.warm {nw : Nat} {A : Nat → Prop} {u U : State} {H : Heap} (hW : u.WarmedH U.vm) (h : NwO nw A u H) : NwO nw A U H := by
  obtain ⟨h0, h1, h2, c, h3, h4, h5⟩ := h
  exact ⟨h0.warm hW, h1.moved hW.alike, h2, c, h3, State.isArrayOf_alike hW.alike h4, h5⟩
theorem NwO.same {nw : Nat} {A : Nat → Prop} {u U : State} {H : Heap} (e : u.vm = U.vm) (h : NwO nw A u H) : NwO nw A U H := by
  obtain ⟨h0, h1, h2, c, h3, h4, h5⟩ := h
  have hv : u.vm.Alike U.vm := by rw [e]; exact Vm.Alike.refl _
  exact ⟨h0.same e, h1.moved hv, h2, c, h3, State.isArrayOf_alike hv h4, h5⟩
theorem NwO.kept {nw : Nat} {A : Nat → Prop} {U : State} {H H1 : Heap} (h : NwO nw A U H) (hq : ∀ a : Nat, a < H.size → ¬ A a → H1[a]? = H[a]?) : NwO nw A U H1 := by
  obtain ⟨h0, h1, h2, c, h3, h4, h5⟩ := h
  exact ⟨h0, h1.kept hq, h2, c, by rw [hq nw (Array.getElem?_eq_some_iff.mp h3).1 h2]; exact h3, h4, h5⟩
theorem NwO.narrow {nw : Nat} {A B : Nat → Prop} {U : State} {H : Heap} (h : NwO nw A U H) (hAB : ∀ q, B q → A q) : NwO nw B U H :=
  ⟨h.1, h.2.1.narrow hAB, fun z => h.2.2.1 (hAB _ z), h.2.2.2⟩
/-! WHAT IS FIXED while a method runs -/
abbrev Fx : Type := Program × Launch × Env × Room × State × MethodId × Array Value × List Frame × Method × Code × va_G × (Nat → ClassId) × (Nat → Prop) × Heap × Nat
abbrev Fx.p (F : Fx) : Program := F.1
abbrev Fx.l (F : Fx) : Launch := F.2.1
abbrev Fx.e (F : Fx) : Env := F.2.2.1
abbrev Fx.R (F : Fx) : Room := F.2.2.2.1
abbrev Fx.s (F : Fx) : State := F.2.2.2.2.1
abbrev Fx.m (F : Fx) : MethodId := F.2.2.2.2.2.1
abbrev Fx.args (F : Fx) : Array Value := F.2.2.2.2.2.2.1
abbrev Fx.below (F : Fx) : List Frame := F.2.2.2.2.2.2.2.1
abbrev Fx.meth (F : Fx) : Method := F.2.2.2.2.2.2.2.2.1
abbrev Fx.c (F : Fx) : Code := F.2.2.2.2.2.2.2.2.2.1
abbrev Fx.D (F : Fx) : va_G := F.2.2.2.2.2.2.2.2.2.2.1
abbrev Fx.cy (F : Fx) : Nat → ClassId := F.2.2.2.2.2.2.2.2.2.2.2.1
abbrev Fx.A (F : Fx) : Nat → Prop := F.2.2.2.2.2.2.2.2.2.2.2.2.1
abbrev Fx.H0 (F : Fx) : Heap := F.2.2.2.2.2.2.2.2.2.2.2.2.2.1
abbrev Fx.nw (F : Fx) : Nat := F.2.2.2.2.2.2.2.2.2.2.2.2.2.2
def Cx (F : Fx) (cc : ByteArray) (nL : Nat) (own : String) (Ts : List Cond) (ret : Option FieldType) : Prop :=
  F.p.tables.exec = Jvm.exec ∧ F.c.code = cc ∧ F.c.maxLocals = nL ∧ F.s.vm.findClass own = some F.m.cls ∧ (∀ w ∈ Ts, w.before F.args F.s = true) ∧ F.meth.locks = false ∧ va_K F.D vwCl (wty F.cy) F.s ∧ (∀ q, F.H0.size ≤ q → F.A q) ∧ F.meth.sig.returnType = ret ∧ NwO F.nw F.A F.s F.H0 ∧ F.H0 = F.s.heap
def G (F : Fx) (nL : Nat) (S : PS) (kc ks : Nat) (Q : State → Prop) (pc : Nat) (lv : List (Nat × Value)) (st : List Value) : Prop :=
  ∀ (H : Heap) (locs : List Loc) (ls : Array Slot), va_P F.D vwCl (wW F.cy S) H → va_D F.A (wW F.cy S) → va_S F.A F.H0 H locs → lv_has ls nL lv → W F.p F.l F.e F.R F.s F.m F.args F.below F.meth F.c H locs kc ks Q (F0 F.m pc ls st)
/-! LOCALS -/
def lvg : List (Nat × Value) → Nat → Option Value
  | [], _ => none
  | (j, v) :: t, i => if j = i then some v else lvg t i
def lv1 (i : Nat) (v : Value) (lv : List (Nat × Value)) : List (Nat × Value) := (i, v) :: lv.filter (fun q => !(q.1 == i) && !(q.1 + 1 == i && q.2.category == 2))
def lv2 (i : Nat) (v : Value) (lv : List (Nat × Value)) : List (Nat × Value) := (i, v) :: lv.filter (fun q => !(q.1 == i) && (!(q.1 == i + 1) && !(q.1 + 1 == i && q.2.category == 2)))
theorem lvg_mem : ∀ (lv : List (Nat × Value)) (i : Nat) (v : Value), lvg lv i = some v → (i, v) ∈ lv
  | [], _, _, h => by cases h
  | (j, w) :: t, i, v, h => by
    unfold lvg at h
    by_cases hj : j = i
    · rw [if_pos hj] at h
      cases h
      subst hj
      exact List.mem_cons_self
    · rw [if_neg hj] at h
      exact List.mem_cons_of_mem _ (lvg_mem t i v h)
theorem lvg_at {ls : Array Slot} {nL : Nat} {lv : List (Nat × Value)} {i : Nat} {v : Value} (h : lv_has ls nL lv) (hi : lvg lv i = some v) : ls[i]? = some (.val v) := h.2.2 (i, v) (lvg_mem lv i v hi)
theorem lvg_pos : ∀ (lv : List (Nat × Value)) (i : Nat) (v : Value), lvg lv i = some v → ∃ k : Nat, lv[k]? = some (i, v) := fun lv i v h => List.getElem?_of_mem (lvg_mem lv i v h)
/-- the locals may be told as another list of the same meaning -/
def lvsub (lv : List (Nat × Value)) : List (Nat × Value) → Prop
  | [] => True
  | q :: t => lvg lv q.1 = some q.2 ∧ lvsub lv t
theorem lvsub_mem (lv : List (Nat × Value)) : ∀ lv' : List (Nat × Value), lvsub lv lv' → ∀ q ∈ lv', lvg lv q.1 = some q.2
  | [], _, q, hq => by cases hq
  | x :: t, h, q, hq => by
    rcases List.mem_cons.mp hq with e | e
    · rw [e]; exact h.1
    · exact lvsub_mem lv t h.2 q e
theorem g_lv {F : Fx} {nL : Nat} {S : PS} {kc ks : Nat} {Q : State → Prop} {pc : Nat} {lv lv' : List (Nat × Value)} {st : List Value} (h : lvsub lv lv') (k : G F nL S kc ks Q pc lv' st) : G F nL S kc ks Q pc lv st :=
  fun H locs ls hP hD hS hl => k H locs ls hP hD hS ⟨hl.1, hl.2.1, fun q hq => hl.2.2 q (lvg_mem _ _ _ (lvsub_mem lv lv' h q hq))⟩
theorem g_widen {F : Fx} {nL : Nat} {S : PS} {kc ks k2 s2 : Nat} {Q : State → Prop} {pc : Nat} {lv : List (Nat × Value)} {st : List Value} (h1 : kc ≤ k2) (h2 : ks ≤ s2) (k : G F nL S k2 s2 Q pc lv st) : G F nL S kc ks Q pc lv st :=
  fun H locs ls hP hD hS hl => W.widen h1 h2 (k H locs ls hP hD hS hl)
section GR
variable {F : Fx} {cc : ByteArray} {nL : Nat} {own : String} {Ts : List Cond} {ret : Option FieldType} {S : PS} {kc ks : Nat} {Q : State → Prop} {pc : Nat} {lv : List (Nat × Value)} {st : List Value}

theorem g_iconst {n : Int} {v : Int32} (Z : Cx F cc nL own Ts ret) (d : decode cc pc = .ok (.iconst n, 1)) (hv : Int32.ofInt n = v) (k : G F nL S kc ks Q (pc + 1) lv (.int v :: st)) : G F nL S kc ks Q pc lv st := fun H locs ls hP hD hS hl => lv_iconst Z.1 Z.2.1 d hv (k H locs ls hP hD hS hl)
theorem g_bipush {n : Int} {v : Int32} (Z : Cx F cc nL own Ts ret) (d : decode cc pc = .ok (.bipush n, 2)) (hv : (Int8.ofInt n).toInt32 = v) (k : G F nL S kc ks Q (pc + 2) lv (.int v :: st)) : G F nL S kc ks Q pc lv st := fun H locs ls hP hD hS hl => lv_bipush Z.1 Z.2.1 d hv (k H locs ls hP hD hS hl)
theorem g_sipush {n : Int} {v : Int32} (Z : Cx F cc nL own Ts ret) (d : decode cc pc = .ok (.sipush n, 3)) (hv : (Int16.ofInt n).toInt32 = v) (k : G F nL S kc ks Q (pc + 3) lv (.int v :: st)) : G F nL S kc ks Q pc lv st := fun H locs ls hP hD hS hl => lv_sipush Z.1 Z.2.1 d hv (k H locs ls hP hD hS hl)
theorem g_lconst {n : Fin 2} {v : Int64} (Z : Cx F cc nL own Ts ret) (d : decode cc pc = .ok (.lconst n, 1)) (hv : Int64.ofNat (n : Nat) = v) (k : G F nL S kc ks Q (pc + 1) lv (.long v :: st)) : G F nL S kc ks Q pc lv st := fun H locs ls hP hD hS hl => lv_lconst Z.1 Z.2.1 d hv (k H locs ls hP hD hS hl)
theorem g_ldc {ix : Nat} {v : Int32} (Z : Cx F cc nL own Ts ret) (d : decode cc pc = .ok (.ldc ix, 2)) (hc : Cond.constant own ix v ∈ Ts) (k : G F nL S kc ks Q (pc + 2) lv (.int v :: st)) : G F nL S kc ks Q pc lv st := fun H locs ls hP hD hS hl => lv_ldc Z.1 Z.2.1 Z.2.2.2.1 (Z.2.2.2.2.1 _ hc) d (k H locs ls hP hD hS hl)
theorem g_ldcw {ix : Nat} {v : Int32} (Z : Cx F cc nL own Ts ret) (d : decode cc pc = .ok (.ldc_w ix, 3)) (hc : Cond.constant own ix v ∈ Ts) (k : G F nL S kc ks Q (pc + 3) lv (.int v :: st)) : G F nL S kc ks Q pc lv st := fun H locs ls hP hD hS hl => lv_ldcw Z.1 Z.2.1 Z.2.2.2.1 (Z.2.2.2.2.1 _ hc) d (k H locs ls hP hD hS hl)
theorem g_ldc2 {ix : Nat} {v : Int64} (Z : Cx F cc nL own Ts ret) (d : decode cc pc = .ok (.ldc2_w ix, 3)) (hc : Cond.constantLong own ix v ∈ Ts) (k : G F nL S kc ks Q (pc + 3) lv (.long v :: st)) : G F nL S kc ks Q pc lv st := fun H locs ls hP hD hS hl => lv_ldc2 Z.1 Z.2.1 Z.2.2.2.1 (Z.2.2.2.2.1 _ hc) d (k H locs ls hP hD hS hl)
theorem g_iload_n {k : Fin 4} {x : Int32} (Z : Cx F cc nL own Ts ret) (d : decode cc pc = .ok (.iload_n k, 1)) (hv : lvg lv (k : Nat) = some (.int x)) (kk : G F nL S kc ks Q (pc + 1) lv (.int x :: st)) : G F nL S kc ks Q pc lv st := fun H locs ls hP hD hS hl => lv_iload_n Z.1 Z.2.1 d rfl (lvg_at hl hv) (kk H locs ls hP hD hS hl)
theorem g_iload {i : Nat} {x : Int32} (Z : Cx F cc nL own Ts ret) (d : decode cc pc = .ok (.iload i, 2)) (hv : lvg lv i = some (.int x)) (kk : G F nL S kc ks Q (pc + 2) lv (.int x :: st)) : G F nL S kc ks Q pc lv st := fun H locs ls hP hD hS hl => lv_iload Z.1 Z.2.1 d (lvg_at hl hv) (kk H locs ls hP hD hS hl)
theorem g_lload_n {k : Fin 4} {x : Int64} (Z : Cx F cc nL own Ts ret) (d : decode cc pc = .ok (.lload_n k, 1)) (hv : lvg lv (k : Nat) = some (.long x)) (kk : G F nL S kc ks Q (pc + 1) lv (.long x :: st)) : G F nL S kc ks Q pc lv st := fun H locs ls hP hD hS hl => lv_lload_n Z.1 Z.2.1 d rfl (lvg_at hl hv) (kk H locs ls hP hD hS hl)
theorem g_lload {i : Nat} {x : Int64} (Z : Cx F cc nL own Ts ret) (d : decode cc pc = .ok (.lload i, 2)) (hv : lvg lv i = some (.long x)) (kk : G F nL S kc ks Q (pc + 2) lv (.long x :: st)) : G F nL S kc ks Q pc lv st := fun H locs ls hP hD hS hl => lv_lload Z.1 Z.2.1 d (lvg_at hl hv) (kk H locs ls hP hD hS hl)
theorem g_aload_n {k : Fin 4} {x : Nat} (Z : Cx F cc nL own Ts ret) (d : decode cc pc = .ok (.aload_n k, 1)) (hv : lvg lv (k : Nat) = some (.ref x)) (kk : G F nL S kc ks Q (pc + 1) lv (.ref x :: st)) : G F nL S kc ks Q pc lv st := fun H locs ls hP hD hS hl => lv_aload_n Z.1 Z.2.1 d rfl (lvg_at hl hv) (kk H locs ls hP hD hS hl)
theorem g_aload {i : Nat} {x : Nat} (Z : Cx F cc nL own Ts ret) (d : decode cc pc = .ok (.aload i, 2)) (hv : lvg lv i = some (.ref x)) (kk : G F nL S kc ks Q (pc + 2) lv (.ref x :: st)) : G F nL S kc ks Q pc lv st := fun H locs ls hP hD hS hl => lv_aload Z.1 Z.2.1 d (lvg_at hl hv) (kk H locs ls hP hD hS hl)
theorem g_istore_n {k : Fin 4} {x : Int32} (Z : Cx F cc nL own Ts ret) (d : decode cc pc = .ok (.istore_n k, 1)) (hn : (k : Nat) < nL) (kk : G F nL S kc ks Q (pc + 1) (lv1 (k : Nat) (.int x) lv) st) : G F nL S kc ks Q pc lv (.int x :: st) := fun H locs ls hP hD hS hl => lv_istore_n Z.1 Z.2.1 d rfl hl hn rfl (fun ls' hl' => kk H locs ls' hP hD hS hl')
theorem g_istore {i : Nat} {x : Int32} (Z : Cx F cc nL own Ts ret) (d : decode cc pc = .ok (.istore i, 2)) (hn : i < nL) (kk : G F nL S kc ks Q (pc + 2) (lv1 i (.int x) lv) st) : G F nL S kc ks Q pc lv (.int x :: st) := fun H locs ls hP hD hS hl => lv_istore Z.1 Z.2.1 d hl hn rfl (fun ls' hl' => kk H locs ls' hP hD hS hl')
theorem g_lstore_n {k : Fin 4} {x : Int64} (Z : Cx F cc nL own Ts ret) (d : decode cc pc = .ok (.lstore_n k, 1)) (hn : (k : Nat) + 1 < nL) (kk : G F nL S kc ks Q (pc + 1) (lv2 (k : Nat) (.long x) lv) st) : G F nL S kc ks Q pc lv (.long x :: st) := fun H locs ls hP hD hS hl => lv_lstore_n Z.1 Z.2.1 d rfl hl hn rfl (fun ls' hl' => kk H locs ls' hP hD hS hl')
theorem g_lstore {i : Nat} {x : Int64} (Z : Cx F cc nL own Ts ret) (d : decode cc pc = .ok (.lstore i, 2)) (hn : i + 1 < nL) (kk : G F nL S kc ks Q (pc + 2) (lv2 i (.long x) lv) st) : G F nL S kc ks Q pc lv (.long x :: st) := fun H locs ls hP hD hS hl => lv_lstore Z.1 Z.2.1 d hl hn rfl (fun ls' hl' => kk H locs ls' hP hD hS hl')
theorem g_astore_n {k : Fin 4} {x : Nat} (Z : Cx F cc nL own Ts ret) (d : decode cc pc = .ok (.astore_n k, 1)) (hn : (k : Nat) < nL) (kk : G F nL S kc ks Q (pc + 1) (lv1 (k : Nat) (.ref x) lv) st) : G F nL S kc ks Q pc lv (.ref x :: st) := fun H locs ls hP hD hS hl => lv_astore_n Z.1 Z.2.1 d rfl hl hn rfl (fun ls' hl' => kk H locs ls' hP hD hS hl')
theorem g_astore {i : Nat} {x : Nat} (Z : Cx F cc nL own Ts ret) (d : decode cc pc = .ok (.astore i, 2)) (hn : i < nL) (kk : G F nL S kc ks Q (pc + 2) (lv1 i (.ref x) lv) st) : G F nL S kc ks Q pc lv (.ref x :: st) := fun H locs ls hP hD hS hl => lv_astore Z.1 Z.2.1 d hl hn rfl (fun ls' hl' => kk H locs ls' hP hD hS hl')
theorem g_astore_nN {k : Fin 4} (Z : Cx F cc nL own Ts ret) (d : decode cc pc = .ok (.astore_n k, 1)) (hn : (k : Nat) < nL) (kk : G F nL S kc ks Q (pc + 1) (lv1 (k : Nat) .null lv) st) : G F nL S kc ks Q pc lv (.null :: st) := fun H locs ls hP hD hS hl => lv_astore_nN Z.1 Z.2.1 d rfl hl hn rfl (fun ls' hl' => kk H locs ls' hP hD hS hl')
theorem g_aload_nN {k : Fin 4} (Z : Cx F cc nL own Ts ret) (d : decode cc pc = .ok (.aload_n k, 1)) (hv : lvg lv (k : Nat) = some .null) (kk : G F nL S kc ks Q (pc + 1) lv (.null :: st)) : G F nL S kc ks Q pc lv st := fun H locs ls hP hD hS hl => lv_aload_nN Z.1 Z.2.1 d rfl (lvg_at hl hv) (kk H locs ls hP hD hS hl)
theorem g_iinc {i : Nat} {n : Int} {x c : Int32} (Z : Cx F cc nL own Ts ret) (d : decode cc pc = .ok (.iinc i n, 3)) (hx : lvg lv i = some (.int x)) (hc : Int32.ofInt n = c) (hn : i < nL) (kk : G F nL S kc ks Q (pc + 3) (lv1 i (.int (x + c)) lv) st) : G F nL S kc ks Q pc lv st := fun H locs ls hP hD hS hl => by obtain ⟨j, hj⟩ := lvg_pos _ _ _ hx; exact lv_iinc Z.1 Z.2.1 d hl hj (by rw [hc]) hn rfl (fun ls' hl' => kk H locs ls' hP hD hS hl')
theorem g_iadd {x y : Int32} (Z : Cx F cc nL own Ts ret) (d : decode cc pc = .ok (.iadd, 1))  (k : G F nL S kc ks Q (pc + 1) lv (.int (x + y) :: st)) : G F nL S kc ks Q pc lv (.int y :: .int x :: st) := fun H locs ls hP hD hS hl => lv_iadd Z.1 Z.2.1 d  (k H locs ls hP hD hS hl)
theorem g_isub {x y : Int32} (Z : Cx F cc nL own Ts ret) (d : decode cc pc = .ok (.isub, 1))  (k : G F nL S kc ks Q (pc + 1) lv (.int (x - y) :: st)) : G F nL S kc ks Q pc lv (.int y :: .int x :: st) := fun H locs ls hP hD hS hl => lv_isub Z.1 Z.2.1 d  (k H locs ls hP hD hS hl)
theorem g_imul {x y : Int32} (Z : Cx F cc nL own Ts ret) (d : decode cc pc = .ok (.imul, 1))  (k : G F nL S kc ks Q (pc + 1) lv (.int (x * y) :: st)) : G F nL S kc ks Q pc lv (.int y :: .int x :: st) := fun H locs ls hP hD hS hl => lv_imul Z.1 Z.2.1 d  (k H locs ls hP hD hS hl)
theorem g_iand {x y : Int32} (Z : Cx F cc nL own Ts ret) (d : decode cc pc = .ok (.iand, 1))  (k : G F nL S kc ks Q (pc + 1) lv (.int (x &&& y) :: st)) : G F nL S kc ks Q pc lv (.int y :: .int x :: st) := fun H locs ls hP hD hS hl => lv_iand Z.1 Z.2.1 d  (k H locs ls hP hD hS hl)
theorem g_ior {x y : Int32} (Z : Cx F cc nL own Ts ret) (d : decode cc pc = .ok (.ior, 1))  (k : G F nL S kc ks Q (pc + 1) lv (.int (x ||| y) :: st)) : G F nL S kc ks Q pc lv (.int y :: .int x :: st) := fun H locs ls hP hD hS hl => lv_ior Z.1 Z.2.1 d  (k H locs ls hP hD hS hl)
theorem g_ixor {x y : Int32} (Z : Cx F cc nL own Ts ret) (d : decode cc pc = .ok (.ixor, 1))  (k : G F nL S kc ks Q (pc + 1) lv (.int (x ^^^ y) :: st)) : G F nL S kc ks Q pc lv (.int y :: .int x :: st) := fun H locs ls hP hD hS hl => lv_ixor Z.1 Z.2.1 d  (k H locs ls hP hD hS hl)
theorem g_ladd {x y : Int64} (Z : Cx F cc nL own Ts ret) (d : decode cc pc = .ok (.ladd, 1))  (k : G F nL S kc ks Q (pc + 1) lv (.long (x + y) :: st)) : G F nL S kc ks Q pc lv (.long y :: .long x :: st) := fun H locs ls hP hD hS hl => lv_ladd Z.1 Z.2.1 d  (k H locs ls hP hD hS hl)
theorem g_lsub {x y : Int64} (Z : Cx F cc nL own Ts ret) (d : decode cc pc = .ok (.lsub, 1))  (k : G F nL S kc ks Q (pc + 1) lv (.long (x - y) :: st)) : G F nL S kc ks Q pc lv (.long y :: .long x :: st) := fun H locs ls hP hD hS hl => lv_lsub Z.1 Z.2.1 d  (k H locs ls hP hD hS hl)
theorem g_lmul {x y : Int64} (Z : Cx F cc nL own Ts ret) (d : decode cc pc = .ok (.lmul, 1))  (k : G F nL S kc ks Q (pc + 1) lv (.long (x * y) :: st)) : G F nL S kc ks Q pc lv (.long y :: .long x :: st) := fun H locs ls hP hD hS hl => lv_lmul Z.1 Z.2.1 d  (k H locs ls hP hD hS hl)
theorem g_land {x y : Int64} (Z : Cx F cc nL own Ts ret) (d : decode cc pc = .ok (.land, 1))  (k : G F nL S kc ks Q (pc + 1) lv (.long (x &&& y) :: st)) : G F nL S kc ks Q pc lv (.long y :: .long x :: st) := fun H locs ls hP hD hS hl => lv_land Z.1 Z.2.1 d  (k H locs ls hP hD hS hl)
theorem g_lor {x y : Int64} (Z : Cx F cc nL own Ts ret) (d : decode cc pc = .ok (.lor, 1))  (k : G F nL S kc ks Q (pc + 1) lv (.long (x ||| y) :: st)) : G F nL S kc ks Q pc lv (.long y :: .long x :: st) := fun H locs ls hP hD hS hl => lv_lor Z.1 Z.2.1 d  (k H locs ls hP hD hS hl)
theorem g_lxor {x y : Int64} (Z : Cx F cc nL own Ts ret) (d : decode cc pc = .ok (.lxor, 1))  (k : G F nL S kc ks Q (pc + 1) lv (.long (x ^^^ y) :: st)) : G F nL S kc ks Q pc lv (.long y :: .long x :: st) := fun H locs ls hP hD hS hl => lv_lxor Z.1 Z.2.1 d  (k H locs ls hP hD hS hl)
theorem g_idiv {x y : Int32} (Z : Cx F cc nL own Ts ret) (d : decode cc pc = .ok (.idiv, 1)) (hne : ¬ y = 0) (k : G F nL S kc ks Q (pc + 1) lv (.int (x / y) :: st)) : G F nL S kc ks Q pc lv (.int y :: .int x :: st) := fun H locs ls hP hD hS hl => lv_idiv Z.1 Z.2.1 d hne (k H locs ls hP hD hS hl)
theorem g_irem {x y : Int32} (Z : Cx F cc nL own Ts ret) (d : decode cc pc = .ok (.irem, 1)) (hne : ¬ y = 0) (k : G F nL S kc ks Q (pc + 1) lv (.int (x - x / y * y) :: st)) : G F nL S kc ks Q pc lv (.int y :: .int x :: st) := fun H locs ls hP hD hS hl => lv_irem Z.1 Z.2.1 d hne (k H locs ls hP hD hS hl)
theorem g_ldiv {x y : Int64} (Z : Cx F cc nL own Ts ret) (d : decode cc pc = .ok (.ldiv, 1)) (hne : ¬ y = 0) (k : G F nL S kc ks Q (pc + 1) lv (.long (x / y) :: st)) : G F nL S kc ks Q pc lv (.long y :: .long x :: st) := fun H locs ls hP hD hS hl => lv_ldiv Z.1 Z.2.1 d hne (k H locs ls hP hD hS hl)
theorem g_lrem {x y : Int64} (Z : Cx F cc nL own Ts ret) (d : decode cc pc = .ok (.lrem, 1)) (hne : ¬ y = 0) (k : G F nL S kc ks Q (pc + 1) lv (.long (x - x / y * y) :: st)) : G F nL S kc ks Q pc lv (.long y :: .long x :: st) := fun H locs ls hP hD hS hl => lv_lrem Z.1 Z.2.1 d hne (k H locs ls hP hD hS hl)
theorem g_ishl {x y : Int32} (Z : Cx F cc nL own Ts ret) (d : decode cc pc = .ok (.ishl, 1))  (k : G F nL S kc ks Q (pc + 1) lv (.int (x <<< (y &&& 31)) :: st)) : G F nL S kc ks Q pc lv (.int y :: .int x :: st) := fun H locs ls hP hD hS hl => lv_ishl Z.1 Z.2.1 d  (k H locs ls hP hD hS hl)
theorem g_ishr {x y : Int32} (Z : Cx F cc nL own Ts ret) (d : decode cc pc = .ok (.ishr, 1))  (k : G F nL S kc ks Q (pc + 1) lv (.int (x >>> (y &&& 31)) :: st)) : G F nL S kc ks Q pc lv (.int y :: .int x :: st) := fun H locs ls hP hD hS hl => lv_ishr Z.1 Z.2.1 d  (k H locs ls hP hD hS hl)
theorem g_iushr {x y : Int32} (Z : Cx F cc nL own Ts ret) (d : decode cc pc = .ok (.iushr, 1))  (k : G F nL S kc ks Q (pc + 1) lv (.int (x.toUInt32 >>> (y.toUInt32 &&& Int32.toUInt32 31)).toInt32 :: st)) : G F nL S kc ks Q pc lv (.int y :: .int x :: st) := fun H locs ls hP hD hS hl => lv_iushr Z.1 Z.2.1 d rfl (k H locs ls hP hD hS hl)
theorem g_lushr {x : Int64} {y : Int32} (Z : Cx F cc nL own Ts ret) (d : decode cc pc = .ok (.lushr, 1))  (k : G F nL S kc ks Q (pc + 1) lv (.long (x.toUInt64 >>> (y.toInt64.toUInt64 &&& Int64.toUInt64 63)).toInt64 :: st)) : G F nL S kc ks Q pc lv (.int y :: .long x :: st) := fun H locs ls hP hD hS hl => lv_lushr Z.1 Z.2.1 d rfl (k H locs ls hP hD hS hl)
theorem g_lshl {x : Int64} {y : Int32} (Z : Cx F cc nL own Ts ret) (d : decode cc pc = .ok (.lshl, 1))  (k : G F nL S kc ks Q (pc + 1) lv (.long (x <<< (y.toInt64 &&& 63)) :: st)) : G F nL S kc ks Q pc lv (.int y :: .long x :: st) := fun H locs ls hP hD hS hl => lv_lshl Z.1 Z.2.1 d rfl (k H locs ls hP hD hS hl)
theorem g_i2l {x : Int32} (Z : Cx F cc nL own Ts ret) (d : decode cc pc = .ok (.i2l, 1))  (k : G F nL S kc ks Q (pc + 1) lv (.long x.toInt64 :: st)) : G F nL S kc ks Q pc lv (.int x :: st) := fun H locs ls hP hD hS hl => lv_i2l Z.1 Z.2.1 d rfl (k H locs ls hP hD hS hl)
theorem g_l2i {x : Int64} (Z : Cx F cc nL own Ts ret) (d : decode cc pc = .ok (.l2i, 1))  (k : G F nL S kc ks Q (pc + 1) lv (.int x.toInt32 :: st)) : G F nL S kc ks Q pc lv (.long x :: st) := fun H locs ls hP hD hS hl => lv_l2i Z.1 Z.2.1 d rfl (k H locs ls hP hD hS hl)
theorem g_i2b {x : Int32} (Z : Cx F cc nL own Ts ret) (d : decode cc pc = .ok (.i2b, 1))  (k : G F nL S kc ks Q (pc + 1) lv (.int x.toInt8.toInt32 :: st)) : G F nL S kc ks Q pc lv (.int x :: st) := fun H locs ls hP hD hS hl => lv_i2b Z.1 Z.2.1 d rfl (k H locs ls hP hD hS hl)
theorem g_lcmp {x y : Int64} (Z : Cx F cc nL own Ts ret) (d : decode cc pc = .ok (.lcmp, 1))  (k : G F nL S kc ks Q (pc + 1) lv (.int (lg_cmp x y) :: st)) : G F nL S kc ks Q pc lv (.long y :: .long x :: st) := fun H locs ls hP hD hS hl => W.lcmp Z.1 Z.2.1 d  (k H locs ls hP hD hS hl)
theorem g_dup {va : Value} (Z : Cx F cc nL own Ts ret) (d : decode cc pc = .ok (.dup, 1)) (h1 : va.category = 1) (k : G F nL S kc ks Q (pc + 1) lv (va :: va :: st)) : G F nL S kc ks Q pc lv (va :: st) := fun H locs ls hP hD hS hl => lv_dup Z.1 Z.2.1 d h1 (k H locs ls hP hD hS hl)
theorem g_pop {va : Value} (Z : Cx F cc nL own Ts ret) (d : decode cc pc = .ok (.pop, 1)) (h1 : va.category = 1) (k : G F nL S kc ks Q (pc + 1) lv st) : G F nL S kc ks Q pc lv (va :: st) := fun H locs ls hP hD hS hl => lv_pop Z.1 Z.2.1 d h1 (k H locs ls hP hD hS hl)
theorem g_pop2 {va : Value} (Z : Cx F cc nL own Ts ret) (d : decode cc pc = .ok (.pop2, 1)) (h1 : va.category = 2) (k : G F nL S kc ks Q (pc + 1) lv st) : G F nL S kc ks Q pc lv (va :: st) := fun H locs ls hP hD hS hl => lv_pop2_2 Z.1 Z.2.1 d h1 (k H locs ls hP hD hS hl)
theorem g_dup2 {va vb : Value} (Z : Cx F cc nL own Ts ret) (d : decode cc pc = .ok (.dup2, 1)) (h1 : va.category = 1) (h2 : vb.category = 1) (k : G F nL S kc ks Q (pc + 1) lv (va :: vb :: va :: vb :: st)) : G F nL S kc ks Q pc lv (va :: vb :: st) := fun H locs ls hP hD hS hl => lv_dup2_11 Z.1 Z.2.1 d h1 h2 (k H locs ls hP hD hS hl)
theorem g_dup_x1 {va vb : Value} (Z : Cx F cc nL own Ts ret) (d : decode cc pc = .ok (.dup_x1, 1)) (h1 : va.category = 1) (h2 : vb.category = 1) (k : G F nL S kc ks Q (pc + 1) lv (va :: vb :: va :: st)) : G F nL S kc ks Q pc lv (va :: vb :: st) := fun H locs ls hP hD hS hl => lv_dup_x1 Z.1 Z.2.1 d h1 h2 (k H locs ls hP hD hS hl)
theorem g_null  (Z : Cx F cc nL own Ts ret) (d : decode cc pc = .ok (.aconst_null, 1))  (k : G F nL S kc ks Q (pc + 1) lv (.null :: st)) : G F nL S kc ks Q pc lv st := fun H locs ls hP hD hS hl => lv_null Z.1 Z.2.1 d  (k H locs ls hP hD hS hl)
theorem g_if_eq {x : Int32} {off : Int} (Z : Cx F cc nL own Ts ret) (tgt : Nat) (d : decode cc pc = .ok (.ifCond .eq off, 3)) (ht : (pc : Int) + off = (tgt : Int)) (kt : x = 0 → G F nL S kc ks Q tgt lv st) (kf : ¬ x = 0 → G F nL S kc ks Q (pc + 3) lv st) : G F nL S kc ks Q pc lv (.int x :: st) := fun H locs ls hP hD hS hl => lv_if_eq Z.1 Z.2.1 d ht (fun h => kt h H locs ls hP hD hS hl) (fun h => kf h H locs ls hP hD hS hl)
theorem g_icmp_eq {x y : Int32} {off : Int} (Z : Cx F cc nL own Ts ret) (tgt : Nat) (d : decode cc pc = .ok (.if_icmp .eq off, 3)) (ht : (pc : Int) + off = (tgt : Int)) (kt : x = y → G F nL S kc ks Q tgt lv st) (kf : ¬ x = y → G F nL S kc ks Q (pc + 3) lv st) : G F nL S kc ks Q pc lv (.int y :: .int x :: st) := fun H locs ls hP hD hS hl => lv_icmp_eq Z.1 Z.2.1 d ht (fun h => kt h H locs ls hP hD hS hl) (fun h => kf h H locs ls hP hD hS hl)
theorem g_if_ne {x : Int32} {off : Int} (Z : Cx F cc nL own Ts ret) (tgt : Nat) (d : decode cc pc = .ok (.ifCond .ne off, 3)) (ht : (pc : Int) + off = (tgt : Int)) (kt : ¬ x = 0 → G F nL S kc ks Q tgt lv st) (kf : x = 0 → G F nL S kc ks Q (pc + 3) lv st) : G F nL S kc ks Q pc lv (.int x :: st) := fun H locs ls hP hD hS hl => lv_if_ne Z.1 Z.2.1 d ht (fun h => kt h H locs ls hP hD hS hl) (fun h => kf h H locs ls hP hD hS hl)
theorem g_icmp_ne {x y : Int32} {off : Int} (Z : Cx F cc nL own Ts ret) (tgt : Nat) (d : decode cc pc = .ok (.if_icmp .ne off, 3)) (ht : (pc : Int) + off = (tgt : Int)) (kt : ¬ x = y → G F nL S kc ks Q tgt lv st) (kf : x = y → G F nL S kc ks Q (pc + 3) lv st) : G F nL S kc ks Q pc lv (.int y :: .int x :: st) := fun H locs ls hP hD hS hl => lv_icmp_ne Z.1 Z.2.1 d ht (fun h => kt h H locs ls hP hD hS hl) (fun h => kf h H locs ls hP hD hS hl)
theorem g_if_lt {x : Int32} {off : Int} (Z : Cx F cc nL own Ts ret) (tgt : Nat) (d : decode cc pc = .ok (.ifCond .lt off, 3)) (ht : (pc : Int) + off = (tgt : Int)) (kt : x < 0 → G F nL S kc ks Q tgt lv st) (kf : ¬ x < 0 → G F nL S kc ks Q (pc + 3) lv st) : G F nL S kc ks Q pc lv (.int x :: st) := fun H locs ls hP hD hS hl => lv_if_lt Z.1 Z.2.1 d ht (fun h => kt h H locs ls hP hD hS hl) (fun h => kf h H locs ls hP hD hS hl)
theorem g_icmp_lt {x y : Int32} {off : Int} (Z : Cx F cc nL own Ts ret) (tgt : Nat) (d : decode cc pc = .ok (.if_icmp .lt off, 3)) (ht : (pc : Int) + off = (tgt : Int)) (kt : x < y → G F nL S kc ks Q tgt lv st) (kf : ¬ x < y → G F nL S kc ks Q (pc + 3) lv st) : G F nL S kc ks Q pc lv (.int y :: .int x :: st) := fun H locs ls hP hD hS hl => lv_icmp_lt Z.1 Z.2.1 d ht (fun h => kt h H locs ls hP hD hS hl) (fun h => kf h H locs ls hP hD hS hl)
theorem g_if_ge {x : Int32} {off : Int} (Z : Cx F cc nL own Ts ret) (tgt : Nat) (d : decode cc pc = .ok (.ifCond .ge off, 3)) (ht : (pc : Int) + off = (tgt : Int)) (kt : 0 ≤ x → G F nL S kc ks Q tgt lv st) (kf : ¬ 0 ≤ x → G F nL S kc ks Q (pc + 3) lv st) : G F nL S kc ks Q pc lv (.int x :: st) := fun H locs ls hP hD hS hl => lv_if_ge Z.1 Z.2.1 d ht (fun h => kt h H locs ls hP hD hS hl) (fun h => kf h H locs ls hP hD hS hl)
theorem g_icmp_ge {x y : Int32} {off : Int} (Z : Cx F cc nL own Ts ret) (tgt : Nat) (d : decode cc pc = .ok (.if_icmp .ge off, 3)) (ht : (pc : Int) + off = (tgt : Int)) (kt : y ≤ x → G F nL S kc ks Q tgt lv st) (kf : ¬ y ≤ x → G F nL S kc ks Q (pc + 3) lv st) : G F nL S kc ks Q pc lv (.int y :: .int x :: st) := fun H locs ls hP hD hS hl => lv_icmp_ge Z.1 Z.2.1 d ht (fun h => kt h H locs ls hP hD hS hl) (fun h => kf h H locs ls hP hD hS hl)
theorem g_if_gt {x : Int32} {off : Int} (Z : Cx F cc nL own Ts ret) (tgt : Nat) (d : decode cc pc = .ok (.ifCond .gt off, 3)) (ht : (pc : Int) + off = (tgt : Int)) (kt : 0 < x → G F nL S kc ks Q tgt lv st) (kf : ¬ 0 < x → G F nL S kc ks Q (pc + 3) lv st) : G F nL S kc ks Q pc lv (.int x :: st) := fun H locs ls hP hD hS hl => lv_if_gt Z.1 Z.2.1 d ht (fun h => kt h H locs ls hP hD hS hl) (fun h => kf h H locs ls hP hD hS hl)
theorem g_icmp_gt {x y : Int32} {off : Int} (Z : Cx F cc nL own Ts ret) (tgt : Nat) (d : decode cc pc = .ok (.if_icmp .gt off, 3)) (ht : (pc : Int) + off = (tgt : Int)) (kt : y < x → G F nL S kc ks Q tgt lv st) (kf : ¬ y < x → G F nL S kc ks Q (pc + 3) lv st) : G F nL S kc ks Q pc lv (.int y :: .int x :: st) := fun H locs ls hP hD hS hl => lv_icmp_gt Z.1 Z.2.1 d ht (fun h => kt h H locs ls hP hD hS hl) (fun h => kf h H locs ls hP hD hS hl)
theorem g_if_le {x : Int32} {off : Int} (Z : Cx F cc nL own Ts ret) (tgt : Nat) (d : decode cc pc = .ok (.ifCond .le off, 3)) (ht : (pc : Int) + off = (tgt : Int)) (kt : x ≤ 0 → G F nL S kc ks Q tgt lv st) (kf : ¬ x ≤ 0 → G F nL S kc ks Q (pc + 3) lv st) : G F nL S kc ks Q pc lv (.int x :: st) := fun H locs ls hP hD hS hl => lv_if_le Z.1 Z.2.1 d ht (fun h => kt h H locs ls hP hD hS hl) (fun h => kf h H locs ls hP hD hS hl)
theorem g_icmp_le {x y : Int32} {off : Int} (Z : Cx F cc nL own Ts ret) (tgt : Nat) (d : decode cc pc = .ok (.if_icmp .le off, 3)) (ht : (pc : Int) + off = (tgt : Int)) (kt : x ≤ y → G F nL S kc ks Q tgt lv st) (kf : ¬ x ≤ y → G F nL S kc ks Q (pc + 3) lv st) : G F nL S kc ks Q pc lv (.int y :: .int x :: st) := fun H locs ls hP hD hS hl => lv_icmp_le Z.1 Z.2.1 d ht (fun h => kt h H locs ls hP hD hS hl) (fun h => kf h H locs ls hP hD hS hl)
theorem g_goto {off : Int} (Z : Cx F cc nL own Ts ret) (tgt : Nat) (d : decode cc pc = .ok (.goto off, 3)) (ht : (pc : Int) + off = (tgt : Int)) (k : G F nL S kc ks Q tgt lv st) : G F nL S kc ks Q pc lv st := fun H locs ls hP hD hS hl => lv_goto Z.1 Z.2.1 d ht (k H locs ls hP hD hS hl)
theorem g_ifnonnull {x : Nat} {off : Int} (Z : Cx F cc nL own Ts ret) (tgt : Nat) (d : decode cc pc = .ok (.ifnonnull off, 3)) (ht : (pc : Int) + off = (tgt : Int)) (k : G F nL S kc ks Q tgt lv st) : G F nL S kc ks Q pc lv (.ref x :: st) := fun H locs ls hP hD hS hl => lv_ifnonnull Z.1 Z.2.1 d ht (k H locs ls hP hD hS hl)
theorem g_ifnull {x : Nat} {off : Int} (Z : Cx F cc nL own Ts ret) (d : decode cc pc = .ok (.ifnull off, 3)) (k : G F nL S kc ks Q (pc + 3) lv st) : G F nL S kc ks Q pc lv (.ref x :: st) := fun H locs ls hP hD hS hl => lv_ifnull Z.1 Z.2.1 d (k H locs ls hP hD hS hl)
theorem g_ifnullN {off : Int} (Z : Cx F cc nL own Ts ret) (tgt : Nat) (d : decode cc pc = .ok (.ifnull off, 3)) (ht : (pc : Int) + off = (tgt : Int)) (k : G F nL S kc ks Q tgt lv st) : G F nL S kc ks Q pc lv (.null :: st) := fun H locs ls hP hD hS hl => lv_ifnullN Z.1 Z.2.1 d ht (k H locs ls hP hD hS hl)
theorem g_ifnonnullN {off : Int} (Z : Cx F cc nL own Ts ret) (d : decode cc pc = .ok (.ifnonnull off, 3)) (k : G F nL S kc ks Q (pc + 3) lv st) : G F nL S kc ks Q pc lv (.null :: st) := fun H locs ls hP hD hS hl => lv_ifnonnullN Z.1 Z.2.1 d (k H locs ls hP hD hS hl)
theorem g_tableIn {dflt lo hi : Int} {offs : Array Int} {len : Nat} {x : Int32} {off : Int} (Z : Cx F cc nL own Ts ret) (tgt : Nat) (d : decode cc pc = .ok (.tableswitch dflt lo hi offs, len)) (h1 : ¬ x.toInt < lo) (h2 : ¬ hi < x.toInt) (ho : offs[(x.toInt - lo).toNat]? = some off) (ht : (pc : Int) + off = (tgt : Int)) (k : G F nL S kc ks Q tgt lv st) : G F nL S kc ks Q pc lv (.int x :: st) := fun H locs ls hP hD hS hl => lv_tableIn Z.1 Z.2.1 d h1 h2 ho ht (k H locs ls hP hD hS hl)
theorem g_tableOut {dflt lo hi : Int} {offs : Array Int} {len : Nat} {x : Int32} (Z : Cx F cc nL own Ts ret) (tgt : Nat) (d : decode cc pc = .ok (.tableswitch dflt lo hi offs, len)) (h : x.toInt < lo ∨ hi < x.toInt) (ht : (pc : Int) + dflt = (tgt : Int)) (k : G F nL S kc ks Q tgt lv st) : G F nL S kc ks Q pc lv (.int x :: st) := fun H locs ls hP hD hS hl => lv_tableOut Z.1 Z.2.1 d h ht (k H locs ls hP hD hS hl)
theorem g_lookup {dflt : Int} {ps : Array (Int × Int)} {len : Nat} {x : Int32} {off : Int} (Z : Cx F cc nL own Ts ret) (tgt : Nat) (d : decode cc pc = .ok (.lookupswitch dflt ps, len)) (hp : (ps.toList.zip (ps.toList.drop 1)).all (fun (a, next) => a.1 < next.1) = true) (ho : Op.lookupswitch.offset ps.toList dflt x.toInt = off) (ht : (pc : Int) + off = (tgt : Int)) (k : G F nL S kc ks Q tgt lv st) : G F nL S kc ks Q pc lv (.int x :: st) := fun H locs ls hP hD hS hl => lv_lookup Z.1 Z.2.1 d hp ho ht (k H locs ls hP hD hS hl)
end GR
end
section
theorem fval_get (S : PS) (a : Nat) : ∀ (bs : List Bool) (j i : Nat), (fval S a j bs)[i]? = (bs[i]?).map (fun b => match b with | true => va_rf (S.fr a (j + i)) | false => .int (S.fi a (j + i)))
  | [], j, i => by simp [fval]
  | b :: bs, j, 0 => by cases b <;> simp [fval]
  | b :: bs, j, i + 1 => by
    simp only [fval, List.getElem?_cons_succ]
    rw [fval_get S a bs (j + 1) i, show j + 1 + i = j + (i + 1) by omega]
theorem fval_len (S : PS) (a : Nat) : ∀ (bs : List Bool) (j : Nat), (fval S a j bs).length = bs.length
  | [], _ => rfl
  | _ :: bs, j => by simp only [fval, List.length_cons]; rw [fval_len S a bs (j + 1)]
theorem fval_ext (S T : PS) (a : Nat) (bs : List Bool) (h1 : S.fr a = T.fr a) (h2 : S.fi a = T.fi a) : fval S a 0 bs = fval T a 0 bs := by
  apply List.ext_getElem?
  intro i
  rw [fval_get, fval_get, h1, h2]
theorem fval_setI (S : PS) (a i : Nat) (v : Int32) (bs : List Bool) (h : bs[i]? = some false) : (fval S a 0 bs).set i (.int v) = fval (S.setI a i v) a 0 bs := by
  have hl : i < bs.length := (List.getElem?_eq_some_iff.mp h).1
  apply List.ext_getElem?
  intro j
  by_cases hj : i = j
  · subst hj
    rw [List.getElem?_set_self (by rw [fval_len]; exact hl), fval_get, h]
    show some (Value.int v) = some (Value.int (up2 S.fi a i v a (0 + i)))
    rw [Nat.zero_add, up2_self]
  · rw [List.getElem?_set_ne hj, fval_get, fval_get]
    have : ∀ b : Bool, (match b with | true => va_rf (S.fr a (0 + j)) | false => Value.int (S.fi a (0 + j))) = (match b with | true => va_rf ((S.setI a i v).fr a (0 + j)) | false => Value.int ((S.setI a i v).fi a (0 + j))) := by
      intro b
      have hne : 0 + j ≠ i := by omega
      cases b
      · show Value.int _ = Value.int (up2 S.fi a i v a (0 + j))
        rw [up2_ne _ _ (Or.inr hne)]
      · rfl
    cases bs[j]? with
    | none => rfl
    | some b => exact congrArg some (this b)
theorem fval_setR (S : PS) (a i : Nat) (v : Option Nat) (bs : List Bool) (h : bs[i]? = some true) : (fval S a 0 bs).set i (va_rf v) = fval (S.setR a i v) a 0 bs := by
  have hl : i < bs.length := (List.getElem?_eq_some_iff.mp h).1
  apply List.ext_getElem?
  intro j
  by_cases hj : i = j
  · subst hj
    rw [List.getElem?_set_self (by rw [fval_len]; exact hl), fval_get, h]
    show some (va_rf v) = some (va_rf (up2 S.fr a i v a (0 + i)))
    rw [Nat.zero_add, up2_self]
  · rw [List.getElem?_set_ne hj, fval_get, fval_get]
    have : ∀ b : Bool, (match b with | true => va_rf (S.fr a (0 + j)) | false => Value.int (S.fi a (0 + j))) = (match b with | true => va_rf ((S.setR a i v).fr a (0 + j)) | false => Value.int ((S.setR a i v).fi a (0 + j))) := by
      intro b
      have hne : 0 + j ≠ i := by omega
      cases b
      · rfl
      · show va_rf _ = va_rf (up2 S.fr a i v a (0 + j))
        rw [up2_ne _ _ (Or.inr hne)]
    cases bs[j]? with
    | none => rfl
    | some b => exact congrArg some (this b)
theorem wcell_o (cy : Nat → ClassId) (S : PS) {a κ : Nat} (h : S.K a = κ) (h7 : κ < 7) : wcell cy S a = .inr (κ, fval S a 0 (lay κ)) := by
  subst h; unfold wcell; rw [if_pos h7]
theorem wcell_i (cy : Nat → ClassId) (S : PS) {a κ : Nat} (h : S.K a = κ) (h7 : ¬ κ < 7) (h9 : κ < 9) : wcell cy S a = .inl (cy κ, S.ln a, .inl (S.ri a)) := by
  subst h; unfold wcell; rw [if_neg h7, if_pos h9]
theorem wcell_j (cy : Nat → ClassId) (S : PS) {a : Nat} (h : S.K a = 9) : wcell cy S a = .inl (cy 9, S.ln a, .inr (.inl (S.rj a))) := by
  unfold wcell; rw [h]; rfl
theorem wcell_r (cy : Nat → ClassId) (S : PS) {a κ : Nat} (h : S.K a = κ) (h9 : 9 < κ) : wcell cy S a = .inl (cy κ, S.ln a, .inr (.inr (.inr (.inr (S.rr a))))) := by
  subst h; unfold wcell; rw [if_neg (by omega), if_neg (by omega), if_neg (by omega)]
/-- a cell that no change has reached -/
theorem wcell_eq (cy : Nat → ClassId) (S T : PS) (b : Nat) (hK : T.K b = S.K b) (h1 : S.fr b = T.fr b) (h2 : S.fi b = T.fi b) (h3 : S.ln b = T.ln b) (h4 : S.ri b = T.ri b) (h5 : S.rj b = T.rj b) (h6 : S.rr b = T.rr b) : wcell cy S b = wcell cy T b := by
  unfold wcell
  rw [hK, fval_ext S T b _ h1 h2, h3, h4, h5, h6]
theorem ww_at (cy : Nat → ClassId) (S : PS) {a : Nat} (ha : a ∈ S.L) : ∃ k : Nat, (wW cy S)[k]? = some (a, wcell cy S a) := va_pl_get (X := []) ha
theorem ww_set {cy : Nat → ClassId} {S T : PS} {A : Nat → Prop} {a k : Nat} {e : va_E} (hD : va_D A (wW cy S)) (ha : a ∈ S.L) (hk : (wW cy S)[k]? = some (a, wcell cy S a)) (hL : T.L = S.L) (he : e = wcell cy T a) (ho : ∀ b, b ≠ a → wcell cy S b = wcell cy T b) : (wW cy S).set k (a, e) = wW cy T := by
  have h1 := va_pl_set (X := []) (e := e) hD ha hk
  refine h1.trans ?_
  show va_pl S.L (va_up (wcell cy S) a e) = va_pl T.L (wcell cy T)
  rw [hL]
  apply va_pl_congr
  intro b
  by_cases hb : b = a
  · subst hb; rw [va_up_self]; exact he
  · rw [va_up_ne _ _ hb]; exact ho b hb
theorem ww_push {cy : Nat → ClassId} {S T : PS} {A : Nat → Prop} {q : Nat} {e : va_E} (hD : va_D A (wW cy S ++ [(q, e)])) (hL : T.L = S.L ++ [q]) (he : e = wcell cy T q) (ho : ∀ b, b ≠ q → wcell cy S b = wcell cy T b) : wW cy S ++ [(q, e)] = wW cy T ∧ q ∉ S.L := by
  have hq : q ∉ S.L := va_pl_fresh2 (X := []) hD
  refine ⟨?_, hq⟩
  refine (va_pl_push hq).trans ?_
  show va_pl (S.L ++ [q]) (va_up (wcell cy S) q e) = va_pl T.L (wcell cy T)
  rw [hL]
  apply va_pl_congr
  intro b
  by_cases hb : b = q
  · subst hb; rw [va_up_self]; exact he
  · rw [va_up_ne _ _ hb]; exact ho b hb
section HR
variable {F : Fx} {cc : ByteArray} {nL : Nat} {own : String} {Ts : List Cond} {ret : Option FieldType} {S : PS} {kc ks : Nat} {Q : State → Prop} {pc : Nat} {lv : List (Nat × Value)} {st : List Value} {a : Nat}
theorem g_geti (Z : Cx F cc nL own Ts ret) (κ i : Nat) {C : String} {T : u_T} {N ix : Nat} (hc : vwCl[κ]? = some (C, T, N)) (h7 : κ < 7 ∧ i < N ∧ (lay κ)[i]? = some false) (hin : ∀ w ∈ u_ws C T N, w ∈ Ts) (hlink : Cond.fieldLink own ix (T i).1 (T i).2.1 (T i).2.2.1 ∈ Ts) (d : decode cc pc = .ok (.getfield ix, 3)) (ha : a ∈ S.L) (hK : S.K a = κ) (k : G F nL S kc ks Q (pc + 3) lv (.int (S.fi a i) :: st)) : G F nL S kc ks Q pc lv (.ref a :: st) := by
  intro H locs ls hP hD hS hl
  obtain ⟨k0, hk0⟩ := ww_at F.cy S ha
  rw [wcell_o F.cy S hK h7.1] at hk0
  refine va_get Z.1 Z.2.1 Z.2.2.2.2.1 hin Z.2.2.2.1 Z.2.2.2.2.2.2.1 hP k0 hk0 hc i h7.2.1 (Z.2.2.2.2.1 _ hlink) (fun _ h => h) (v := .int (S.fi a i)) ?_ d (k H locs ls hP hD hS hl)
  rw [fval_get, h7.2.2]
  simp
theorem g_getr (Z : Cx F cc nL own Ts ret) (κ i : Nat) {C : String} {T : u_T} {N ix b : Nat} (hc : vwCl[κ]? = some (C, T, N)) (h7 : κ < 7 ∧ i < N ∧ (lay κ)[i]? = some true) (hin : ∀ w ∈ u_ws C T N, w ∈ Ts) (hlink : Cond.fieldLink own ix (T i).1 (T i).2.1 (T i).2.2.1 ∈ Ts) (d : decode cc pc = .ok (.getfield ix, 3)) (ha : a ∈ S.L) (hK : S.K a = κ) (hb : S.fr a i = some b) (k : G F nL S kc ks Q (pc + 3) lv (.ref b :: st)) : G F nL S kc ks Q pc lv (.ref a :: st) := by
  intro H locs ls hP hD hS hl
  obtain ⟨k0, hk0⟩ := ww_at F.cy S ha
  rw [wcell_o F.cy S hK h7.1] at hk0
  refine va_get Z.1 Z.2.1 Z.2.2.2.2.1 hin Z.2.2.2.1 Z.2.2.2.2.2.2.1 hP k0 hk0 hc i h7.2.1 (Z.2.2.2.2.1 _ hlink) (fun _ h => h) (v := .ref b) ?_ d (k H locs ls hP hD hS hl)
  rw [fval_get, h7.2.2]
  simp [hb, va_rf]
theorem g_puti (Z : Cx F cc nL own Ts ret) (κ i : Nat) {C : String} {T : u_T} {N ix : Nat} {v : Int32} (hc : vwCl[κ]? = some (C, T, N)) (h7 : κ < 7 ∧ i < N ∧ (lay κ)[i]? = some false) (ty0 : Nat → FieldType) (hty : ∀ k, k < N → parseFieldDescriptor (T k).2.2.1 = some (ty0 k)) (hnm : ∀ a, a < N → ∀ b, b < N → a ≠ b → (T a).2.1 ≠ (T b).2.1) (hfin : (T i).2.2.2 = false) (hin : ∀ w ∈ u_ws C T N, w ∈ Ts) (hlink : Cond.fieldLink own ix (T i).1 (T i).2.1 (T i).2.2.1 ∈ Ts) (d : decode cc pc = .ok (.putfield ix, 3)) (hn : narrow (ty0 i) (.int v) = .int v) (hf : fits (ty0 i) (.int v) = true) (ha : a ∈ S.L) (hK : S.K a = κ) (k : G F nL (S.setI a i v) kc ks Q (pc + 3) lv st) : G F nL S kc ks Q pc lv (.int v :: .ref a :: st) := by
  intro H locs ls hP hD hS hl
  obtain ⟨k0, hk0⟩ := ww_at F.cy S ha
  have hk1 := hk0
  rw [wcell_o F.cy S hK h7.1] at hk0
  refine va_put Z.1 Z.2.1 Z.2.2.2.2.1 hin ty0 hty hnm Z.2.2.2.1 Z.2.2.2.2.2.2.1 hP hD hS k0 hk0 hc i h7.2.1 (Z.2.2.2.2.1 _ hlink) (fun _ h => h) hfin (hty i h7.2.1) hn hf (by rw [fval_len]; exact (List.getElem?_eq_some_iff.mp h7.2.2).1) d (fun H1 locs1 hP1 hD1 hS1 => ?_)
  have e1 := ww_set (T := S.setI a i v) (e := .inr (κ, (fval S a 0 (lay κ)).set i (.int v))) hD ha hk1 rfl (by rw [wcell_o F.cy (S.setI a i v) hK h7.1, fval_setI _ _ _ _ _ h7.2.2]) (fun b hb => wcell_eq _ _ _ _ rfl rfl (va_up_ne _ _ hb).symm rfl rfl rfl rfl)
  rw [e1] at hP1 hD1
  exact k H1 locs1 ls hP1 hD1 hS1 hl
theorem g_putr (Z : Cx F cc nL own Ts ret) (κ i : Nat) {C : String} {T : u_T} {N ix v : Nat} (hc : vwCl[κ]? = some (C, T, N)) (h7 : κ < 7 ∧ i < N ∧ (lay κ)[i]? = some true) (ty0 : Nat → FieldType) (hty : ∀ k, k < N → parseFieldDescriptor (T k).2.2.1 = some (ty0 k)) (hnm : ∀ a, a < N → ∀ b, b < N → a ≠ b → (T a).2.1 ≠ (T b).2.1) (hfin : (T i).2.2.2 = false) (hin : ∀ w ∈ u_ws C T N, w ∈ Ts) (hlink : Cond.fieldLink own ix (T i).1 (T i).2.1 (T i).2.2.1 ∈ Ts) (d : decode cc pc = .ok (.putfield ix, 3)) (hn : narrow (ty0 i) (.ref v) = .ref v) (hf : fits (ty0 i) (.ref v) = true) (ha : a ∈ S.L) (hK : S.K a = κ) (k : G F nL (S.setR a i (some v)) kc ks Q (pc + 3) lv st) : G F nL S kc ks Q pc lv (.ref v :: .ref a :: st) := by
  intro H locs ls hP hD hS hl
  obtain ⟨k0, hk0⟩ := ww_at F.cy S ha
  have hk1 := hk0
  rw [wcell_o F.cy S hK h7.1] at hk0
  refine va_put Z.1 Z.2.1 Z.2.2.2.2.1 hin ty0 hty hnm Z.2.2.2.1 Z.2.2.2.2.2.2.1 hP hD hS k0 hk0 hc i h7.2.1 (Z.2.2.2.2.1 _ hlink) (fun _ h => h) hfin (hty i h7.2.1) hn hf (by rw [fval_len]; exact (List.getElem?_eq_some_iff.mp h7.2.2).1) d (fun H1 locs1 hP1 hD1 hS1 => ?_)
  have e1 := ww_set (T := S.setR a i (some v)) (e := .inr (κ, (fval S a 0 (lay κ)).set i (.ref v))) hD ha hk1 rfl (by rw [wcell_o F.cy (S.setR a i (some v)) hK h7.1, ← fval_setR _ _ _ _ _ h7.2.2]; rfl) (fun b hb => wcell_eq _ _ _ _ rfl (va_up_ne _ _ hb).symm rfl rfl rfl rfl rfl)
  rw [e1] at hP1 hD1
  exact k H1 locs1 ls hP1 hD1 hS1 hl
theorem g_putFr (Z : Cx F cc nL own Ts ret) (κ i : Nat) {C : String} {T : u_T} {N ix v : Nat} (hc : vwCl[κ]? = some (C, T, N)) (h7 : κ < 7 ∧ i < N ∧ (lay κ)[i]? = some true) (ty0 : Nat → FieldType) (hty : ∀ k, k < N → parseFieldDescriptor (T k).2.2.1 = some (ty0 k)) (hnm : ∀ a, a < N → ∀ b, b < N → a ≠ b → (T a).2.1 ≠ (T b).2.1) (hfin : (T i).2.2.2 = true) (hin : ∀ w ∈ u_ws C T N, w ∈ Ts) (hlink : Cond.fieldLink own ix (T i).1 (T i).2.1 (T i).2.2.1 ∈ Ts) (d : decode cc pc = .ok (.putfield ix, 3)) (hin2 : F.meth.name = "<init>") (hdecl : (T i).1 = own) (hn : narrow (ty0 i) (.ref v) = .ref v) (hf : fits (ty0 i) (.ref v) = true) (ha : a ∈ S.L) (hK : S.K a = κ) (k : G F nL (S.setR a i (some v)) kc ks Q (pc + 3) lv st) : G F nL S kc ks Q pc lv (.ref v :: .ref a :: st) := by
  intro H locs ls hP hD hS hl
  obtain ⟨k0, hk0⟩ := ww_at F.cy S ha
  have hk1 := hk0
  rw [wcell_o F.cy S hK h7.1] at hk0
  refine va_putF Z.1 Z.2.1 Z.2.2.2.2.1 hin ty0 hty hnm Z.2.2.2.1 Z.2.2.2.2.2.2.1 hP hD hS k0 hk0 hc i h7.2.1 (Z.2.2.2.2.1 _ hlink) (fun _ h => h) hfin hin2 hdecl (hty i h7.2.1) hn hf (by rw [fval_len]; exact (List.getElem?_eq_some_iff.mp h7.2.2).1) d (fun H1 locs1 hP1 hD1 hS1 => ?_)
  have e1 := ww_set (T := S.setR a i (some v)) (e := .inr (κ, (fval S a 0 (lay κ)).set i (.ref v))) hD ha hk1 rfl (by rw [wcell_o F.cy (S.setR a i (some v)) hK h7.1, ← fval_setR _ _ _ _ _ h7.2.2]; rfl) (fun b hb => wcell_eq _ _ _ _ rfl (va_up_ne _ _ hb).symm rfl rfl rfl rfl rfl)
  rw [e1] at hP1 hD1
  exact k H1 locs1 ls hP1 hD1 hS1 hl
theorem g_iald (Z : Cx F cc nL own Ts ret) {i : Int32} (d : decode cc pc = .ok (.iaload, 1)) (ha : a ∈ S.L) (hK : S.K a = 8) (hi : vp_in i (S.ln a)) (k : G F nL S kc ks Q (pc + 1) lv (.int (S.ri a i.toNatClampNeg) :: st)) : G F nL S kc ks Q pc lv (.int i :: .ref a :: st) := by
  intro H locs ls hP hD hS hl
  obtain ⟨k0, hk0⟩ := ww_at F.cy S ha
  rw [wcell_i F.cy S hK (by decide) (by decide)] at hk0
  exact va_iald Z.1 Z.2.1 Z.2.2.2.2.2.2.1 hP k0 1 hk0 rfl hi d (k H locs ls hP hD hS hl)
theorem g_bald (Z : Cx F cc nL own Ts ret) {i : Int32} (d : decode cc pc = .ok (.baload, 1)) (ha : a ∈ S.L) (hK : S.K a = 7) (hi : vp_in i (S.ln a)) (k : G F nL S kc ks Q (pc + 1) lv (.int (S.ri a i.toNatClampNeg) :: st)) : G F nL S kc ks Q pc lv (.int i :: .ref a :: st) := by
  intro H locs ls hP hD hS hl
  obtain ⟨k0, hk0⟩ := ww_at F.cy S ha
  rw [wcell_i F.cy S hK (by decide) (by decide)] at hk0
  exact va_bald Z.1 Z.2.1 Z.2.2.2.2.2.2.1 hP k0 0 hk0 rfl hi d (k H locs ls hP hD hS hl)
theorem g_lald (Z : Cx F cc nL own Ts ret) {i : Int32} (d : decode cc pc = .ok (.laload, 1)) (ha : a ∈ S.L) (hK : S.K a = 9) (hi : vp_in i (S.ln a)) (k : G F nL S kc ks Q (pc + 1) lv (.long (S.rj a i.toNatClampNeg) :: st)) : G F nL S kc ks Q pc lv (.int i :: .ref a :: st) := by
  intro H locs ls hP hD hS hl
  obtain ⟨k0, hk0⟩ := ww_at F.cy S ha
  rw [wcell_j F.cy S hK] at hk0
  exact va_lald Z.1 Z.2.1 Z.2.2.2.2.2.2.1 hP k0 2 hk0 rfl hi d (k H locs ls hP hD hS hl)
theorem g_iast (Z : Cx F cc nL own Ts ret) {i : Int32} {x : Int32} (d : decode cc pc = .ok (.iastore, 1)) (ha : a ∈ S.L) (hK : S.K a = 8) (hi : vp_in i (S.ln a)) (k : G F nL (S.rowI a (upd (S.ri a) i.toNatClampNeg x)) kc ks Q (pc + 1) lv st) : G F nL S kc ks Q pc lv (.int x :: .int i :: .ref a :: st) := by
  intro H locs ls hP hD hS hl
  obtain ⟨k0, hk0⟩ := ww_at F.cy S ha
  have hk1 := hk0
  rw [wcell_i F.cy S hK (by decide) (by decide)] at hk0
  refine va_iast Z.1 Z.2.1 Z.2.2.2.2.2.2.1 hP hD hS k0 1 hk0 rfl hi d (fun H1 locs1 hP1 hD1 hS1 => ?_)
  have e1 := ww_set (T := S.rowI a (upd (S.ri a) i.toNatClampNeg x)) (e := .inl (F.cy 8, S.ln a, (.inl (upd (S.ri a) i.toNatClampNeg x)))) hD ha hk1 rfl (by rw [wcell_i F.cy (S.rowI a (upd (S.ri a) i.toNatClampNeg x)) hK (by decide) (by decide)]; show _ = Sum.inl (F.cy 8, S.ln a, Sum.inl (va_up S.ri a _ a)); rw [va_up_self]) (fun b hb => wcell_eq _ _ _ _ rfl rfl rfl rfl (va_up_ne _ _ hb).symm rfl rfl)
  rw [e1] at hP1 hD1
  exact k H1 locs1 ls hP1 hD1 hS1 hl
theorem g_bast (Z : Cx F cc nL own Ts ret) {i : Int32} {x : Int32} (d : decode cc pc = .ok (.bastore, 1)) (ha : a ∈ S.L) (hK : S.K a = 7) (hi : vp_in i (S.ln a)) (k : G F nL (S.rowI a (upd (S.ri a) i.toNatClampNeg (vp_nar .byte x))) kc ks Q (pc + 1) lv st) : G F nL S kc ks Q pc lv (.int x :: .int i :: .ref a :: st) := by
  intro H locs ls hP hD hS hl
  obtain ⟨k0, hk0⟩ := ww_at F.cy S ha
  have hk1 := hk0
  rw [wcell_i F.cy S hK (by decide) (by decide)] at hk0
  refine va_bast Z.1 Z.2.1 Z.2.2.2.2.2.2.1 hP hD hS k0 0 hk0 rfl hi d (fun H1 locs1 hP1 hD1 hS1 => ?_)
  have e1 := ww_set (T := S.rowI a (upd (S.ri a) i.toNatClampNeg (vp_nar .byte x))) (e := .inl (F.cy 7, S.ln a, (.inl (upd (S.ri a) i.toNatClampNeg (vp_nar .byte x))))) hD ha hk1 rfl (by rw [wcell_i F.cy (S.rowI a (upd (S.ri a) i.toNatClampNeg (vp_nar .byte x))) hK (by decide) (by decide)]; show _ = Sum.inl (F.cy 7, S.ln a, Sum.inl (va_up S.ri a _ a)); rw [va_up_self]) (fun b hb => wcell_eq _ _ _ _ rfl rfl rfl rfl (va_up_ne _ _ hb).symm rfl rfl)
  rw [e1] at hP1 hD1
  exact k H1 locs1 ls hP1 hD1 hS1 hl
theorem g_last (Z : Cx F cc nL own Ts ret) {i : Int32} {x : Int64} (d : decode cc pc = .ok (.lastore, 1)) (ha : a ∈ S.L) (hK : S.K a = 9) (hi : vp_in i (S.ln a)) (k : G F nL (S.rowJ a (vp_updL (S.rj a) i.toNatClampNeg x)) kc ks Q (pc + 1) lv st) : G F nL S kc ks Q pc lv (.long x :: .int i :: .ref a :: st) := by
  intro H locs ls hP hD hS hl
  obtain ⟨k0, hk0⟩ := ww_at F.cy S ha
  have hk1 := hk0
  rw [wcell_j F.cy S hK] at hk0
  refine va_last Z.1 Z.2.1 Z.2.2.2.2.2.2.1 hP hD hS k0 2 hk0 rfl hi d (fun H1 locs1 hP1 hD1 hS1 => ?_)
  have e1 := ww_set (T := S.rowJ a (vp_updL (S.rj a) i.toNatClampNeg x)) (e := .inl (F.cy 9, S.ln a, (.inr (.inl (vp_updL (S.rj a) i.toNatClampNeg x))))) hD ha hk1 rfl (by rw [wcell_j F.cy (S.rowJ a (vp_updL (S.rj a) i.toNatClampNeg x)) hK]; show _ = Sum.inl (F.cy 9, S.ln a, Sum.inr (Sum.inl (va_up S.rj a _ a))); rw [va_up_self]) (fun b hb => wcell_eq _ _ _ _ rfl rfl rfl rfl rfl (va_up_ne _ _ hb).symm rfl)
  rw [e1] at hP1 hD1
  exact k H1 locs1 ls hP1 hD1 hS1 hl
theorem g_aald10 (Z : Cx F cc nL own Ts ret) {i : Int32} {v : Nat} (d : decode cc pc = .ok (.aaload, 1)) (ha : a ∈ S.L) (hK : S.K a = 10) (hi : vp_in i (S.ln a)) (hv : S.rr a i.toNatClampNeg = some v) (k : G F nL S kc ks Q (pc + 1) lv (.ref v :: st)) : G F nL S kc ks Q pc lv (.int i :: .ref a :: st) := by
  intro H locs ls hP hD hS hl
  obtain ⟨k0, hk0⟩ := ww_at F.cy S ha
  rw [wcell_r F.cy S hK (by decide)] at hk0
  refine va_aldq Z.1 Z.2.1 Z.2.2.2.2.2.2.1 hP k0 3 hk0 rfl hi d ?_
  rw [hv]
  exact k H locs ls hP hD hS hl
theorem g_aast10 (Z : Cx F cc nL own Ts ret) {i : Int32} {v : Nat} (d : decode cc pc = .ok (.aastore, 1)) (ha : a ∈ S.L) (hK : S.K a = 10) (hi : vp_in i (S.ln a)) (hv : v ∈ S.L) (hKv : S.K v = 1) (k : G F nL (S.rowR a (va_up (S.rr a) i.toNatClampNeg (some v))) kc ks Q (pc + 1) lv st) : G F nL S kc ks Q pc lv (.ref v :: .int i :: .ref a :: st) := by
  intro H locs ls hP hD hS hl
  obtain ⟨k0, hk0⟩ := ww_at F.cy S ha
  obtain ⟨k2, hk2⟩ := ww_at F.cy S hv
  have hk1 := hk0
  rw [wcell_r F.cy S hK (by decide)] at hk0
  rw [wcell_o F.cy S hKv (by decide)] at hk2
  refine va_astq (r := (RX1, TX1, 4)) Z.1 Z.2.1 Z.2.2.2.2.2.2.1 hP hD hS k0 3 k2 1 hk0 rfl hk2 rfl hi d (fun H1 locs1 hP1 hD1 hS1 => ?_)
  have e1 := ww_set (T := S.rowR a (va_up (S.rr a) i.toNatClampNeg (some v))) (e := .inl (F.cy 10, S.ln a, .inr (.inr (.inr (.inr (va_up (S.rr a) i.toNatClampNeg (some v))))))) hD ha hk1 rfl (by rw [wcell_r F.cy (S.rowR a (va_up (S.rr a) i.toNatClampNeg (some v))) hK (by decide)]; show _ = Sum.inl (F.cy 10, S.ln a, Sum.inr (Sum.inr (Sum.inr (Sum.inr (va_up S.rr a _ a))))); rw [va_up_self]) (fun b hb => wcell_eq _ _ _ _ rfl rfl rfl rfl rfl rfl (va_up_ne _ _ hb).symm)
  rw [e1] at hP1 hD1
  exact k H1 locs1 ls hP1 hD1 hS1 hl
theorem g_aald11 (Z : Cx F cc nL own Ts ret) {i : Int32} {v : Nat} (d : decode cc pc = .ok (.aaload, 1)) (ha : a ∈ S.L) (hK : S.K a = 11) (hi : vp_in i (S.ln a)) (hv : S.rr a i.toNatClampNeg = some v) (k : G F nL S kc ks Q (pc + 1) lv (.ref v :: st)) : G F nL S kc ks Q pc lv (.int i :: .ref a :: st) := by
  intro H locs ls hP hD hS hl
  obtain ⟨k0, hk0⟩ := ww_at F.cy S ha
  rw [wcell_r F.cy S hK (by decide)] at hk0
  refine va_aldq Z.1 Z.2.1 Z.2.2.2.2.2.2.1 hP k0 4 hk0 rfl hi d ?_
  rw [hv]
  exact k H locs ls hP hD hS hl
theorem g_aast11 (Z : Cx F cc nL own Ts ret) {i : Int32} {v : Nat} (d : decode cc pc = .ok (.aastore, 1)) (ha : a ∈ S.L) (hK : S.K a = 11) (hi : vp_in i (S.ln a)) (hv : v ∈ S.L) (hKv : S.K v = 2) (k : G F nL (S.rowR a (va_up (S.rr a) i.toNatClampNeg (some v))) kc ks Q (pc + 1) lv st) : G F nL S kc ks Q pc lv (.ref v :: .int i :: .ref a :: st) := by
  intro H locs ls hP hD hS hl
  obtain ⟨k0, hk0⟩ := ww_at F.cy S ha
  obtain ⟨k2, hk2⟩ := ww_at F.cy S hv
  have hk1 := hk0
  rw [wcell_r F.cy S hK (by decide)] at hk0
  rw [wcell_o F.cy S hKv (by decide)] at hk2
  refine va_astq (r := (RX2, TX2, 2)) Z.1 Z.2.1 Z.2.2.2.2.2.2.1 hP hD hS k0 4 k2 2 hk0 rfl hk2 rfl hi d (fun H1 locs1 hP1 hD1 hS1 => ?_)
  have e1 := ww_set (T := S.rowR a (va_up (S.rr a) i.toNatClampNeg (some v))) (e := .inl (F.cy 11, S.ln a, .inr (.inr (.inr (.inr (va_up (S.rr a) i.toNatClampNeg (some v))))))) hD ha hk1 rfl (by rw [wcell_r F.cy (S.rowR a (va_up (S.rr a) i.toNatClampNeg (some v))) hK (by decide)]; show _ = Sum.inl (F.cy 11, S.ln a, Sum.inr (Sum.inr (Sum.inr (Sum.inr (va_up S.rr a _ a))))); rw [va_up_self]) (fun b hb => wcell_eq _ _ _ _ rfl rfl rfl rfl rfl rfl (va_up_ne _ _ hb).symm)
  rw [e1] at hP1 hD1
  exact k H1 locs1 ls hP1 hD1 hS1 hl
theorem g_alen7 (Z : Cx F cc nL own Ts ret) (d : decode cc pc = .ok (.arraylength, 1)) (ha : a ∈ S.L) (hK : S.K a = 7) (k : G F nL S kc ks Q (pc + 1) lv (.int (nI (S.ln a)) :: st)) : G F nL S kc ks Q pc lv (.ref a :: st) := by
  intro H locs ls hP hD hS hl
  obtain ⟨k0, hk0⟩ := ww_at F.cy S ha
  rw [wcell_i F.cy S hK (by decide) (by decide)] at hk0
  exact va_alen Z.1 Z.2.1 Z.2.2.2.2.2.2.1 hP k0 0 hk0 rfl rfl d (k H locs ls hP hD hS hl)
theorem g_alen9 (Z : Cx F cc nL own Ts ret) (d : decode cc pc = .ok (.arraylength, 1)) (ha : a ∈ S.L) (hK : S.K a = 9) (k : G F nL S kc ks Q (pc + 1) lv (.int (nI (S.ln a)) :: st)) : G F nL S kc ks Q pc lv (.ref a :: st) := by
  intro H locs ls hP hD hS hl
  obtain ⟨k0, hk0⟩ := ww_at F.cy S ha
  rw [wcell_j F.cy S hK] at hk0
  exact va_alen Z.1 Z.2.1 Z.2.2.2.2.2.2.1 hP k0 2 hk0 rfl rfl d (k H locs ls hP hD hS hl)
theorem g_alen10 (Z : Cx F cc nL own Ts ret) (d : decode cc pc = .ok (.arraylength, 1)) (ha : a ∈ S.L) (hK : S.K a = 10) (k : G F nL S kc ks Q (pc + 1) lv (.int (nI (S.ln a)) :: st)) : G F nL S kc ks Q pc lv (.ref a :: st) := by
  intro H locs ls hP hD hS hl
  obtain ⟨k0, hk0⟩ := ww_at F.cy S ha
  rw [wcell_r F.cy S hK (by decide)] at hk0
  exact va_alen Z.1 Z.2.1 Z.2.2.2.2.2.2.1 hP k0 3 hk0 rfl rfl d (k H locs ls hP hD hS hl)
theorem g_alen11 (Z : Cx F cc nL own Ts ret) (d : decode cc pc = .ok (.arraylength, 1)) (ha : a ∈ S.L) (hK : S.K a = 11) (k : G F nL S kc ks Q (pc + 1) lv (.int (nI (S.ln a)) :: st)) : G F nL S kc ks Q pc lv (.ref a :: st) := by
  intro H locs ls hP hD hS hl
  obtain ⟨k0, hk0⟩ := ww_at F.cy S ha
  rw [wcell_r F.cy S hK (by decide)] at hk0
  exact va_alen Z.1 Z.2.1 Z.2.2.2.2.2.2.1 hP k0 4 hk0 rfl rfl d (k H locs ls hP hD hS hl)
theorem nw_now (Z : Cx F cc nL own Ts ret) {H : Heap} {locs : List Loc} (hS : va_S F.A F.H0 H locs) : NwO F.nw F.A F.s H := Z.2.2.2.2.2.2.2.2.2.1.kept hS.2.1
theorem g_alenNw (Z : Cx F cc nL own Ts ret) (d : decode cc pc = .ok (.arraylength, 1)) (k : G F nL S kc ks Q (pc + 1) lv (.int 0 :: st)) : G F nL S kc ks Q pc lv (.ref F.nw :: st) := by
  intro H locs ls hP hD hS hl
  obtain ⟨-, -, -, cell, h3, h4, h5⟩ := nw_now Z hS
  exact W.alen (n := 0) Z.1 Z.2.1 h3 h4 (by rw [h5]; rfl) rfl rfl d (k H locs ls hP hD hS hl)
theorem g_getsNw (Z : Cx F cc nL "RoaringIndex$Container" Ts ret) (d : decode cc pc = .ok (.getstatic 9, 3)) (k : G F nL S kc ks Q (pc + 3) lv (.ref F.nw :: st)) : G F nL S kc ks Q pc lv st := by
  intro H locs ls hP hD hS hl
  have hH := Z.2.2.2.2.2.2.2.2.2.2
  have hN := Z.2.2.2.2.2.2.2.2.2.1
  have hS' := hS
  rw [hH] at hN hS'
  exact va_getsN Z.1 Z.2.1 hN.2.1 hS' Z.2.2.2.1 (va_Nw.use rfl hN.1.1) (fun _ h => h) d (k H locs ls hP hD hS hl)
theorem g_newaB (Z : Cx F cc nL own Ts ret) {x : Int32} (n : Nat) (d : decode cc pc = .ok (.newarray .byte, 2)) (harr : Cond.arrayClass (newarray.typeOf .byte) ∈ Ts) (hx0 : ¬ x < 0) (hxn : x.toNatClampNeg = n) (hb : n * componentBytes .byte ≤ 536870912) (hc : kc + 1 ≤ F.R.cells) (hs : ks + n ≤ F.R.slots) (k : ∀ q, q ∉ S.L → G F nL (S.newA q 7 n) (kc + 1) (ks + n) Q (pc + 2) lv (.ref q :: st)) : G F nL S kc ks Q pc lv (.int x :: st) := by
  intro H locs ls hP hD hS hl
  refine va_newa (a0 := (n, .inl (fun _ => 0))) Z.1 Z.2.1 (Z.2.2.2.2.1 _ harr) (ty := .byte) rfl Z.2.2.2.2.2.2.1 hP hD hS Z.2.2.2.2.2.2.2.1 (fun cA => rfl) hx0 hxn hb hc hs d (fun q cA H1 hK1 hP1 hD1 hS1 => ?_)
  have hcA : cA = F.cy 7 := by
    have h1 : F.s.vm.findClass _ = some cA := (hK1.2 5 _ rfl).2
    have h2 : F.s.vm.findClass _ = some (F.cy 7) := (hK1.2 0 _ rfl).2
    exact Option.some.inj (h1.symm.trans h2)
  subst hcA
  obtain ⟨e1, hq⟩ := ww_push (T := S.newA q 7 n) hD1 rfl (by rw [wcell_i F.cy _ (va_up_self _ _ _) (by decide) (by decide)]; show _ = Sum.inl (F.cy 7, va_up S.ln q n q, _); rw [va_up_self]; show _ = Sum.inl (_, _, Sum.inl (va_up S.ri q _ q)); rw [va_up_self]) (fun b hb => wcell_eq _ _ _ _ (va_up_ne _ _ hb) rfl rfl (va_up_ne _ _ hb).symm (va_up_ne _ _ hb).symm (va_up_ne _ _ hb).symm (va_up_ne _ _ hb).symm)
  rw [e1] at hP1 hD1
  exact k q hq H1 locs ls hP1 hD1 hS1 hl
theorem g_newaI (Z : Cx F cc nL own Ts ret) {x : Int32} (n : Nat) (d : decode cc pc = .ok (.newarray .int, 2)) (harr : Cond.arrayClass (newarray.typeOf .int) ∈ Ts) (hx0 : ¬ x < 0) (hxn : x.toNatClampNeg = n) (hb : n * componentBytes .int ≤ 536870912) (hc : kc + 1 ≤ F.R.cells) (hs : ks + n ≤ F.R.slots) (k : ∀ q, q ∉ S.L → G F nL (S.newA q 8 n) (kc + 1) (ks + n) Q (pc + 2) lv (.ref q :: st)) : G F nL S kc ks Q pc lv (.int x :: st) := by
  intro H locs ls hP hD hS hl
  refine va_newa (a0 := (n, .inl (fun _ => 0))) Z.1 Z.2.1 (Z.2.2.2.2.1 _ harr) (ty := .int) rfl Z.2.2.2.2.2.2.1 hP hD hS Z.2.2.2.2.2.2.2.1 (fun cA => rfl) hx0 hxn hb hc hs d (fun q cA H1 hK1 hP1 hD1 hS1 => ?_)
  have hcA : cA = F.cy 8 := by
    have h1 : F.s.vm.findClass _ = some cA := (hK1.2 5 _ rfl).2
    have h2 : F.s.vm.findClass _ = some (F.cy 8) := (hK1.2 1 _ rfl).2
    exact Option.some.inj (h1.symm.trans h2)
  subst hcA
  obtain ⟨e1, hq⟩ := ww_push (T := S.newA q 8 n) hD1 rfl (by rw [wcell_i F.cy _ (va_up_self _ _ _) (by decide) (by decide)]; show _ = Sum.inl (F.cy 8, va_up S.ln q n q, _); rw [va_up_self]; show _ = Sum.inl (_, _, Sum.inl (va_up S.ri q _ q)); rw [va_up_self]) (fun b hb => wcell_eq _ _ _ _ (va_up_ne _ _ hb) rfl rfl (va_up_ne _ _ hb).symm (va_up_ne _ _ hb).symm (va_up_ne _ _ hb).symm (va_up_ne _ _ hb).symm)
  rw [e1] at hP1 hD1
  exact k q hq H1 locs ls hP1 hD1 hS1 hl
theorem g_newaJ (Z : Cx F cc nL own Ts ret) {x : Int32} (n : Nat) (d : decode cc pc = .ok (.newarray .long, 2)) (harr : Cond.arrayClass (newarray.typeOf .long) ∈ Ts) (hx0 : ¬ x < 0) (hxn : x.toNatClampNeg = n) (hb : n * componentBytes .long ≤ 536870912) (hc : kc + 1 ≤ F.R.cells) (hs : ks + n ≤ F.R.slots) (k : ∀ q, q ∉ S.L → G F nL (S.newA q 9 n) (kc + 1) (ks + n) Q (pc + 2) lv (.ref q :: st)) : G F nL S kc ks Q pc lv (.int x :: st) := by
  intro H locs ls hP hD hS hl
  refine va_newa (a0 := (n, .inr (.inl (fun _ => 0)))) Z.1 Z.2.1 (Z.2.2.2.2.1 _ harr) (ty := .long) rfl Z.2.2.2.2.2.2.1 hP hD hS Z.2.2.2.2.2.2.2.1 (fun cA => rfl) hx0 hxn hb hc hs d (fun q cA H1 hK1 hP1 hD1 hS1 => ?_)
  have hcA : cA = F.cy 9 := by
    have h1 : F.s.vm.findClass _ = some cA := (hK1.2 5 _ rfl).2
    have h2 : F.s.vm.findClass _ = some (F.cy 9) := (hK1.2 2 _ rfl).2
    exact Option.some.inj (h1.symm.trans h2)
  subst hcA
  obtain ⟨e1, hq⟩ := ww_push (T := S.newA q 9 n) hD1 rfl (by rw [wcell_j F.cy _ (va_up_self _ _ _)]; show _ = Sum.inl (F.cy 9, va_up S.ln q n q, _); rw [va_up_self]; show _ = Sum.inl (_, _, Sum.inr (Sum.inl (va_up S.rj q _ q))); rw [va_up_self]) (fun b hb => wcell_eq _ _ _ _ (va_up_ne _ _ hb) rfl rfl (va_up_ne _ _ hb).symm (va_up_ne _ _ hb).symm (va_up_ne _ _ hb).symm (va_up_ne _ _ hb).symm)
  rw [e1] at hP1 hD1
  exact k q hq H1 locs ls hP1 hD1 hS1 hl
theorem g_newq10 (Z : Cx F cc nL own Ts ret) {x : Int32} {ix : Nat} (n : Nat) (d : decode cc pc = .ok (.anewarray ix, 3)) (hclink : Cond.classLink own ix "RoaringIndex$Container" ∈ Ts) (hov : Cond.arrayOver (.object "RoaringIndex$Container") ∈ Ts) (hx0 : ¬ x < 0) (hxn : x.toNatClampNeg = n) (hb : n * 4 ≤ 536870912) (hc : kc + 1 ≤ F.R.cells) (hs : ks + n ≤ F.R.slots) (k : ∀ q, q ∉ S.L → G F nL (S.newA q 10 n) (kc + 1) (ks + n) Q (pc + 3) lv (.ref q :: st)) : G F nL S kc ks Q pc lv (.int x :: st) := by
  intro H locs ls hP hD hS hl
  refine va_newq Z.1 Z.2.1 Z.2.2.2.1 (Z.2.2.2.2.1 _ hclink) (va_AO.of (Z.2.2.2.2.1 _ hov)) Z.2.2.2.2.2.2.1 hP hD hS Z.2.2.2.2.2.2.2.1 hx0 hxn hb hc hs d (fun q cA H1 hK1 hP1 hD1 hS1 => ?_)
  have hcA : cA = F.cy 10 := by
    obtain ⟨-, -, -, -, -, h1⟩ := (hK1.2 5 _ rfl).2
    obtain ⟨-, -, -, -, -, h2⟩ := (hK1.2 3 _ rfl).2
    exact Option.some.inj (h1.symm.trans h2)
  subst hcA
  obtain ⟨e1, hq⟩ := ww_push (T := S.newA q 10 n) hD1 rfl (by rw [wcell_r F.cy _ (va_up_self _ _ _) (by decide)]; show _ = Sum.inl (F.cy 10, va_up S.ln q n q, _); rw [va_up_self]; show _ = Sum.inl (_, _, Sum.inr (Sum.inr (Sum.inr (Sum.inr (va_up S.rr q _ q))))); rw [va_up_self]) (fun b hb => wcell_eq _ _ _ _ (va_up_ne _ _ hb) rfl rfl (va_up_ne _ _ hb).symm (va_up_ne _ _ hb).symm (va_up_ne _ _ hb).symm (va_up_ne _ _ hb).symm)
  rw [e1] at hP1 hD1
  exact k q hq H1 locs ls hP1 hD1 hS1 hl
theorem g_newq11 (Z : Cx F cc nL own Ts ret) {x : Int32} {ix : Nat} (n : Nat) (d : decode cc pc = .ok (.anewarray ix, 3)) (hclink : Cond.classLink own ix "RoaringIndex$NumberSet" ∈ Ts) (hov : Cond.arrayOver (.object "RoaringIndex$NumberSet") ∈ Ts) (hx0 : ¬ x < 0) (hxn : x.toNatClampNeg = n) (hb : n * 4 ≤ 536870912) (hc : kc + 1 ≤ F.R.cells) (hs : ks + n ≤ F.R.slots) (k : ∀ q, q ∉ S.L → G F nL (S.newA q 11 n) (kc + 1) (ks + n) Q (pc + 3) lv (.ref q :: st)) : G F nL S kc ks Q pc lv (.int x :: st) := by
  intro H locs ls hP hD hS hl
  refine va_newq Z.1 Z.2.1 Z.2.2.2.1 (Z.2.2.2.2.1 _ hclink) (va_AO.of (Z.2.2.2.2.1 _ hov)) Z.2.2.2.2.2.2.1 hP hD hS Z.2.2.2.2.2.2.2.1 hx0 hxn hb hc hs d (fun q cA H1 hK1 hP1 hD1 hS1 => ?_)
  have hcA : cA = F.cy 11 := by
    obtain ⟨-, -, -, -, -, h1⟩ := (hK1.2 5 _ rfl).2
    obtain ⟨-, -, -, -, -, h2⟩ := (hK1.2 4 _ rfl).2
    exact Option.some.inj (h1.symm.trans h2)
  subst hcA
  obtain ⟨e1, hq⟩ := ww_push (T := S.newA q 11 n) hD1 rfl (by rw [wcell_r F.cy _ (va_up_self _ _ _) (by decide)]; show _ = Sum.inl (F.cy 11, va_up S.ln q n q, _); rw [va_up_self]; show _ = Sum.inl (_, _, Sum.inr (Sum.inr (Sum.inr (Sum.inr (va_up S.rr q _ q))))); rw [va_up_self]) (fun b hb => wcell_eq _ _ _ _ (va_up_ne _ _ hb) rfl rfl (va_up_ne _ _ hb).symm (va_up_ne _ _ hb).symm (va_up_ne _ _ hb).symm (va_up_ne _ _ hb).symm)
  rw [e1] at hP1 hD1
  exact k q hq H1 locs ls hP1 hD1 hS1 hl
theorem g_new (Z : Cx F cc nL own Ts ret) (κ : Nat) {C : String} {T : u_T} {N ix : Nat} (hc : vwCl[κ]? = some (C, T, N)) (h7 : κ < 7) (ty0 : Nat → FieldType) (hty : ∀ k, k < N → parseFieldDescriptor (T k).2.2.1 = some (ty0 k)) (hin : ∀ w ∈ u_ws C T N, w ∈ Ts) (hfs : ∀ j, j < N → defaultValue (ty0 j) = vp_V (fval ([], fun _ => 0, fun _ _ => 0, fun _ _ => none, fun _ => 0, fun _ _ => 0, fun _ _ => 0, fun _ _ => none) 0 0 (lay κ)) j) (hcl : Cond.classLink own ix C ∈ Ts) (hinst : Cond.instantiable C N ∈ Ts) (hini : Cond.initialized C ∈ Ts) (d : decode cc pc = .ok (.new ix, 3)) (hcc : kc + 1 ≤ F.R.cells) (hs : ks + N ≤ F.R.slots) (k : ∀ q, q ∉ S.L → G F nL (S.newO q κ) (kc + 1) (ks + N) Q (pc + 3) lv (.ref q :: st)) : G F nL S kc ks Q pc lv st := by
  intro H locs ls hP hD hS hl
  refine va_new (ci := κ) Z.1 Z.2.1 Z.2.2.2.2.1 hin ty0 hty Z.2.2.2.1 (Z.2.2.2.2.1 _ hcl) (Z.2.2.2.2.1 _ hinst) (Z.2.2.2.2.1 _ hini) Z.2.2.2.2.2.2.1 hP hD hS Z.2.2.2.2.2.2.2.1 hc hfs hcc hs d (fun q H1 hP1 hD1 hS1 => ?_)
  obtain ⟨e1, hq⟩ := ww_push (T := S.newO q κ) hD1 rfl (by
    rw [wcell_o F.cy _ (va_up_self _ _ _) h7]
    congr 2
    apply List.ext_getElem?
    intro i
    rw [fval_get, fval_get]
    show _ = (lay κ)[i]?.map (fun b => match b with | true => va_rf (va_up S.fr q (fun _ => none) q (0 + i)) | false => .int (va_up S.fi q (fun _ => 0) q (0 + i)))
    rw [va_up_self, va_up_self]) (fun b hb => wcell_eq _ _ _ _ (va_up_ne _ _ hb) (va_up_ne _ _ hb).symm (va_up_ne _ _ hb).symm rfl rfl rfl rfl)
  rw [e1] at hP1 hD1
  exact k q hq H1 locs ls hP1 hD1 hS1 hl
theorem g_objinit (Z : Cx F cc nL own Ts ret) {ix : Nat} (hl1 : Cond.methodLink own ix objectInit ∈ Ts) (hl2 : Cond.instanceMethod objectInit ∈ Ts) (hl3 : Cond.code objectInit ⟨#[0xb1]⟩ 1 none ∈ Ts) (d : decode cc pc = .ok (.invokespecial ix, 3)) (hf : 1 ≤ F.R.frames) (hlo : 20 ≤ F.R.locals) (hst : (st.map fun v => v.category).sum ≤ 8) (k : G F nL S kc ks Q (pc + 3) lv st) : G F nL S kc ks Q pc lv (.ref a :: st) := by
  intro H locs ls hP hD hS hl
  exact W.objInit Z.1 Z.2.1 Z.2.2.2.1 (Z.2.2.2.2.1 _ hl1) (Z.2.2.2.2.1 _ hl2) (Z.2.2.2.2.1 _ hl3) rfl (hl.1.trans Z.2.2.1.symm) rfl d hf (Nat.le_trans (Nat.add_le_add_right (lv_room (m := F.m) (pc := pc) (ls := ls) (rest := .ref a :: st) hst) 12) hlo) (k H locs ls hP hD hS hl)
end HR
end
section
/-! CONTRACTS over the pool: the state before, the state behind -/
def MBf (D : va_G) (cy : Nat → ClassId) (nw : Nat) (S : PS) (sz : Nat) (U : State) : Prop := U.heap.size = sz ∧ va_P D vwCl (wW cy S) U.heap ∧ va_K D vwCl (wty cy) U ∧ va_D (fun _ => True) (wW cy S) ∧ NwO nw (va_A (wW cy S) sz) U U.heap
def MAf (D : va_G) (cy : Nat → ClassId) (A : Nat → Prop) (S : PS) (t : State) : Prop := va_P D vwCl (wW cy S) t.heap ∧ va_K D vwCl (wty cy) t ∧ va_D A (wW cy S)
abbrev rmOf (fr mc ms lo : Nat) : Room := { frames := fr, cells := mc, slots := ms, locals := lo }
def kI (l : Launch) (y : MethodName) (ws : List Cond) (fr lo : Nat) (D : va_G) (cy : Nat → ClassId) (nw : Nat) (av : List Value) (S : PS) (post : Int32 → PS → Prop) (mc ms : Nat) : Prop :=
  ∀ sz, Met l y ws (rmOf fr mc ms lo) (va_Pc av (MBf D cy nw S sz)) (va_Qi post (MAf D cy (va_A (wW cy S) sz)) (va_A (wW cy S) sz)) mc ms (va_A (wW cy S) sz)
def kL (l : Launch) (y : MethodName) (ws : List Cond) (fr lo : Nat) (D : va_G) (cy : Nat → ClassId) (nw : Nat) (av : List Value) (S : PS) (post : Int64 → PS → Prop) (mc ms : Nat) : Prop :=
  ∀ sz, Met l y ws (rmOf fr mc ms lo) (va_Pc av (MBf D cy nw S sz)) (va_Ql post (MAf D cy (va_A (wW cy S) sz)) (va_A (wW cy S) sz)) mc ms (va_A (wW cy S) sz)
def kV (l : Launch) (y : MethodName) (ws : List Cond) (fr lo : Nat) (D : va_G) (cy : Nat → ClassId) (nw : Nat) (av : List Value) (S : PS) (post : PS → Prop) (mc ms : Nat) : Prop :=
  ∀ sz, Met l y ws (rmOf fr mc ms lo) (va_Pc av (MBf D cy nw S sz)) (va_Qv post (MAf D cy (va_A (wW cy S) sz)) (va_A (wW cy S) sz)) mc ms (va_A (wW cy S) sz)
def kR (l : Launch) (y : MethodName) (ws : List Cond) (fr lo : Nat) (D : va_G) (cy : Nat → ClassId) (nw : Nat) (av : List Value) (S : PS) (post : Option Nat → PS → Prop) (mc ms : Nat) : Prop :=
  ∀ sz, Met l y ws (rmOf fr mc ms lo) (va_Pc av (MBf D cy nw S sz)) (va_Qq post (MAf D cy (va_A (wW cy S) sz)) (va_A (wW cy S) sz)) mc ms (va_A (wW cy S) sz)
def QI (F : Fx) (post : Int32 → PS → Prop) (mc ms : Nat) : State → Prop := MQ F.below (va_Qi post (MAf F.D F.cy F.A) F.A) F.args F.s mc ms F.A
def QL (F : Fx) (post : Int64 → PS → Prop) (mc ms : Nat) : State → Prop := MQ F.below (va_Ql post (MAf F.D F.cy F.A) F.A) F.args F.s mc ms F.A
def QV (F : Fx) (post : PS → Prop) (mc ms : Nat) : State → Prop := MQ F.below (va_Qv post (MAf F.D F.cy F.A) F.A) F.args F.s mc ms F.A
def QR (F : Fx) (post : Option Nat → PS → Prop) (mc ms : Nat) : State → Prop := MQ F.below (va_Qq post (MAf F.D F.cy F.A) F.A) F.args F.s mc ms F.A
theorem mb_blind {D : va_G} {cy : Nat → ClassId} {nw : Nat} {S : PS} {sz : Nat} {av : List Value} : FrameBlind (va_Pc av (MBf D cy nw S sz)) := by
  intro a U g mk q
  obtain ⟨q0, q1, qP, qK, qD, qN⟩ := q
  exact ⟨q0, q1, qP, va_K.moved (u := U) (U := U.calling g mk a) (Vm.Alike.refl U.vm) qK, qD, NwO.same (u := U) (U := U.calling g mk a) rfl qN⟩

theorem enterI {l : Launch} {y : MethodName} {ws ws' : List Cond} {fr lo : Nat} {D : va_G} {cy : Nat → ClassId} {nw : Nat} {av : List Value} {S : PS} {post : Int32 → PS → Prop} {mc ms : Nat} {cc : ByteArray} {nL : Nat} {ret : Option FieldType} (hy : plainName y.cls = true) (hw : ws = Cond.code y cc nL ret :: ws') (hav : (lg_sl av).length ≤ nL)
    (body : ∀ F : Fx, Cx F cc nL y.cls ws ret → F.l = l → F.R = rmOf fr mc ms lo → F.D = D → F.cy = cy → F.nw = nw → F.meth.name = y.name → G F nL S 0 0 (QI F post mc ms) 0 (lv_args 0 av) []) : kI l y ws fr lo D cy nw av S post mc ms := by
  intro sz
  refine Met.ofW hy hw ?_
  intro p e s m args below meth c s₁ B hml hv
  obtain ⟨rfl, hsz, hP, hK, hD0, hN⟩ := hv
  subst hsz
  have hg := body (p, l, e, (headSpec ws (rmOf fr mc ms lo)).room, s, m, av.toArray, below, meth, c, D, cy, va_A (wW cy S) s.heap.size, s.heap, nw)
    ⟨B.exec, B.bytes, hml, findClass_of_methodNamed B.named, atoms_spec (ws := ws) B.pre, B.notSynchronized, hK, fun q h => Or.inr h, B.returns, hN, rfl⟩ rfl rfl rfl rfl rfl (name_of_methodNamed B.named B.method).1
  rw [lg_entry_eq]
  exact hg s.heap [] _ hP (hD0.self (sz := s.heap.size)) va_S.rf (lv_entry av hav)
theorem enterL {l : Launch} {y : MethodName} {ws ws' : List Cond} {fr lo : Nat} {D : va_G} {cy : Nat → ClassId} {nw : Nat} {av : List Value} {S : PS} {post : Int64 → PS → Prop} {mc ms : Nat} {cc : ByteArray} {nL : Nat} {ret : Option FieldType} (hy : plainName y.cls = true) (hw : ws = Cond.code y cc nL ret :: ws') (hav : (lg_sl av).length ≤ nL)
    (body : ∀ F : Fx, Cx F cc nL y.cls ws ret → F.l = l → F.R = rmOf fr mc ms lo → F.D = D → F.cy = cy → F.nw = nw → F.meth.name = y.name → G F nL S 0 0 (QL F post mc ms) 0 (lv_args 0 av) []) : kL l y ws fr lo D cy nw av S post mc ms := by
  intro sz
  refine Met.ofW hy hw ?_
  intro p e s m args below meth c s₁ B hml hv
  obtain ⟨rfl, hsz, hP, hK, hD0, hN⟩ := hv
  subst hsz
  have hg := body (p, l, e, (headSpec ws (rmOf fr mc ms lo)).room, s, m, av.toArray, below, meth, c, D, cy, va_A (wW cy S) s.heap.size, s.heap, nw)
    ⟨B.exec, B.bytes, hml, findClass_of_methodNamed B.named, atoms_spec (ws := ws) B.pre, B.notSynchronized, hK, fun q h => Or.inr h, B.returns, hN, rfl⟩ rfl rfl rfl rfl rfl (name_of_methodNamed B.named B.method).1
  rw [lg_entry_eq]
  exact hg s.heap [] _ hP (hD0.self (sz := s.heap.size)) va_S.rf (lv_entry av hav)
theorem enterV {l : Launch} {y : MethodName} {ws ws' : List Cond} {fr lo : Nat} {D : va_G} {cy : Nat → ClassId} {nw : Nat} {av : List Value} {S : PS} {post : PS → Prop} {mc ms : Nat} {cc : ByteArray} {nL : Nat} {ret : Option FieldType} (hy : plainName y.cls = true) (hw : ws = Cond.code y cc nL ret :: ws') (hav : (lg_sl av).length ≤ nL)
    (body : ∀ F : Fx, Cx F cc nL y.cls ws ret → F.l = l → F.R = rmOf fr mc ms lo → F.D = D → F.cy = cy → F.nw = nw → F.meth.name = y.name → G F nL S 0 0 (QV F post mc ms) 0 (lv_args 0 av) []) : kV l y ws fr lo D cy nw av S post mc ms := by
  intro sz
  refine Met.ofW hy hw ?_
  intro p e s m args below meth c s₁ B hml hv
  obtain ⟨rfl, hsz, hP, hK, hD0, hN⟩ := hv
  subst hsz
  have hg := body (p, l, e, (headSpec ws (rmOf fr mc ms lo)).room, s, m, av.toArray, below, meth, c, D, cy, va_A (wW cy S) s.heap.size, s.heap, nw)
    ⟨B.exec, B.bytes, hml, findClass_of_methodNamed B.named, atoms_spec (ws := ws) B.pre, B.notSynchronized, hK, fun q h => Or.inr h, B.returns, hN, rfl⟩ rfl rfl rfl rfl rfl (name_of_methodNamed B.named B.method).1
  rw [lg_entry_eq]
  exact hg s.heap [] _ hP (hD0.self (sz := s.heap.size)) va_S.rf (lv_entry av hav)
theorem enterR {l : Launch} {y : MethodName} {ws ws' : List Cond} {fr lo : Nat} {D : va_G} {cy : Nat → ClassId} {nw : Nat} {av : List Value} {S : PS} {post : Option Nat → PS → Prop} {mc ms : Nat} {cc : ByteArray} {nL : Nat} {ret : Option FieldType} (hy : plainName y.cls = true) (hw : ws = Cond.code y cc nL ret :: ws') (hav : (lg_sl av).length ≤ nL)
    (body : ∀ F : Fx, Cx F cc nL y.cls ws ret → F.l = l → F.R = rmOf fr mc ms lo → F.D = D → F.cy = cy → F.nw = nw → F.meth.name = y.name → G F nL S 0 0 (QR F post mc ms) 0 (lv_args 0 av) []) : kR l y ws fr lo D cy nw av S post mc ms := by
  intro sz
  refine Met.ofW hy hw ?_
  intro p e s m args below meth c s₁ B hml hv
  obtain ⟨rfl, hsz, hP, hK, hD0, hN⟩ := hv
  subst hsz
  have hg := body (p, l, e, (headSpec ws (rmOf fr mc ms lo)).room, s, m, av.toArray, below, meth, c, D, cy, va_A (wW cy S) s.heap.size, s.heap, nw)
    ⟨B.exec, B.bytes, hml, findClass_of_methodNamed B.named, atoms_spec (ws := ws) B.pre, B.notSynchronized, hK, fun q h => Or.inr h, B.returns, hN, rfl⟩ rfl rfl rfl rfl rfl (name_of_methodNamed B.named B.method).1
  rw [lg_entry_eq]
  exact hg s.heap [] _ hP (hD0.self (sz := s.heap.size)) va_S.rf (lv_entry av hav)
section CR
variable {F : Fx} {cc : ByteArray} {nL : Nat} {own : String} {Ts : List Cond} {ret : Option FieldType} {S : PS} {kc ks : Nat} {Q : State → Prop} {pc : Nat} {lv : List (Nat × Value)} {st : List Value} {a : Nat} {mc ms : Nat}
theorem hS_F (Z : Cx F cc nL own Ts ret) {H : Heap} {locs : List Loc} (hS : va_S F.A F.H0 H locs) {t : State} (ht : t.heap = H) : va_F F.A F.s t := by
  have h := hS
  rw [Z.2.2.2.2.2.2.2.2.2.2] at h
  exact h.F ht
theorem g_iret (Z : Cx F cc nL own Ts (some .int)) {post : Int32 → PS → Prop} {r : Int32} (d : decode cc pc = .ok (.ireturn, 1)) (h1 : kc ≤ mc) (h2 : ks ≤ ms) (hp : post r S) : G F nL S kc ks (QI F post mc ms) pc lv [.int r] := by
  intro H locs ls hP hD hS hl
  exact W.widen h1 h2 (W.iret Z.1 Z.2.1 Z.2.2.2.2.2.2.2.2.1 (fun t ht hW => ⟨⟨r, S, rfl, hp, by rw [ht]; exact hP, va_K.moved hW.alike Z.2.2.2.2.2.2.1, hD⟩, hS_F Z hS ht⟩) hS.2.2 d Z.2.2.2.2.2.1)
theorem g_zret (Z : Cx F cc nL own Ts (some .boolean)) {post : Int32 → PS → Prop} {r : Int32} (d : decode cc pc = .ok (.ireturn, 1)) (hn : narrow .boolean (.int r) = .int r) (h1 : kc ≤ mc) (h2 : ks ≤ ms) (hp : post r S) : G F nL S kc ks (QI F post mc ms) pc lv [.int r] := by
  intro H locs ls hP hD hS hl
  exact W.widen h1 h2 (W.zret Z.1 Z.2.1 Z.2.2.2.2.2.2.2.2.1 hn (fun t ht hW => ⟨⟨r, S, rfl, hp, by rw [ht]; exact hP, va_K.moved hW.alike Z.2.2.2.2.2.2.1, hD⟩, hS_F Z hS ht⟩) hS.2.2 d Z.2.2.2.2.2.1)
theorem g_lret (Z : Cx F cc nL own Ts (some .long)) {post : Int64 → PS → Prop} {r : Int64} (d : decode cc pc = .ok (.lreturn, 1)) (h1 : kc ≤ mc) (h2 : ks ≤ ms) (hp : post r S) : G F nL S kc ks (QL F post mc ms) pc lv [.long r] := by
  intro H locs ls hP hD hS hl
  exact W.widen h1 h2 (W.lret Z.1 Z.2.1 Z.2.2.2.2.2.2.2.2.1 (fun t ht hW => ⟨⟨r, S, rfl, hp, by rw [ht]; exact hP, va_K.moved hW.alike Z.2.2.2.2.2.2.1, hD⟩, hS_F Z hS ht⟩) hS.2.2 d Z.2.2.2.2.2.1)
theorem g_vret (Z : Cx F cc nL own Ts none) {post : PS → Prop} (d : decode cc pc = .ok (.return_, 1)) (h1 : kc ≤ mc) (h2 : ks ≤ ms) (hp : post S) : G F nL S kc ks (QV F post mc ms) pc lv [] := by
  intro H locs ls hP hD hS hl
  exact W.widen h1 h2 (W.vret Z.1 Z.2.1 Z.2.2.2.2.2.2.2.2.1 (fun t ht hW => ⟨⟨S, rfl, hp, by rw [ht]; exact hP, va_K.moved hW.alike Z.2.2.2.2.2.2.1, hD⟩, hS_F Z hS ht⟩) hS.2.2 d Z.2.2.2.2.2.1)
theorem g_aret (Z : Cx F cc nL own Ts ret) {rt : FieldType} {post : Option Nat → PS → Prop} {r : Nat} (hr : ret = some rt) (hrt : (∃ n, rt = .object n) ∨ ∃ t, rt = .array t) (d : decode cc pc = .ok (.areturn, 1)) (h1 : kc ≤ mc) (h2 : ks ≤ ms) (hp : post (some r) S) : G F nL S kc ks (QR F post mc ms) pc lv [.ref r] := by
  intro H locs ls hP hD hS hl
  subst hr
  exact W.widen h1 h2 (W.aret Z.1 Z.2.1 Z.2.2.2.2.2.2.2.2.1 hrt (Or.inr ⟨r, rfl⟩) (fun t ht hW => ⟨⟨some r, S, rfl, hp, by rw [ht]; exact hP, va_K.moved hW.alike Z.2.2.2.2.2.2.1, hD⟩, hS_F Z hS ht⟩) hS.2.2 d Z.2.2.2.2.2.1)
theorem g_aretN (Z : Cx F cc nL own Ts ret) {rt : FieldType} {post : Option Nat → PS → Prop} (hr : ret = some rt) (hrt : (∃ n, rt = .object n) ∨ ∃ t, rt = .array t) (d : decode cc pc = .ok (.areturn, 1)) (h1 : kc ≤ mc) (h2 : ks ≤ ms) (hp : post none S) : G F nL S kc ks (QR F post mc ms) pc lv [.null] := by
  intro H locs ls hP hD hS hl
  subst hr
  exact W.widen h1 h2 (W.aret Z.1 Z.2.1 Z.2.2.2.2.2.2.2.2.1 hrt (Or.inl rfl) (fun t ht hW => ⟨⟨none, S, rfl, hp, by rw [ht]; exact hP, va_K.moved hW.alike Z.2.2.2.2.2.2.1, hD⟩, hS_F Z hS ht⟩) hS.2.2 d Z.2.2.2.2.2.1)
theorem ww_free (Z : Cx F cc nL own Ts ret) {H : Heap} {locs : List Loc} (hD : va_D F.A (wW F.cy S)) (hS : va_S F.A F.H0 H locs) : ∀ q, va_A (wW F.cy S) H.size q → F.A q := by
  intro q h
  rcases h with ⟨k, e, h⟩ | h
  · exact hD.2 k _ h
  · exact Z.2.2.2.2.2.2.2.1 q (Nat.le_trans hS.1 h)
theorem mb_of (Z : Cx F cc nL own Ts ret) {H : Heap} {locs : List Loc} (hP : va_P F.D vwCl (wW F.cy S) H) (hD : va_D F.A (wW F.cy S)) (hS : va_S F.A F.H0 H locs) {U : State} (hU : U.heap = H) (hW : F.s.WarmedH U.vm) : MBf F.D F.cy F.nw S H.size U :=
  ⟨by rw [hU], by rw [hU]; exact hP, va_K.moved hW.alike Z.2.2.2.2.2.2.1, hD.weaken (fun _ _ _ _ => trivial), by rw [hU]; exact ((nw_now Z hS).narrow (ww_free Z hD hS)).warm hW⟩

theorem g_cvI (Z : Cx F cc nL own Ts ret) {y : MethodName} {ws ws' : List Cond} {fr lo ix maxL : Nat} {bytes : ByteArray} {ret2 : Option FieldType} {C : String} {b κ N : Nat} {T0 : u_T} {As stk : List Value} {post : Int32 → PS → Prop} (hM : kI F.l y ws fr lo F.D F.cy F.nw (.ref b :: As) S post mc ms) (n : Nat) (hT : GoodIn Ts (wsV own ix C y ws)) (hw : ws = Cond.code y bytes maxL ret2 :: ws') (hd : y.cls = C ∧ y.cls ≠ "java/lang/invoke/MethodHandle" ∧ y.cls ≠ "java/lang/invoke/VarHandle" ∧ (parseMethodDescriptor y.desc).map (fun d => d.parameters.length) = some n) (hR : fr + 1 ≤ F.R.frames ∧ 8 + (maxL + 11) + lo ≤ F.R.locals) (hb : b ∈ S.L) (hKb : S.K b = κ) (hc : vwCl[κ]? = some (C, T0, N)) (hκ : κ < 7) (hn : As.length = n) (hst : stk = As.reverse ++ .ref b :: st) (hW : (st.map fun v => v.category).sum ≤ 8) (d : decode cc pc = .ok (.invokevirtual ix, 3)) (hf : kc + mc ≤ F.R.cells ∧ ks + ms ≤ F.R.slots)
    (k : ∀ (r : Int32) (T : PS), post r T → G F nL T (kc + mc) (ks + ms) Q (pc + 3) lv (.int r :: st)) : G F nL S kc ks Q pc lv stk := by
  intro H locs ls hP hD hS hl
  obtain ⟨k0, hk0⟩ := ww_at F.cy S hb
  rw [wcell_o F.cy S hKb hκ] at hk0
  have hF := ww_free Z hD hS
  refine va_calli (va_runV (As := As) (rest := st) ⟨Z.1, Z.2.1, Z.2.2.1, Z.2.2.2.1, Z.2.2.2.2.1⟩ (hM H.size) (cwV n Z.2.2.2.2.1 hT hw rfl rfl hd hR) ⟨mb_blind, va_recv Z.2.2.2.2.2.2.1 hP hc hk0, fun U hU hW => ⟨rfl, mb_of Z hP hD hS hU hW⟩⟩ rfl hn hl.1 hst (lv_room hW) d hf) hS (fun q _ h => hF q h) hF (fun r u t H1 locs1 ht hvm hw hB hz1 hk1 hS1 => ?_)
  obtain ⟨hP1, hK1, hD1⟩ := hB
  rw [ht] at hP1
  exact k r u hw H1 locs1 ls hP1 (hD1.weaken (fun k q _ h => hF q.1 h)) hS1 hl
theorem g_csI (Z : Cx F cc nL own Ts ret) {y : MethodName} {ws ws' : List Cond} {fr lo ix maxL : Nat} {bytes : ByteArray} {ret2 : Option FieldType} {As stk : List Value} {post : Int32 → PS → Prop} (hM : kI F.l y ws fr lo F.D F.cy F.nw As S post mc ms) (n : Nat) (hT : GoodIn Ts (va_wsS own ix y ws)) (hw : ws = Cond.code y bytes maxL ret2 :: ws') (hd : y.cls ≠ "java/lang/invoke/MethodHandle" ∧ y.cls ≠ "java/lang/invoke/VarHandle" ∧ (parseMethodDescriptor y.desc).map (fun d => d.parameters.length) = some n) (hR : fr + 1 ≤ F.R.frames ∧ 8 + (maxL + 11) + lo ≤ F.R.locals) (hn : As.length = n) (hst : stk = As.reverse ++ st) (hW : (st.map fun v => v.category).sum ≤ 8) (d : decode cc pc = .ok (.invokestatic ix, 3)) (hf : kc + mc ≤ F.R.cells ∧ ks + ms ≤ F.R.slots)
    (k : ∀ (r : Int32) (T : PS), post r T → G F nL T (kc + mc) (ks + ms) Q (pc + 3) lv (.int r :: st)) : G F nL S kc ks Q pc lv stk := by
  intro H locs ls hP hD hS hl
  have hF := ww_free Z hD hS
  refine va_calli (va_runS (As := As) (rest := st) ⟨Z.1, Z.2.1, Z.2.2.1, Z.2.2.2.1, Z.2.2.2.2.1⟩ (hM H.size) (va_cwS n Z.2.2.2.2.1 hT hw rfl rfl hd hR) ⟨mb_blind, fun U hU hW => ⟨rfl, mb_of Z hP hD hS hU hW⟩⟩ rfl hn hl.1 hst (lv_room hW) d hf) hS (fun q _ h => hF q h) hF (fun r u t H1 locs1 ht hvm hw hB hz1 hk1 hS1 => ?_)
  obtain ⟨hP1, hK1, hD1⟩ := hB
  rw [ht] at hP1
  exact k r u hw H1 locs1 ls hP1 (hD1.weaken (fun k q _ h => hF q.1 h)) hS1 hl
theorem g_cvL (Z : Cx F cc nL own Ts ret) {y : MethodName} {ws ws' : List Cond} {fr lo ix maxL : Nat} {bytes : ByteArray} {ret2 : Option FieldType} {C : String} {b κ N : Nat} {T0 : u_T} {As stk : List Value} {post : Int64 → PS → Prop} (hM : kL F.l y ws fr lo F.D F.cy F.nw (.ref b :: As) S post mc ms) (n : Nat) (hT : GoodIn Ts (wsV own ix C y ws)) (hw : ws = Cond.code y bytes maxL ret2 :: ws') (hd : y.cls = C ∧ y.cls ≠ "java/lang/invoke/MethodHandle" ∧ y.cls ≠ "java/lang/invoke/VarHandle" ∧ (parseMethodDescriptor y.desc).map (fun d => d.parameters.length) = some n) (hR : fr + 1 ≤ F.R.frames ∧ 8 + (maxL + 11) + lo ≤ F.R.locals) (hb : b ∈ S.L) (hKb : S.K b = κ) (hc : vwCl[κ]? = some (C, T0, N)) (hκ : κ < 7) (hn : As.length = n) (hst : stk = As.reverse ++ .ref b :: st) (hW : (st.map fun v => v.category).sum ≤ 8) (d : decode cc pc = .ok (.invokevirtual ix, 3)) (hf : kc + mc ≤ F.R.cells ∧ ks + ms ≤ F.R.slots)
    (k : ∀ (r : Int64) (T : PS), post r T → G F nL T (kc + mc) (ks + ms) Q (pc + 3) lv (.long r :: st)) : G F nL S kc ks Q pc lv stk := by
  intro H locs ls hP hD hS hl
  obtain ⟨k0, hk0⟩ := ww_at F.cy S hb
  rw [wcell_o F.cy S hKb hκ] at hk0
  have hF := ww_free Z hD hS
  refine va_calll (va_runV (As := As) (rest := st) ⟨Z.1, Z.2.1, Z.2.2.1, Z.2.2.2.1, Z.2.2.2.2.1⟩ (hM H.size) (cwV n Z.2.2.2.2.1 hT hw rfl rfl hd hR) ⟨mb_blind, va_recv Z.2.2.2.2.2.2.1 hP hc hk0, fun U hU hW => ⟨rfl, mb_of Z hP hD hS hU hW⟩⟩ rfl hn hl.1 hst (lv_room hW) d hf) hS (fun q _ h => hF q h) hF (fun r u t H1 locs1 ht hvm hw hB hz1 hk1 hS1 => ?_)
  obtain ⟨hP1, hK1, hD1⟩ := hB
  rw [ht] at hP1
  exact k r u hw H1 locs1 ls hP1 (hD1.weaken (fun k q _ h => hF q.1 h)) hS1 hl
theorem g_csL (Z : Cx F cc nL own Ts ret) {y : MethodName} {ws ws' : List Cond} {fr lo ix maxL : Nat} {bytes : ByteArray} {ret2 : Option FieldType} {As stk : List Value} {post : Int64 → PS → Prop} (hM : kL F.l y ws fr lo F.D F.cy F.nw As S post mc ms) (n : Nat) (hT : GoodIn Ts (va_wsS own ix y ws)) (hw : ws = Cond.code y bytes maxL ret2 :: ws') (hd : y.cls ≠ "java/lang/invoke/MethodHandle" ∧ y.cls ≠ "java/lang/invoke/VarHandle" ∧ (parseMethodDescriptor y.desc).map (fun d => d.parameters.length) = some n) (hR : fr + 1 ≤ F.R.frames ∧ 8 + (maxL + 11) + lo ≤ F.R.locals) (hn : As.length = n) (hst : stk = As.reverse ++ st) (hW : (st.map fun v => v.category).sum ≤ 8) (d : decode cc pc = .ok (.invokestatic ix, 3)) (hf : kc + mc ≤ F.R.cells ∧ ks + ms ≤ F.R.slots)
    (k : ∀ (r : Int64) (T : PS), post r T → G F nL T (kc + mc) (ks + ms) Q (pc + 3) lv (.long r :: st)) : G F nL S kc ks Q pc lv stk := by
  intro H locs ls hP hD hS hl
  have hF := ww_free Z hD hS
  refine va_calll (va_runS (As := As) (rest := st) ⟨Z.1, Z.2.1, Z.2.2.1, Z.2.2.2.1, Z.2.2.2.2.1⟩ (hM H.size) (va_cwS n Z.2.2.2.2.1 hT hw rfl rfl hd hR) ⟨mb_blind, fun U hU hW => ⟨rfl, mb_of Z hP hD hS hU hW⟩⟩ rfl hn hl.1 hst (lv_room hW) d hf) hS (fun q _ h => hF q h) hF (fun r u t H1 locs1 ht hvm hw hB hz1 hk1 hS1 => ?_)
  obtain ⟨hP1, hK1, hD1⟩ := hB
  rw [ht] at hP1
  exact k r u hw H1 locs1 ls hP1 (hD1.weaken (fun k q _ h => hF q.1 h)) hS1 hl
theorem g_cvV (Z : Cx F cc nL own Ts ret) {y : MethodName} {ws ws' : List Cond} {fr lo ix maxL : Nat} {bytes : ByteArray} {ret2 : Option FieldType} {C : String} {b κ N : Nat} {T0 : u_T} {As stk : List Value} {post : PS → Prop} (hM : kV F.l y ws fr lo F.D F.cy F.nw (.ref b :: As) S post mc ms) (n : Nat) (hT : GoodIn Ts (wsV own ix C y ws)) (hw : ws = Cond.code y bytes maxL ret2 :: ws') (hd : y.cls = C ∧ y.cls ≠ "java/lang/invoke/MethodHandle" ∧ y.cls ≠ "java/lang/invoke/VarHandle" ∧ (parseMethodDescriptor y.desc).map (fun d => d.parameters.length) = some n) (hR : fr + 1 ≤ F.R.frames ∧ 8 + (maxL + 11) + lo ≤ F.R.locals) (hb : b ∈ S.L) (hKb : S.K b = κ) (hc : vwCl[κ]? = some (C, T0, N)) (hκ : κ < 7) (hn : As.length = n) (hst : stk = As.reverse ++ .ref b :: st) (hW : (st.map fun v => v.category).sum ≤ 8) (d : decode cc pc = .ok (.invokevirtual ix, 3)) (hf : kc + mc ≤ F.R.cells ∧ ks + ms ≤ F.R.slots)
    (k : ∀ (T : PS), post T → G F nL T (kc + mc) (ks + ms) Q (pc + 3) lv st) : G F nL S kc ks Q pc lv stk := by
  intro H locs ls hP hD hS hl
  obtain ⟨k0, hk0⟩ := ww_at F.cy S hb
  rw [wcell_o F.cy S hKb hκ] at hk0
  have hF := ww_free Z hD hS
  refine va_callv (va_runV (As := As) (rest := st) ⟨Z.1, Z.2.1, Z.2.2.1, Z.2.2.2.1, Z.2.2.2.2.1⟩ (hM H.size) (cwV n Z.2.2.2.2.1 hT hw rfl rfl hd hR) ⟨mb_blind, va_recv Z.2.2.2.2.2.2.1 hP hc hk0, fun U hU hW => ⟨rfl, mb_of Z hP hD hS hU hW⟩⟩ rfl hn hl.1 hst (lv_room hW) d hf) hS (fun q _ h => hF q h) hF (fun u t H1 locs1 ht hvm hw hB hz1 hk1 hS1 => ?_)
  obtain ⟨hP1, hK1, hD1⟩ := hB
  rw [ht] at hP1
  exact k u hw H1 locs1 ls hP1 (hD1.weaken (fun k q _ h => hF q.1 h)) hS1 hl
theorem g_csV (Z : Cx F cc nL own Ts ret) {y : MethodName} {ws ws' : List Cond} {fr lo ix maxL : Nat} {bytes : ByteArray} {ret2 : Option FieldType} {As stk : List Value} {post : PS → Prop} (hM : kV F.l y ws fr lo F.D F.cy F.nw As S post mc ms) (n : Nat) (hT : GoodIn Ts (va_wsS own ix y ws)) (hw : ws = Cond.code y bytes maxL ret2 :: ws') (hd : y.cls ≠ "java/lang/invoke/MethodHandle" ∧ y.cls ≠ "java/lang/invoke/VarHandle" ∧ (parseMethodDescriptor y.desc).map (fun d => d.parameters.length) = some n) (hR : fr + 1 ≤ F.R.frames ∧ 8 + (maxL + 11) + lo ≤ F.R.locals) (hn : As.length = n) (hst : stk = As.reverse ++ st) (hW : (st.map fun v => v.category).sum ≤ 8) (d : decode cc pc = .ok (.invokestatic ix, 3)) (hf : kc + mc ≤ F.R.cells ∧ ks + ms ≤ F.R.slots)
    (k : ∀ (T : PS), post T → G F nL T (kc + mc) (ks + ms) Q (pc + 3) lv st) : G F nL S kc ks Q pc lv stk := by
  intro H locs ls hP hD hS hl
  have hF := ww_free Z hD hS
  refine va_callv (va_runS (As := As) (rest := st) ⟨Z.1, Z.2.1, Z.2.2.1, Z.2.2.2.1, Z.2.2.2.2.1⟩ (hM H.size) (va_cwS n Z.2.2.2.2.1 hT hw rfl rfl hd hR) ⟨mb_blind, fun U hU hW => ⟨rfl, mb_of Z hP hD hS hU hW⟩⟩ rfl hn hl.1 hst (lv_room hW) d hf) hS (fun q _ h => hF q h) hF (fun u t H1 locs1 ht hvm hw hB hz1 hk1 hS1 => ?_)
  obtain ⟨hP1, hK1, hD1⟩ := hB
  rw [ht] at hP1
  exact k u hw H1 locs1 ls hP1 (hD1.weaken (fun k q _ h => hF q.1 h)) hS1 hl
theorem g_cvR (Z : Cx F cc nL own Ts ret) {y : MethodName} {ws ws' : List Cond} {fr lo ix maxL : Nat} {bytes : ByteArray} {ret2 : Option FieldType} {C : String} {b κ N : Nat} {T0 : u_T} {As stk : List Value} {post : Option Nat → PS → Prop} (hM : kR F.l y ws fr lo F.D F.cy F.nw (.ref b :: As) S post mc ms) (n : Nat) (hT : GoodIn Ts (wsV own ix C y ws)) (hw : ws = Cond.code y bytes maxL ret2 :: ws') (hd : y.cls = C ∧ y.cls ≠ "java/lang/invoke/MethodHandle" ∧ y.cls ≠ "java/lang/invoke/VarHandle" ∧ (parseMethodDescriptor y.desc).map (fun d => d.parameters.length) = some n) (hR : fr + 1 ≤ F.R.frames ∧ 8 + (maxL + 11) + lo ≤ F.R.locals) (hb : b ∈ S.L) (hKb : S.K b = κ) (hc : vwCl[κ]? = some (C, T0, N)) (hκ : κ < 7) (hn : As.length = n) (hst : stk = As.reverse ++ .ref b :: st) (hW : (st.map fun v => v.category).sum ≤ 8) (d : decode cc pc = .ok (.invokevirtual ix, 3)) (hf : kc + mc ≤ F.R.cells ∧ ks + ms ≤ F.R.slots)
    (k : ∀ (r : Option Nat) (T : PS), post r T → G F nL T (kc + mc) (ks + ms) Q (pc + 3) lv (va_rf r :: st)) : G F nL S kc ks Q pc lv stk := by
  intro H locs ls hP hD hS hl
  obtain ⟨k0, hk0⟩ := ww_at F.cy S hb
  rw [wcell_o F.cy S hKb hκ] at hk0
  have hF := ww_free Z hD hS
  refine va_callq (va_runV (As := As) (rest := st) ⟨Z.1, Z.2.1, Z.2.2.1, Z.2.2.2.1, Z.2.2.2.2.1⟩ (hM H.size) (cwV n Z.2.2.2.2.1 hT hw rfl rfl hd hR) ⟨mb_blind, va_recv Z.2.2.2.2.2.2.1 hP hc hk0, fun U hU hW => ⟨rfl, mb_of Z hP hD hS hU hW⟩⟩ rfl hn hl.1 hst (lv_room hW) d hf) hS (fun q _ h => hF q h) hF (fun r u t H1 locs1 ht hvm hw hB hz1 hk1 hS1 => ?_)
  obtain ⟨hP1, hK1, hD1⟩ := hB
  rw [ht] at hP1
  exact k r u hw H1 locs1 ls hP1 (hD1.weaken (fun k q _ h => hF q.1 h)) hS1 hl
theorem g_csR (Z : Cx F cc nL own Ts ret) {y : MethodName} {ws ws' : List Cond} {fr lo ix maxL : Nat} {bytes : ByteArray} {ret2 : Option FieldType} {As stk : List Value} {post : Option Nat → PS → Prop} (hM : kR F.l y ws fr lo F.D F.cy F.nw As S post mc ms) (n : Nat) (hT : GoodIn Ts (va_wsS own ix y ws)) (hw : ws = Cond.code y bytes maxL ret2 :: ws') (hd : y.cls ≠ "java/lang/invoke/MethodHandle" ∧ y.cls ≠ "java/lang/invoke/VarHandle" ∧ (parseMethodDescriptor y.desc).map (fun d => d.parameters.length) = some n) (hR : fr + 1 ≤ F.R.frames ∧ 8 + (maxL + 11) + lo ≤ F.R.locals) (hn : As.length = n) (hst : stk = As.reverse ++ st) (hW : (st.map fun v => v.category).sum ≤ 8) (d : decode cc pc = .ok (.invokestatic ix, 3)) (hf : kc + mc ≤ F.R.cells ∧ ks + ms ≤ F.R.slots)
    (k : ∀ (r : Option Nat) (T : PS), post r T → G F nL T (kc + mc) (ks + ms) Q (pc + 3) lv (va_rf r :: st)) : G F nL S kc ks Q pc lv stk := by
  intro H locs ls hP hD hS hl
  have hF := ww_free Z hD hS
  refine va_callq (va_runS (As := As) (rest := st) ⟨Z.1, Z.2.1, Z.2.2.1, Z.2.2.2.1, Z.2.2.2.2.1⟩ (hM H.size) (va_cwS n Z.2.2.2.2.1 hT hw rfl rfl hd hR) ⟨mb_blind, fun U hU hW => ⟨rfl, mb_of Z hP hD hS hU hW⟩⟩ rfl hn hl.1 hst (lv_room hW) d hf) hS (fun q _ h => hF q h) hF (fun r u t H1 locs1 ht hvm hw hB hz1 hk1 hS1 => ?_)
  obtain ⟨hP1, hK1, hD1⟩ := hB
  rw [ht] at hP1
  exact k r u hw H1 locs1 ls hP1 (hD1.weaken (fun k q _ h => hF q.1 h)) hS1 hl
theorem g_ci (Z : Cx F cc nL own Ts ret) {y : MethodName} {ws ws' : List Cond} {fr lo ix maxL : Nat} {bytes : ByteArray} {b : Nat} {As stk : List Value} {post : PS → Prop} (hM : kV F.l y ws fr lo F.D F.cy F.nw (.ref b :: As) S post mc ms) (n : Nat) (hT : GoodIn Ts ws) (hw : ws = Cond.code y bytes maxL none :: ws') (hi1 : Cond.initialized y.cls ∈ Ts) (hi2 : Cond.methodLink own ix y ∈ Ts) (hi3 : Cond.instanceMethod y ∈ Ts) (hy1 : y.name = "<init>") (hd : y.cls ≠ "java/lang/invoke/MethodHandle" ∧ y.cls ≠ "java/lang/invoke/VarHandle" ∧ (parseMethodDescriptor y.desc).map (fun d => d.parameters.length) = some n) (hR : fr + 1 ≤ F.R.frames ∧ 8 + (maxL + 11) + lo ≤ F.R.locals) (hn : As.length = n) (hst : stk = As.reverse ++ .ref b :: st) (hW : (st.map fun v => v.category).sum ≤ 8) (d : decode cc pc = .ok (.invokespecial ix, 3)) (hf : kc + mc ≤ F.R.cells ∧ ks + ms ≤ F.R.slots)
    (k : ∀ (T : PS), post T → G F nL T (kc + mc) (ks + ms) Q (pc + 3) lv st) : G F nL S kc ks Q pc lv stk := by
  intro H locs ls hP hD hS hl
  have hF := ww_free Z hD hS
  refine va_callv (va_runI (As := As) (rest := st) ⟨Z.1, Z.2.1, Z.2.2.1, Z.2.2.2.1, Z.2.2.2.2.1⟩ (hM H.size) (cwI n Z.2.2.2.2.1 hT hw rfl rfl (Z.2.2.2.2.1 _ hi1) (Z.2.2.2.2.1 _ hi2) (Z.2.2.2.2.1 _ hi3) hy1 hd hR) ⟨mb_blind, fun U hU hW => ⟨rfl, mb_of Z hP hD hS hU hW⟩⟩ rfl hn hl.1 hst (lv_room hW) d hf) hS (fun q _ h => hF q h) hF (fun u t H1 locs1 ht hvm hw hB hz1 hk1 hS1 => ?_)
  obtain ⟨hP1, hK1, hD1⟩ := hB
  rw [ht] at hP1
  exact k u hw H1 locs1 ls hP1 (hD1.weaken (fun k q _ h => hF q.1 h)) hS1 hl
/-- a nest mate's private constructor -/
theorem g_ciN (Z : Cx F cc nL own Ts ret) {y : MethodName} {ws ws' : List Cond} {fr lo ix maxL : Nat} {bytes : ByteArray} {b : Nat} {As stk : List Value} {post : PS → Prop} (hM : kV F.l y ws fr lo F.D F.cy F.nw (.ref b :: As) S post mc ms) (n : Nat) (hT : GoodIn Ts ws) (hw : ws = Cond.code y bytes maxL none :: ws') (hi1 : Cond.initialized y.cls ∈ Ts) (hi2 : va_Nw (.methodLinkNest own ix y "RoaringIndex") F.s) (hi3 : Cond.instanceMethod y ∈ Ts) (hy1 : y.name = "<init>") (hd : y.cls ≠ "java/lang/invoke/MethodHandle" ∧ y.cls ≠ "java/lang/invoke/VarHandle" ∧ (parseMethodDescriptor y.desc).map (fun d => d.parameters.length) = some n) (hR : fr + 1 ≤ F.R.frames ∧ 8 + (maxL + 11) + lo ≤ F.R.locals) (hn : As.length = n) (hst : stk = As.reverse ++ .ref b :: st) (hW : (st.map fun v => v.category).sum ≤ 8) (d : decode cc pc = .ok (.invokespecial ix, 3)) (hf : kc + mc ≤ F.R.cells ∧ ks + ms ≤ F.R.slots)
    (k : ∀ (T : PS), post T → G F nL T (kc + mc) (ks + ms) Q (pc + 3) lv st) : G F nL S kc ks Q pc lv stk := by
  intro H locs ls hP hD hS hl
  have hF := ww_free Z hD hS
  refine va_callv (va_runIN (As := As) (rest := st) ⟨Z.1, Z.2.1, Z.2.2.1, Z.2.2.2.1, Z.2.2.2.2.1⟩ (hM H.size) ⟨va_cnB n Z.2.2.2.2.1 hT hw rfl rfl hi2 (Z.2.2.2.2.1 _ hi1) hd hR, hy1, Z.2.2.2.2.1 _ hi3⟩ ⟨mb_blind, fun U hU hW => ⟨rfl, mb_of Z hP hD hS hU hW⟩⟩ rfl hn hl.1 hst (lv_room hW) d hf) hS (fun q _ h => hF q h) hF (fun u t H1 locs1 ht hvm hw hB hz1 hk1 hS1 => ?_)
  obtain ⟨hP1, hK1, hD1⟩ := hB
  rw [ht] at hP1
  exact k u hw H1 locs1 ls hP1 (hD1.weaken (fun k q _ h => hF q.1 h)) hS1 hl
end CR
end
section
section HR2
variable {F : Fx} {cc : ByteArray} {nL : Nat} {own : String} {Ts : List Cond} {ret : Option FieldType} {S : PS} {kc ks : Nat} {Q : State → Prop} {pc : Nat} {lv : List (Nat × Value)} {st : List Value} {a : Nat}
theorem g_copyJ (Z : Cx F cc nL own Ts ret) {ix a0 : Nat} {sp dp n : Int32} (hl1 : Cond.methodLink own ix arraycopyName ∈ Ts) (hl2 : Cond.native arraycopyName ∈ Ts) (hl3 : Cond.static arraycopyName ∈ Ts) (hl4 : Cond.initialized "java/lang/System" ∈ Ts) (d : decode cc pc = .ok (.invokestatic ix, 3)) (ha0 : a0 ∈ S.L) (hK0 : S.K a0 = 9) (ha : a ∈ S.L) (hK : S.K a = 9) (h1 : ¬ sp < 0) (h2 : ¬ dp < 0) (h3 : ¬ n < 0) (h4 : sp.toNatClampNeg + n.toNatClampNeg ≤ S.ln a0) (h5 : dp.toNatClampNeg + n.toNatClampNeg ≤ S.ln a) (hf : 1 ≤ F.R.frames) (hlo : (st.map fun v => v.category).sum + (nativeFrameWords "java/lang/System" "arraycopy" 5 + 11) ≤ F.R.locals) (k : G F nL (S.rowJ a (va_cpy (S.rj a0) (S.rj a) sp.toNatClampNeg dp.toNatClampNeg n.toNatClampNeg)) kc ks Q (pc + 3) lv st) : G F nL S kc ks Q pc lv (.int n :: .int dp :: .ref a :: .int sp :: .ref a0 :: st) := by
  intro H locs ls hP hD hS hl
  obtain ⟨k0, hk0⟩ := ww_at F.cy S ha
  obtain ⟨k2, hk2⟩ := ww_at F.cy S ha0
  have hk1 := hk0
  rw [wcell_j F.cy S hK] at hk0
  rw [wcell_j F.cy S hK0] at hk2
  refine va_copyl (ty := .long) Z.1 Z.2.1 (Z.2.2.1.trans hl.1.symm) Z.2.2.2.1 (Z.2.2.2.2.1 _ hl1) (Z.2.2.2.2.1 _ hl2) (Z.2.2.2.2.1 _ hl3) (Z.2.2.2.2.1 _ hl4) Z.2.2.2.2.2.2.1 hP hD hS k2 k0 2 2 hk2 hk0 rfl rfl rfl h1 h2 h3 h4 h5 (fun i _ => rfl) hf hlo d (fun H1 locs1 hP1 hD1 hS1 => ?_)
  have e1 := ww_set (T := S.rowJ a (va_cpy (S.rj a0) (S.rj a) sp.toNatClampNeg dp.toNatClampNeg n.toNatClampNeg)) (e := .inl (F.cy 9, S.ln a, .inr (.inl (va_cpy (S.rj a0) (S.rj a) sp.toNatClampNeg dp.toNatClampNeg n.toNatClampNeg)))) hD ha hk1 rfl (by rw [wcell_j F.cy (S.rowJ a (va_cpy (S.rj a0) (S.rj a) sp.toNatClampNeg dp.toNatClampNeg n.toNatClampNeg)) hK]; show _ = Sum.inl (F.cy 9, S.ln a, Sum.inr (Sum.inl (va_up S.rj a _ a))); rw [va_up_self]) (fun b hb => wcell_eq _ _ _ _ rfl rfl rfl rfl rfl (va_up_ne _ _ hb).symm rfl)
  rw [e1] at hP1 hD1
  exact k H1 locs1 ls hP1 hD1 hS1 hl
end HR2
end
section
/-- an index below n, or not -/
def isIx (n : Nat) (x r : Int32) : Prop := (r = 0 ∧ ∃ j : Nat, j < n ∧ x = nI j) ∨ (r = 1 ∧ (x < 0 ∨ nI n ≤ x))
theorem isIx_f {n : Nat} (hn : n < 2 ^ 31) {x : Int32} (h1 : ¬ x < 0) (h2 : ¬ nI n ≤ x) : isIx n x 0 := by
  rcases pk_ix x hn with h | h | h
  · exact absurd h h1
  · exact absurd h h2
  · exact Or.inl ⟨rfl, h⟩
theorem isIx_t {n : Nat} {x : Int32} (h2 : nI n ≤ x) : isIx n x 1 := Or.inr ⟨rfl, Or.inr h2⟩
theorem isIx_t0 {n : Nat} {x : Int32} (h1 : x < 0) : isIx n x 1 := Or.inr ⟨rfl, Or.inl h1⟩
theorem i_nle_of_lt {x y : Int32} (h : x < y) : ¬ y ≤ x := fun h2 => absurd h (Int32.not_lt.mpr h2)
theorem i_le_of_nlt {x y : Int32} (h : ¬ x < y) : y ≤ x := Int32.not_lt.mp h
theorem i_lt_of_nle {x y : Int32} (h : ¬ x ≤ y) : y < x := Int32.not_le.mp h

set_option maxRecDepth 100000 in
set_option maxHeartbeats 4000000 in
/-- static -/
theorem c_X6_isNoSet (l : Launch) (D : va_G) (cy : Nat → ClassId) (nw : Nat) (S : PS) (x : Int32) : kI l yX6_isNoSet wsX6_isNoSet 0 0 D cy nw [.int x] S (fun r T => T = S ∧ isIx 8 x r) 0 0 := by
  refine enterI (cc := cX6_isNoSet) (nL := 1) (ret := (some .boolean)) (by decide +kernel) rfl (Nat.le_of_ble_eq_true rfl) ?_
  intro F Z hl hR hD hcy hnw hnm
  subst hl hD hcy hnw
  have hRf : F.R.frames = 0 := by rw [hR]
  have hRc : F.R.cells = 0 := by rw [hR]
  have hRs : F.R.slots = 0 := by rw [hR]
  have hRl : F.R.locals = 0 := by rw [hR]
  refine g_iload_n Z dX6_isNoSet_0 rfl ?_
  refine g_if_lt Z 10 dX6_isNoSet_1 (by decide) (fun h1 => ?_) (fun h1 => ?_)
  · refine g_iconst (v := 1) Z dX6_isNoSet_10 (by decide) ?_
    refine g_goto Z 15 dX6_isNoSet_11 (by decide) ?_
    exact g_zret Z dX6_isNoSet_15 (by rfl) (by omega) (by omega) (by first | exact ⟨rfl, isIx_t0 h1⟩ | exact ⟨rfl, isIx_t (i_le_of_nlt h7)⟩ | exact ⟨rfl, isIx_f (by decide) h1 (i_nle_of_lt h7)⟩)
  · refine g_iload_n Z dX6_isNoSet_4 rfl ?_
    refine g_bipush (v := 8) Z dX6_isNoSet_5 (by decide) ?_
    refine g_icmp_lt Z 14 dX6_isNoSet_7 (by decide) (fun h7 => ?_) (fun h7 => ?_)
    · refine g_iconst (v := 0) Z dX6_isNoSet_14 (by decide) ?_
      exact g_zret Z dX6_isNoSet_15 (by rfl) (by omega) (by omega) (by first | exact ⟨rfl, isIx_t0 h1⟩ | exact ⟨rfl, isIx_t (i_le_of_nlt h7)⟩ | exact ⟨rfl, isIx_f (by decide) h1 (i_nle_of_lt h7)⟩)
    · refine g_iconst (v := 1) Z dX6_isNoSet_10 (by decide) ?_
      refine g_goto Z 15 dX6_isNoSet_11 (by decide) ?_
      exact g_zret Z dX6_isNoSet_15 (by rfl) (by omega) (by omega) (by first | exact ⟨rfl, isIx_t0 h1⟩ | exact ⟨rfl, isIx_t (i_le_of_nlt h7)⟩ | exact ⟨rfl, isIx_f (by decide) h1 (i_nle_of_lt h7)⟩)

set_option maxRecDepth 100000 in
set_option maxHeartbeats 4000000 in
/-- static -/
theorem c_X6_keyOf (l : Launch) (D : va_G) (cy : Nat → ClassId) (nw : Nat) (S : PS) (x : Int32) : kI l yX6_keyOf wsX6_keyOf 0 0 D cy nw [.int x] S (fun r T => T = S ∧ r = (x.toUInt32 >>> ((16 : Int32).toUInt32 &&& Int32.toUInt32 31)).toInt32) 0 0 := by
  refine enterI (cc := cX6_keyOf) (nL := 1) (ret := (some .int)) (by decide +kernel) rfl (Nat.le_of_ble_eq_true rfl) ?_
  intro F Z hl hR hD hcy hnw hnm
  subst hl hD hcy hnw
  have hRf : F.R.frames = 0 := by rw [hR]
  have hRc : F.R.cells = 0 := by rw [hR]
  have hRs : F.R.slots = 0 := by rw [hR]
  have hRl : F.R.locals = 0 := by rw [hR]
  refine g_iload_n Z dX6_keyOf_0 rfl ?_
  refine g_bipush (v := 16) Z dX6_keyOf_1 (by decide) ?_
  refine g_iushr Z dX6_keyOf_3 ?_
  exact g_iret Z dX6_keyOf_4 (by omega) (by omega) (⟨rfl, rfl⟩)

set_option maxRecDepth 100000 in
set_option maxHeartbeats 4000000 in
/-- how much work is left -/
theorem c_X6_work (l : Launch) (D : va_G) (cy : Nat → ClassId) (nw : Nat) (S : PS) (x : Nat) (hx : x ∈ S.L) (hK : S.K x = 5) : kI l yX6_work wsX6_work 0 0 D cy nw [.ref x] S (fun r T => T = S ∧ r = S.fi x 5) 0 0 := by
  refine enterI (cc := cX6_work) (nL := 1) (ret := (some .int)) (by decide +kernel) rfl (Nat.le_of_ble_eq_true rfl) ?_
  intro F Z hl hR hD hcy hnw hnm
  subst hl hD hcy hnw
  have hRf : F.R.frames = 0 := by rw [hR]
  have hRc : F.R.cells = 0 := by rw [hR]
  have hRs : F.R.slots = 0 := by rw [hR]
  have hRl : F.R.locals = 0 := by rw [hR]
  have in5 : ∀ w ∈ u_ws RX6 TX6 6, w ∈ wsX6_work := by decide +kernel
  have lk41 : Cond.fieldLink RX6 41 (TX6 5).1 (TX6 5).2.1 (TX6 5).2.2.1 ∈ wsX6_work := by decide +kernel
  refine g_aload_n Z dX6_work_0 rfl ?_
  refine g_geti Z 5 5 rfl (by decide) in5 lk41 dX6_work_1 (by assumption) (by assumption) ?_
  exact g_iret Z dX6_work_4 (by omega) (by omega) (⟨rfl, rfl⟩)
end
section
/-! THE CLASS'S CELLS: a container that has its words, one that may not have them yet -/
theorem ge_f {i N : Nat} (hi : i < 2 ^ 31) (hN : N < 2 ^ 31) (h : ¬ nI N ≤ nI i) : i < N := Nat.not_le.mp fun q => h ((nI_leI hN hi).mpr q)
theorem gt_f {i N : Nat} (hi : i < 2 ^ 31) (hN : N < 2 ^ 31) (h : ¬ nI N < nI i) : i ≤ N := Nat.not_lt.mp fun q => h ((nI_ltI hN hi).mpr q)
theorem lt_f {i N : Nat} (hi : i < 2 ^ 31) (hN : N < 2 ^ 31) (h : ¬ nI i < nI N) : N ≤ i := Nat.not_lt.mp fun q => h ((nI_ltI hi hN).mpr q)
theorem ge_t {i N : Nat} (hi : i < 2 ^ 31) (hN : N < 2 ^ 31) (h : nI N ≤ nI i) : N ≤ i := (nI_leI hN hi).mp h
theorem lt_t {i N : Nat} (hi : i < 2 ^ 31) (hN : N < 2 ^ 31) (h : nI i < nI N) : i < N := (nI_ltI hi hN).mp h
theorem ne_mem {L : List Nat} {a q : Nat} (hq : q ∉ L) (ha : a ∈ L) : a ≠ q := fun e => hq (e ▸ ha)
def Cr (S : PS) (c : Nat) : Prop := c ∈ S.L ∧ S.K c = 1 ∧ (∃ k : Nat, k < 65536 ∧ S.fi c 0 = nI k) ∧ ∃ w, S.fr c 3 = some w ∧ w ∈ S.L ∧ S.K w = 9 ∧ S.ln w = 1024
def Cw (S : PS) (nw c : Nat) : Prop := c ∈ S.L ∧ S.K c = 1 ∧ (∃ k : Nat, k < 65536 ∧ S.fi c 0 = nI k) ∧ (S.fr c 3 = some nw ∨ ∃ w, S.fr c 3 = some w ∧ w ∈ S.L ∧ S.K w = 9 ∧ S.ln w = 1024)
theorem Cr.w {S : PS} {nw c : Nat} (h : Cr S c) : Cw S nw c := ⟨h.1, h.2.1, h.2.2.1, Or.inr h.2.2.2⟩
/-- only containers' insides have changed, and none has lost its words -/
def Ex (nw : Nat) (S T : PS) : Prop := (∀ a ∈ S.L, a ∈ T.L ∧ T.K a = S.K a ∧ T.ln a = S.ln a ∧ (S.K a ≠ 1 → T.fi a = S.fi a ∧ T.fr a = S.fr a) ∧ (S.K a ≠ 9 → T.ri a = S.ri a ∧ T.rr a = S.rr a)) ∧ (∀ c, Cw S nw c → Cw T nw c) ∧ ∀ c, Cr S c → Cr T c
theorem Ex.rf {nw : Nat} {S : PS} : Ex nw S S := ⟨fun _ h => ⟨h, rfl, rfl, fun _ => ⟨rfl, rfl⟩, fun _ => ⟨rfl, rfl⟩⟩, fun _ h => h, fun _ h => h⟩
theorem Ex.tr {nw : Nat} {S T U : PS} (h1 : Ex nw S T) (h2 : Ex nw T U) : Ex nw S U := by
  refine ⟨fun a ha => ?_, fun c h => h2.2.1 c (h1.2.1 c h), fun c h => h2.2.2 c (h1.2.2 c h)⟩
  obtain ⟨a1, a2, a3, a4, a5⟩ := h1.1 a ha
  obtain ⟨b1, b2, b3, b4, b5⟩ := h2.1 a a1
  refine ⟨b1, b2.trans a2, b3.trans a3, fun h => ?_, fun h => ?_⟩
  · obtain ⟨c1, c2⟩ := a4 h
    obtain ⟨d1, d2⟩ := b4 (by rw [a2]; exact h)
    exact ⟨d1.trans c1, d2.trans c2⟩
  · obtain ⟨c1, c2⟩ := a5 h
    obtain ⟨d1, d2⟩ := b5 (by rw [a2]; exact h)
    exact ⟨d1.trans c1, d2.trans c2⟩
/-- only the kind and the total of one container, and rows of longs, have changed -/
def Cs (c : Nat) (S T : PS) : Prop := T.L = S.L ∧ T.K = S.K ∧ T.fr = S.fr ∧ T.ln = S.ln ∧ T.ri = S.ri ∧ T.rr = S.rr ∧ (∀ b, b ≠ c → T.fi b = S.fi b) ∧ T.fi c 0 = S.fi c 0
theorem Cs.rf {c : Nat} {S : PS} : Cs c S S := ⟨rfl, rfl, rfl, rfl, rfl, rfl, fun _ _ => rfl, rfl⟩
theorem Cs.tr {c : Nat} {S T U : PS} (h : Cs c S T) (k : Cs c T U) : Cs c S U := by
  obtain ⟨a1, a2, a3, a4, a5, a6, a7, a8⟩ := h
  obtain ⟨b1, b2, b3, b4, b5, b6, b7, b8⟩ := k
  exact ⟨b1.trans a1, b2.trans a2, b3.trans a3, b4.trans a4, b5.trans a5, b6.trans a6, fun b hb => (b7 b hb).trans (a7 b hb), b8.trans a8⟩
theorem Cs.setI {c : Nat} {S T : PS} (h : Cs c S T) {i : Nat} (hi : i ≠ 0) {v : Int32} : Cs c S (T.setI c i v) :=
  h.tr ⟨rfl, rfl, rfl, rfl, rfl, rfl, fun b hb => va_up_ne _ _ hb, up2_ne _ _ (Or.inr (Ne.symm hi))⟩
theorem Cs.rowJ {c : Nat} {S T : PS} (h : Cs c S T) {w : Nat} {f : Nat → Int64} : Cs c S (T.rowJ w f) := h.tr ⟨rfl, rfl, rfl, rfl, rfl, rfl, fun _ _ => rfl, rfl⟩
theorem Cs.key {c : Nat} {S T : PS} (h : Cs c S T) (a : Nat) : T.fi a 0 = S.fi a 0 := by
  by_cases ha : a = c
  · subst ha; exact h.2.2.2.2.2.2.2
  · exact congrFun (h.2.2.2.2.2.2.1 a ha) 0
theorem Cs.cr {c : Nat} {S T : PS} (h : Cs c S T) {a : Nat} (k : Cr S a) : Cr T a := by
  obtain ⟨k1, k2, ⟨j, k3, k4⟩, w, k5, k6, k7, k8⟩ := k
  refine ⟨by rw [h.1]; exact k1, by rw [h.2.1]; exact k2, ⟨j, k3, by rw [h.key]; exact k4⟩, w, by rw [h.2.2.1]; exact k5, by rw [h.1]; exact k6, by rw [h.2.1]; exact k7, by rw [h.2.2.2.1]; exact k8⟩
theorem Cs.cw {c : Nat} {S T : PS} (h : Cs c S T) {nw a : Nat} (k : Cw S nw a) : Cw T nw a := by
  obtain ⟨k1, k2, ⟨j, k3, k4⟩, k5⟩ := k
  refine ⟨by rw [h.1]; exact k1, by rw [h.2.1]; exact k2, ⟨j, k3, by rw [h.key]; exact k4⟩, ?_⟩
  rcases k5 with k5 | ⟨w, k5, k6, k7, k8⟩
  · exact Or.inl (by rw [h.2.2.1]; exact k5)
  · exact Or.inr ⟨w, by rw [h.2.2.1]; exact k5, by rw [h.1]; exact k6, by rw [h.2.1]; exact k7, by rw [h.2.2.2.1]; exact k8⟩
theorem Cs.ex {nw c : Nat} {S T : PS} (h : Cs c S T) (hK : S.K c = 1) : Ex nw S T := by
  refine ⟨fun a ha => ⟨by rw [h.1]; exact ha, by rw [h.2.1], by rw [h.2.2.2.1], fun q => ⟨h.2.2.2.2.2.2.1 a (fun e => q (by rw [e]; exact hK)), by rw [h.2.2.1]⟩, fun _ => ⟨by rw [h.2.2.2.2.1], by rw [h.2.2.2.2.2.1]⟩⟩, fun a k => h.cw k, fun a k => h.cr k⟩
/-- the key is set -/
theorem Ex.setKey {nw c : Nat} {S : PS} (hK : S.K c = 1) {k : Nat} (hk : k < 65536) : Ex nw S (S.setI c 0 (nI k)) := by
  have key : ∀ a, (∃ j : Nat, j < 65536 ∧ S.fi a 0 = nI j) → ∃ j : Nat, j < 65536 ∧ (S.setI c 0 (nI k)).fi a 0 = nI j := by
    intro a ⟨j, h1, h2⟩
    by_cases ha : a = c
    · subst ha; exact ⟨k, hk, up2_self _ _ _ _⟩
    · exact ⟨j, h1, (up2_ne _ _ (Or.inl ha)).trans h2⟩
  refine ⟨fun a ha => ⟨ha, rfl, rfl, fun q => ⟨va_up_ne _ _ (fun e => q (by rw [e]; exact hK)), rfl⟩, fun _ => ⟨rfl, rfl⟩⟩, fun a h => ⟨h.1, h.2.1, key a h.2.2.1, h.2.2.2⟩, fun a h => ⟨h.1, h.2.1, key a h.2.2.1, h.2.2.2⟩⟩
/-- words are made -/
theorem Ex.room {nw c q : Nat} {S : PS} (hq : q ∉ S.L) (hK : S.K c = 1) (hc : c ∈ S.L) (hkey : ∃ k : Nat, k < 65536 ∧ S.fi c 0 = nI k) : Ex nw S ((S.newA q 9 1024).setR c 3 (some q)) ∧ Cr ((S.newA q 9 1024).setR c 3 (some q)) c := by
  have ne : ∀ a ∈ S.L, a ≠ q := fun a ha e => hq (e ▸ ha)
  have hcr : Cr ((S.newA q 9 1024).setR c 3 (some q)) c := ⟨List.mem_append_left _ hc, (va_up_ne _ _ (ne c hc)).trans hK, hkey, q, up2_self _ _ _ _, List.mem_append_right _ (List.mem_singleton.mpr rfl), va_up_self _ _ _, va_up_self _ _ _⟩
  have hold : ∀ a, a ≠ c → ∀ w, S.fr a 3 = some w → w ∈ S.L → S.K w = 9 → S.ln w = 1024 → ∃ w, ((S.newA q 9 1024).setR c 3 (some q)).fr a 3 = some w ∧ w ∈ ((S.newA q 9 1024).setR c 3 (some q)).L ∧ ((S.newA q 9 1024).setR c 3 (some q)).K w = 9 ∧ ((S.newA q 9 1024).setR c 3 (some q)).ln w = 1024 := by
    intro a ha w h1 h2 h3 h4
    exact ⟨w, (up2_ne _ _ (Or.inl ha)).trans h1, List.mem_append_left _ h2, (va_up_ne _ _ (ne w h2)).trans h3, (va_up_ne _ _ (ne w h2)).trans h4⟩
  refine ⟨⟨fun a ha => ⟨List.mem_append_left _ ha, va_up_ne _ _ (ne a ha), va_up_ne _ _ (ne a ha), fun h => ⟨rfl, va_up_ne _ _ (fun e => h (by rw [e]; exact hK))⟩, fun _ => ⟨va_up_ne _ _ (ne a ha), va_up_ne _ _ (ne a ha)⟩⟩, fun a h => ?_, fun a h => ?_⟩, hcr⟩
  · by_cases ha : a = c
    · subst ha; exact hcr.w
    · refine ⟨List.mem_append_left _ h.1, (va_up_ne _ _ (ne a h.1)).trans h.2.1, h.2.2.1, ?_⟩
      rcases h.2.2.2 with h5 | ⟨w, h5, h6, h7, h8⟩
      · exact Or.inl ((up2_ne _ _ (Or.inl ha)).trans h5)
      · exact Or.inr (hold a ha w h5 h6 h7 h8)
  · by_cases ha : a = c
    · subst ha; exact hcr
    · obtain ⟨h1, h2, h3, w, h5, h6, h7, h8⟩ := h
      exact ⟨List.mem_append_left _ h1, (va_up_ne _ _ (ne a h1)).trans h2, h3, hold a ha w h5 h6 h7 h8⟩

set_option maxRecDepth 100000 in
set_option maxHeartbeats 4000000 in
/-- a container has its words behind it -/
theorem c_X1_makeRoom (l : Launch) (D : va_G) (cy : Nat → ClassId) (nw : Nat) (S : PS) (c : Nat) (hc : Cw S nw c) : kV l yX1_makeRoom wsX1_makeRoom 0 0 D cy nw [.ref c] S (fun T => Ex nw S T ∧ Cr T c) 1 1024 := by
  refine enterV (cc := cX1_makeRoom) (nL := 1) (ret := none) (by decide +kernel) rfl (Nat.le_of_ble_eq_true rfl) ?_
  intro F Z hl hR hD hcy hnw hnm
  subst hl hD hcy hnw
  have hRf : F.R.frames = 0 := by rw [hR]
  have hRc : F.R.cells = 1 := by rw [hR]
  have hRs : F.R.slots = 1024 := by rw [hR]
  have hRl : F.R.locals = 0 := by rw [hR]
  have in1 : ∀ w ∈ u_ws RX1 TX1 4, w ∈ wsX1_makeRoom := by decide +kernel
  have lk13 : Cond.fieldLink RX1 13 (TX1 3).1 (TX1 3).2.1 (TX1 3).2.2.1 ∈ wsX1_makeRoom := by decide +kernel
  obtain ⟨hcL, hcK, hkey, hww⟩ := hc
  rcases hww with hww | ⟨w, hww, hwL, hwK, hwl⟩
  · refine g_aload_n Z dX1_makeRoom_0 rfl ?_
    refine g_getr Z 1 3 rfl (by decide) in1 lk13 dX1_makeRoom_1 (by assumption) (by assumption) (by assumption) ?_
    refine g_alenNw Z dX1_makeRoom_4 ?_
    refine g_sipush (v := 1024) Z dX1_makeRoom_5 (by decide) ?_
    refine g_icmp_ge Z 20 dX1_makeRoom_8 (by decide) (fun h8 => absurd h8 (by decide)) (fun h8 => ?_)
    refine g_aload_n Z dX1_makeRoom_11 rfl ?_
    refine g_sipush (v := 1024) Z dX1_makeRoom_12 (by decide) ?_
    refine g_newaJ Z 1024 dX1_makeRoom_15 (by decide +kernel) (by decide) (by decide) (by decide) (by rw [hRc]; omega) (by rw [hRs]; omega) (fun q hq => ?_)
    refine g_putr Z 1 3 rfl (by decide) tyX1 tyX1_ok nmX1 rfl in1 lk13 dX1_makeRoom_17 rfl rfl (by exact List.mem_append_left _ hcL) (by exact (va_up_ne _ _ (ne_mem hq hcL)).trans hcK) ?_
    exact g_vret Z dX1_makeRoom_20 (by omega) (by omega) (Ex.room hq hcK hcL hkey)
  · refine g_aload_n Z dX1_makeRoom_0 rfl ?_
    refine g_getr Z 1 3 rfl (by decide) in1 lk13 dX1_makeRoom_1 (by assumption) (by assumption) (by assumption) ?_
    refine g_alen9 Z dX1_makeRoom_4 (by assumption) (by assumption) ?_
    refine g_sipush (v := 1024) Z dX1_makeRoom_5 (by decide) ?_
    refine g_icmp_ge Z 20 dX1_makeRoom_8 (by decide) (fun h8 => ?_) (fun h8 => absurd (by rw [hwl]; decide) h8)
    exact g_vret Z dX1_makeRoom_20 (by omega) (by omega) (⟨Ex.rf, hcL, hcK, hkey, w, hww, hwL, hwK, hwl⟩)
end
section
abbrev lsr (x : Int64) (k : Int32) : Int64 := (x.toUInt64 >>> (k.toInt64.toUInt64 &&& Int64.toUInt64 63)).toInt64
def bc1 (x : Int64) : Int64 := x - (lsr x 1 &&& 6148914691236517205)
def bc2 (x : Int64) : Int64 := (x &&& 3689348814741910323) + (lsr x 2 &&& 3689348814741910323)
def bc3 (x : Int64) : Int64 := (x + lsr x 4) &&& 1085102592571150095
/-- what Long.bitCount answers, as it is worked out -/
def bcF (x : Int64) : Int32 :=
  let d := bc3 (bc2 (bc1 x)) + lsr (bc3 (bc2 (bc1 x))) 8
  let e := d + lsr d 16
  (e + lsr e 32).toInt32 &&& 127
theorem i32_and (x : Int32) (m : Nat) (hm : m < 2 ^ 32) : ∃ j, j ≤ m ∧ x &&& nI m = nI j := by
  refine ⟨x.toBitVec.toNat &&& m, Nat.and_le_right, ?_⟩
  apply Int32.toBitVec_inj.mp
  apply BitVec.eq_of_toNat_eq
  rw [pk_tn (Nat.lt_of_le_of_lt Nat.and_le_right hm), Int32.toBitVec_and, BitVec.toNat_and, pk_tn hm]

set_option maxRecDepth 100000 in
set_option maxHeartbeats 4000000 in
/-- static -/
theorem c_J13_bitCount_95d88 (l : Launch) (D : va_G) (cy : Nat → ClassId) (nw : Nat) (S : PS) (x : Int64) : kI l yJ13_bitCount_95d88 wsJ13_bitCount_95d88 0 0 D cy nw [.long x] S (fun r T => T = S ∧ r = bcF x) 0 0 := by
  refine enterI (cc := cJ13_bitCount_95d88) (nL := 2) (ret := (some .int)) (by decide +kernel) rfl (Nat.le_of_ble_eq_true rfl) ?_
  intro F Z hl hR hD hcy hnw hnm
  subst hl hD hcy hnw
  have hRf : F.R.frames = 0 := by rw [hR]
  have hRc : F.R.cells = 0 := by rw [hR]
  have hRs : F.R.slots = 0 := by rw [hR]
  have hRl : F.R.locals = 0 := by rw [hR]
  have ct314 : Cond.constantLong RJ13 314 (6148914691236517205) ∈ wsJ13_bitCount_95d88 := by decide +kernel
  have ct316 : Cond.constantLong RJ13 316 (3689348814741910323) ∈ wsJ13_bitCount_95d88 := by decide +kernel
  have ct318 : Cond.constantLong RJ13 318 (1085102592571150095) ∈ wsJ13_bitCount_95d88 := by decide +kernel
  refine g_lload_n Z dJ13_bitCount_95d88_0 rfl ?_
  refine g_lload_n Z dJ13_bitCount_95d88_1 rfl ?_
  refine g_iconst (v := 1) Z dJ13_bitCount_95d88_2 (by decide) ?_
  refine g_lushr Z dJ13_bitCount_95d88_3 ?_
  refine g_ldc2 (v := 6148914691236517205) Z dJ13_bitCount_95d88_4 ct314 ?_
  refine g_land Z dJ13_bitCount_95d88_7 ?_
  refine g_lsub Z dJ13_bitCount_95d88_8 ?_
  refine g_lstore_n Z dJ13_bitCount_95d88_9 (by decide) ?_
  refine g_lload_n Z dJ13_bitCount_95d88_10 rfl ?_
  refine g_ldc2 (v := 3689348814741910323) Z dJ13_bitCount_95d88_11 ct316 ?_
  refine g_land Z dJ13_bitCount_95d88_14 ?_
  refine g_lload_n Z dJ13_bitCount_95d88_15 rfl ?_
  refine g_iconst (v := 2) Z dJ13_bitCount_95d88_16 (by decide) ?_
  refine g_lushr Z dJ13_bitCount_95d88_17 ?_
  refine g_ldc2 (v := 3689348814741910323) Z dJ13_bitCount_95d88_18 ct316 ?_
  refine g_land Z dJ13_bitCount_95d88_21 ?_
  refine g_ladd Z dJ13_bitCount_95d88_22 ?_
  refine g_lstore_n Z dJ13_bitCount_95d88_23 (by decide) ?_
  refine g_lload_n Z dJ13_bitCount_95d88_24 rfl ?_
  refine g_lload_n Z dJ13_bitCount_95d88_25 rfl ?_
  refine g_iconst (v := 4) Z dJ13_bitCount_95d88_26 (by decide) ?_
  refine g_lushr Z dJ13_bitCount_95d88_27 ?_
  refine g_ladd Z dJ13_bitCount_95d88_28 ?_
  refine g_ldc2 (v := 1085102592571150095) Z dJ13_bitCount_95d88_29 ct318 ?_
  refine g_land Z dJ13_bitCount_95d88_32 ?_
  refine g_lstore_n Z dJ13_bitCount_95d88_33 (by decide) ?_
  refine g_lload_n Z dJ13_bitCount_95d88_34 rfl ?_
  refine g_lload_n Z dJ13_bitCount_95d88_35 rfl ?_
  refine g_bipush (v := 8) Z dJ13_bitCount_95d88_36 (by decide) ?_
  refine g_lushr Z dJ13_bitCount_95d88_38 ?_
  refine g_ladd Z dJ13_bitCount_95d88_39 ?_
  refine g_lstore_n Z dJ13_bitCount_95d88_40 (by decide) ?_
  refine g_lload_n Z dJ13_bitCount_95d88_41 rfl ?_
  refine g_lload_n Z dJ13_bitCount_95d88_42 rfl ?_
  refine g_bipush (v := 16) Z dJ13_bitCount_95d88_43 (by decide) ?_
  refine g_lushr Z dJ13_bitCount_95d88_45 ?_
  refine g_ladd Z dJ13_bitCount_95d88_46 ?_
  refine g_lstore_n Z dJ13_bitCount_95d88_47 (by decide) ?_
  refine g_lload_n Z dJ13_bitCount_95d88_48 rfl ?_
  refine g_lload_n Z dJ13_bitCount_95d88_49 rfl ?_
  refine g_bipush (v := 32) Z dJ13_bitCount_95d88_50 (by decide) ?_
  refine g_lushr Z dJ13_bitCount_95d88_52 ?_
  refine g_ladd Z dJ13_bitCount_95d88_53 ?_
  refine g_lstore_n Z dJ13_bitCount_95d88_54 (by decide) ?_
  refine g_lload_n Z dJ13_bitCount_95d88_55 rfl ?_
  refine g_l2i Z dJ13_bitCount_95d88_56 ?_
  refine g_bipush (v := 127) Z dJ13_bitCount_95d88_57 (by decide) ?_
  refine g_iand Z dJ13_bitCount_95d88_59 ?_
  exact g_iret Z dJ13_bitCount_95d88_60 (by omega) (by omega) (⟨rfl, rfl⟩)

theorem le_t {i N : Nat} (hi : i < 2 ^ 31) (hN : N < 2 ^ 31) (h : nI i ≤ nI N) : i ≤ N := (nI_leI hi hN).mp h
theorem le_f {i N : Nat} (hi : i < 2 ^ 31) (hN : N < 2 ^ 31) (h : ¬ nI i ≤ nI N) : N < i := Nat.not_le.mp fun q => h ((nI_leI hi hN).mpr q)

set_option maxRecDepth 100000 in
set_option maxHeartbeats 4000000 in
/-- static -/
theorem c_J6_numberOfTrailingZeros_0f7a4 (l : Launch) (D : va_G) (cy : Nat → ClassId) (nw : Nat) (S : PS) (x : Int32) : kI l yJ6_numberOfTrailingZeros_0f7a4 wsJ6_numberOfTrailingZeros_0f7a4 0 0 D cy nw [.int x] S (fun r T => T = S ∧ ∃ n : Nat, n ≤ 34 ∧ r = nI n) 0 0 := by
  refine enterI (cc := cJ6_numberOfTrailingZeros_0f7a4) (nL := 2) (ret := (some .int)) (by decide +kernel) rfl (Nat.le_of_ble_eq_true rfl) ?_
  intro F Z hl hR hD hcy hnw hnm
  subst hl hD hcy hnw
  have hRf : F.R.frames = 0 := by rw [hR]
  have hRc : F.R.cells = 0 := by rw [hR]
  have hRs : F.R.slots = 0 := by rw [hR]
  have hRl : F.R.locals = 0 := by rw [hR]
  have ct264 : Cond.constant RJ6 264 (65536) ∈ wsJ6_numberOfTrailingZeros_0f7a4 := by decide +kernel
  have j74 : ∀ a b : Nat, a ≤ 31 → b ≤ 4 → G F 2 S 0 0 (QI F (fun r T => T = S ∧ ∃ n : Nat, n ≤ 34 ∧ r = nI n) 0 0) 74 [(0, .int (nI b)), (1, .int (nI a))] [] := by
    intro a b ha hb
    refine g_iload_n Z dJ6_numberOfTrailingZeros_0f7a4_74 rfl ?_
    refine g_iload_n Z dJ6_numberOfTrailingZeros_0f7a4_75 rfl ?_
    refine g_iconst (v := 1) Z dJ6_numberOfTrailingZeros_0f7a4_76 (by decide) ?_
    refine g_iushr Z dJ6_numberOfTrailingZeros_0f7a4_77 ?_
    rw [pk_ushrN (n := b) (by omega) 1 1 (by decide)]
    refine g_iadd Z dJ6_numberOfTrailingZeros_0f7a4_78 ?_
    rw [nI_add]
    exact g_iret Z dJ6_numberOfTrailingZeros_0f7a4_79 (by omega) (by omega) (⟨rfl, _, (by omega), rfl⟩)
  have j62 : ∀ a b : Nat, a ≤ 29 → b ≤ 16 → G F 2 S 0 0 (QI F (fun r T => T = S ∧ ∃ n : Nat, n ≤ 34 ∧ r = nI n) 0 0) 62 [(0, .int (nI b)), (1, .int (nI a))] [] := by
    intro a b ha hb
    refine g_iload_n Z dJ6_numberOfTrailingZeros_0f7a4_62 rfl ?_
    refine g_iconst (v := 4) Z dJ6_numberOfTrailingZeros_0f7a4_63 (by decide) ?_
    refine g_icmp_le Z 74 dJ6_numberOfTrailingZeros_0f7a4_64 (by decide) (fun h64 => ?_) (fun h64 => ?_)
    · have hb2 : b ≤ 4 := le_t (by omega) (by decide) h64
      first | exact g_lv (by repeat (first | exact trivial | refine And.intro rfl ?_)) (j74 a b (by omega) (by omega)) | exact g_lv (by repeat (first | exact trivial | refine And.intro rfl ?_)) (j74 (a + 2) (b / 2 ^ 2) (by omega) (by omega))
    · refine g_iinc (c := 2) Z dJ6_numberOfTrailingZeros_0f7a4_67 rfl (by decide) (by decide) ?_
      rw [show nI a + 2 = nI (a + 2) from nI_add a 2]
      refine g_iload_n Z dJ6_numberOfTrailingZeros_0f7a4_70 rfl ?_
      refine g_iconst (v := 2) Z dJ6_numberOfTrailingZeros_0f7a4_71 (by decide) ?_
      refine g_iushr Z dJ6_numberOfTrailingZeros_0f7a4_72 ?_
      rw [pk_ushrN (n := b) (by omega) 2 2 (by decide)]
      refine g_istore_n Z dJ6_numberOfTrailingZeros_0f7a4_73 (by decide) ?_
      first | exact g_lv (by repeat (first | exact trivial | refine And.intro rfl ?_)) (j74 a b (by omega) (by omega)) | exact g_lv (by repeat (first | exact trivial | refine And.intro rfl ?_)) (j74 (a + 2) (b / 2 ^ 2) (by omega) (by omega))
  have j49 : ∀ a b : Nat, a ≤ 25 → b ≤ 256 → G F 2 S 0 0 (QI F (fun r T => T = S ∧ ∃ n : Nat, n ≤ 34 ∧ r = nI n) 0 0) 49 [(0, .int (nI b)), (1, .int (nI a))] [] := by
    intro a b ha hb
    refine g_iload_n Z dJ6_numberOfTrailingZeros_0f7a4_49 rfl ?_
    refine g_bipush (v := 16) Z dJ6_numberOfTrailingZeros_0f7a4_50 (by decide) ?_
    refine g_icmp_le Z 62 dJ6_numberOfTrailingZeros_0f7a4_52 (by decide) (fun h52 => ?_) (fun h52 => ?_)
    · have hb2 : b ≤ 16 := le_t (by omega) (by decide) h52
      first | exact g_lv (by repeat (first | exact trivial | refine And.intro rfl ?_)) (j62 a b (by omega) (by omega)) | exact g_lv (by repeat (first | exact trivial | refine And.intro rfl ?_)) (j62 (a + 4) (b / 2 ^ 4) (by omega) (by omega))
    · refine g_iinc (c := 4) Z dJ6_numberOfTrailingZeros_0f7a4_55 rfl (by decide) (by decide) ?_
      rw [show nI a + 4 = nI (a + 4) from nI_add a 4]
      refine g_iload_n Z dJ6_numberOfTrailingZeros_0f7a4_58 rfl ?_
      refine g_iconst (v := 4) Z dJ6_numberOfTrailingZeros_0f7a4_59 (by decide) ?_
      refine g_iushr Z dJ6_numberOfTrailingZeros_0f7a4_60 ?_
      rw [pk_ushrN (n := b) (by omega) 4 4 (by decide)]
      refine g_istore_n Z dJ6_numberOfTrailingZeros_0f7a4_61 (by decide) ?_
      first | exact g_lv (by repeat (first | exact trivial | refine And.intro rfl ?_)) (j62 a b (by omega) (by omega)) | exact g_lv (by repeat (first | exact trivial | refine And.intro rfl ?_)) (j62 (a + 4) (b / 2 ^ 4) (by omega) (by omega))
  have j34 : ∀ a b : Nat, a ≤ 17 → b ≤ 65536 → G F 2 S 0 0 (QI F (fun r T => T = S ∧ ∃ n : Nat, n ≤ 34 ∧ r = nI n) 0 0) 34 [(0, .int (nI b)), (1, .int (nI a))] [] := by
    intro a b ha hb
    refine g_iload_n Z dJ6_numberOfTrailingZeros_0f7a4_34 rfl ?_
    refine g_sipush (v := 256) Z dJ6_numberOfTrailingZeros_0f7a4_35 (by decide) ?_
    refine g_icmp_le Z 49 dJ6_numberOfTrailingZeros_0f7a4_38 (by decide) (fun h38 => ?_) (fun h38 => ?_)
    · have hb2 : b ≤ 256 := le_t (by omega) (by decide) h38
      first | exact g_lv (by repeat (first | exact trivial | refine And.intro rfl ?_)) (j49 a b (by omega) (by omega)) | exact g_lv (by repeat (first | exact trivial | refine And.intro rfl ?_)) (j49 (a + 8) (b / 2 ^ 8) (by omega) (by omega))
    · refine g_iinc (c := 8) Z dJ6_numberOfTrailingZeros_0f7a4_41 rfl (by decide) (by decide) ?_
      rw [show nI a + 8 = nI (a + 8) from nI_add a 8]
      refine g_iload_n Z dJ6_numberOfTrailingZeros_0f7a4_44 rfl ?_
      refine g_bipush (v := 8) Z dJ6_numberOfTrailingZeros_0f7a4_45 (by decide) ?_
      refine g_iushr Z dJ6_numberOfTrailingZeros_0f7a4_47 ?_
      rw [pk_ushrN (n := b) (by omega) 8 8 (by decide)]
      refine g_istore_n Z dJ6_numberOfTrailingZeros_0f7a4_48 (by decide) ?_
      first | exact g_lv (by repeat (first | exact trivial | refine And.intro rfl ?_)) (j49 a b (by omega) (by omega)) | exact g_lv (by repeat (first | exact trivial | refine And.intro rfl ?_)) (j49 (a + 8) (b / 2 ^ 8) (by omega) (by omega))
  refine g_iload_n Z dJ6_numberOfTrailingZeros_0f7a4_0 rfl ?_
  refine g_iconst (v := (-1)) Z dJ6_numberOfTrailingZeros_0f7a4_1 (by decide) ?_
  refine g_ixor Z dJ6_numberOfTrailingZeros_0f7a4_2 ?_
  refine g_iload_n Z dJ6_numberOfTrailingZeros_0f7a4_3 rfl ?_
  refine g_iconst (v := 1) Z dJ6_numberOfTrailingZeros_0f7a4_4 (by decide) ?_
  refine g_isub Z dJ6_numberOfTrailingZeros_0f7a4_5 ?_
  refine g_iand Z dJ6_numberOfTrailingZeros_0f7a4_6 ?_
  refine g_istore_n Z dJ6_numberOfTrailingZeros_0f7a4_7 (by decide) ?_
  refine g_iload_n Z dJ6_numberOfTrailingZeros_0f7a4_8 rfl ?_
  refine g_if_gt Z 17 dJ6_numberOfTrailingZeros_0f7a4_9 (by decide) (fun h9 => ?_) (fun h9 => ?_)
  · obtain ⟨j, hj, ej⟩ : ∃ j : Nat, j < 2 ^ 31 ∧ (x ^^^ -1) &&& (x - 1) = nI j := nI_of (fun h => absurd h9 (fun h' => Int32.lt_irrefl (Int32.lt_trans h' h)))
    refine g_iconst (v := 1) Z dJ6_numberOfTrailingZeros_0f7a4_17 (by decide) ?_
    refine g_istore_n Z dJ6_numberOfTrailingZeros_0f7a4_18 (by decide) ?_
    refine g_iload_n Z dJ6_numberOfTrailingZeros_0f7a4_19 rfl ?_
    refine g_ldcw (v := 65536) Z dJ6_numberOfTrailingZeros_0f7a4_20 ct264 ?_
    refine g_icmp_le Z 34 dJ6_numberOfTrailingZeros_0f7a4_23 (by decide) (fun h23 => ?_) (fun h23 => ?_)
    · first | (rw [ej] at *; exact g_lv (by repeat (first | exact trivial | refine And.intro rfl ?_)) (j34 1 j (by omega) (le_t (by omega) (by decide) h23))) | exact g_lv (by repeat (first | exact trivial | refine And.intro rfl ?_)) (j34 17 (j / 2 ^ 16) (by omega) (by omega))
    · refine g_iinc (c := 16) Z dJ6_numberOfTrailingZeros_0f7a4_26 rfl (by decide) (by decide) ?_
      rw [show (1 : Int32) + 16 = nI 17 from rfl]
      refine g_iload_n Z dJ6_numberOfTrailingZeros_0f7a4_29 rfl ?_
      refine g_bipush (v := 16) Z dJ6_numberOfTrailingZeros_0f7a4_30 (by decide) ?_
      refine g_iushr Z dJ6_numberOfTrailingZeros_0f7a4_32 ?_
      rw [ej, pk_ushrN (n := j) (by omega) 16 16 (by decide)]
      refine g_istore_n Z dJ6_numberOfTrailingZeros_0f7a4_33 (by decide) ?_
      first | (rw [ej] at *; exact g_lv (by repeat (first | exact trivial | refine And.intro rfl ?_)) (j34 1 j (by omega) (le_t (by omega) (by decide) h23))) | exact g_lv (by repeat (first | exact trivial | refine And.intro rfl ?_)) (j34 17 (j / 2 ^ 16) (by omega) (by omega))
  · refine g_iload_n Z dJ6_numberOfTrailingZeros_0f7a4_12 rfl ?_
    refine g_bipush (v := 32) Z dJ6_numberOfTrailingZeros_0f7a4_13 (by decide) ?_
    refine g_iand Z dJ6_numberOfTrailingZeros_0f7a4_15 ?_
    obtain ⟨j, hj, ej⟩ := i32_and ((x ^^^ -1) &&& (x - 1)) 32 (by decide)
    exact g_iret Z dJ6_numberOfTrailingZeros_0f7a4_16 (by omega) (by omega) (⟨rfl, j, by omega, ej⟩)

set_option maxRecDepth 100000 in
set_option maxHeartbeats 4000000 in
/-- static -/
theorem c_J13_numberOfTrailingZeros_95d88 (l : Launch) (D : va_G) (cy : Nat → ClassId) (nw : Nat) (S : PS) (x : Int64) : kI l yJ13_numberOfTrailingZeros_95d88 wsJ13_numberOfTrailingZeros_95d88 1 21 D cy nw [.long x] S (fun r T => T = S ∧ ∃ n : Nat, n ≤ 66 ∧ r = nI n) 0 0 := by
  refine enterI (cc := cJ13_numberOfTrailingZeros_95d88) (nL := 3) (ret := (some .int)) (by decide +kernel) rfl (Nat.le_of_ble_eq_true rfl) ?_
  intro F Z hl hR hD hcy hnw hnm
  subst hl hD hcy hnw
  have hRf : F.R.frames = 1 := by rw [hR]
  have hRc : F.R.cells = 0 := by rw [hR]
  have hRs : F.R.slots = 0 := by rw [hR]
  have hRl : F.R.locals = 21 := by rw [hR]
  refine g_lload_n Z dJ13_numberOfTrailingZeros_95d88_0 rfl ?_
  refine g_l2i Z dJ13_numberOfTrailingZeros_95d88_1 ?_
  refine g_istore_n Z dJ13_numberOfTrailingZeros_95d88_2 (by decide) ?_
  refine g_iload_n Z dJ13_numberOfTrailingZeros_95d88_3 rfl ?_
  refine g_if_ne Z 21 dJ13_numberOfTrailingZeros_95d88_4 (by decide) (fun h4 => ?_) (fun h4 => ?_)
  · refine g_iload_n Z dJ13_numberOfTrailingZeros_95d88_21 rfl ?_
    refine g_csI Z (c_J6_numberOfTrailingZeros_0f7a4 F.l F.D F.cy F.nw _ _) 1 gJ13_numberOfTrailingZeros_95d88_J6_numberOfTrailingZeros_0f7a4 rfl (by decide +kernel) (by rw [hRf, hRl]; decide) rfl rfl (Nat.le_of_ble_eq_true rfl) dJ13_numberOfTrailingZeros_95d88_22 (by rw [hRc, hRs]; omega) (fun r T hp => ?_)
    obtain ⟨rfl, n, hn, rfl⟩ := hp
    exact g_iret Z dJ13_numberOfTrailingZeros_95d88_25 (by omega) (by omega) (⟨rfl, _, (by omega), rfl⟩)
  · refine g_bipush (v := 32) Z dJ13_numberOfTrailingZeros_95d88_7 (by decide) ?_
    refine g_lload_n Z dJ13_numberOfTrailingZeros_95d88_9 rfl ?_
    refine g_bipush (v := 32) Z dJ13_numberOfTrailingZeros_95d88_10 (by decide) ?_
    refine g_lushr Z dJ13_numberOfTrailingZeros_95d88_12 ?_
    refine g_l2i Z dJ13_numberOfTrailingZeros_95d88_13 ?_
    refine g_csI Z (c_J6_numberOfTrailingZeros_0f7a4 F.l F.D F.cy F.nw _ _) 1 gJ13_numberOfTrailingZeros_95d88_J6_numberOfTrailingZeros_0f7a4 rfl (by decide +kernel) (by rw [hRf, hRl]; decide) rfl rfl (Nat.le_of_ble_eq_true rfl) dJ13_numberOfTrailingZeros_95d88_14 (by rw [hRc, hRs]; omega) (fun r T hp => ?_)
    obtain ⟨rfl, n, hn, rfl⟩ := hp
    refine g_iadd Z dJ13_numberOfTrailingZeros_95d88_17 ?_
    rw [show (32 : Int32) + nI n = nI (32 + n) from nI_add 32 n]
    refine g_goto Z 25 dJ13_numberOfTrailingZeros_95d88_18 (by decide) ?_
    exact g_iret Z dJ13_numberOfTrailingZeros_95d88_25 (by omega) (by omega) (⟨rfl, _, (by omega), rfl⟩)

theorem rowJ_rowJ (S : PS) (w : Nat) (f g : Nat → Int64) : (S.rowJ w f).rowJ w g = S.rowJ w g := by
  show (_, _, _, _, _, _, va_up (va_up S.rj w f) w g, _) = (_, _, _, _, _, _, va_up S.rj w g, _)
  rw [bx_uu]
theorem va_up_get {α : Type} (f : Nat → α) (k : Nat) : va_up f k (f k) = f := by
  funext j
  unfold va_up
  by_cases h : j = k
  · rw [if_pos h, h]
  · rw [if_neg h]
theorem rowJ_self (S : PS) (w : Nat) : S = S.rowJ w (S.rj w) := by
  show S = (S.L, S.K, S.fi, S.fr, S.ln, S.ri, va_up S.rj w (S.rj w), S.rr)
  rw [va_up_get]

set_option maxRecDepth 100000 in
set_option maxHeartbeats 4000000 in
/-- static -/
theorem c_J7_fill_d0a16 (l : Launch) (D : va_G) (cy : Nat → ClassId) (nw : Nat) (S : PS) (w : Nat) (x : Int64) (hwL : w ∈ S.L) (hwK : S.K w = 9) (hwl : S.ln w = 1024) : kV l yJ7_fill_d0a16 wsJ7_fill_d0a16 0 0 D cy nw [.ref w, .long x] S (fun T => ∃ f, T = S.rowJ w f) 0 0 := by
  refine enterV (cc := cJ7_fill_d0a16) (nL := 5) (ret := none) (by decide +kernel) rfl (Nat.le_of_ble_eq_true rfl) ?_
  intro F Z hl hR hD hcy hnw hnm
  subst hl hD hcy hnw
  have hRf : F.R.frames = 0 := by rw [hR]
  have hRc : F.R.cells = 0 := by rw [hR]
  have hRs : F.R.slots = 0 := by rw [hR]
  have hRl : F.R.locals = 0 := by rw [hR]
  have loop : ∀ (n i : Nat) (f : Nat → Int64), 1024 - i < n → i ≤ 1024 → G F 5 (S.rowJ w f) 0 0 (QV F (fun T => ∃ f, T = S.rowJ w f) 0 0) 6 [(0, .ref w), (1, .long x), (3, .int (nI i)), (4, .int (nI 1024))] [] := by
    intro n
    induction n with
    | zero => intro i f hn; omega
    | succ n ih =>
      intro i f hn hi
      refine g_iload_n Z dJ7_fill_d0a16_6 rfl ?_
      refine g_iload Z dJ7_fill_d0a16_7 rfl ?_
      refine g_icmp_ge Z 22 dJ7_fill_d0a16_9 (by decide) (fun h9 => ?_) (fun h9 => ?_)
      · exact g_vret Z dJ7_fill_d0a16_22 (by omega) (by omega) (⟨_, rfl⟩)
      · have hlt : i < 1024 := ge_f (by omega) (by decide) h9
        refine g_aload_n Z dJ7_fill_d0a16_12 rfl ?_
        refine g_iload_n Z dJ7_fill_d0a16_13 rfl ?_
        refine g_lload_n Z dJ7_fill_d0a16_14 rfl ?_
        refine g_last Z dJ7_fill_d0a16_15 (by assumption) (by assumption) (by show vp_in (nI i) (S.ln w); rw [hwl]; exact vp_in_nI (by omega) (by decide)) ?_
        rw [rowJ_rowJ]
        refine g_iinc (c := 1) Z dJ7_fill_d0a16_16 rfl (by decide) (by decide) ?_
        rw [nI_1]
        refine g_goto Z 6 dJ7_fill_d0a16_19 (by decide) ?_
        exact g_lv (by repeat (first | exact trivial | refine And.intro rfl ?_)) (ih (i + 1) _ (by omega) (by omega))
  refine g_iconst (v := 0) Z dJ7_fill_d0a16_0 (by decide) ?_
  refine g_istore_n Z dJ7_fill_d0a16_1 (by decide) ?_
  refine g_aload_n Z dJ7_fill_d0a16_2 rfl ?_
  refine g_alen9 Z dJ7_fill_d0a16_3 (by assumption) (by assumption) ?_
  rw [hwl]
  refine g_istore Z dJ7_fill_d0a16_4 (by decide) ?_
  have h0 := loop 1025 0 (S.rj w) (by omega) (by omega)
  rw [← rowJ_self] at h0
  exact g_lv (by repeat (first | exact trivial | refine And.intro rfl ?_)) h0
end
section
/-- the carry into word i, and how many runs begin ahead of word i, as they are worked out -/
def trC (f : Nat → Int64) : Nat → Int64
  | 0 => 0
  | i + 1 => lsr (f i) 63
def trF (f : Nat → Int64) : Nat → Int32
  | 0 => 0
  | i + 1 => trF f i + bcF (f i &&& ((f i <<< ((1 : Int32).toInt64 &&& 63) ||| trC f i) ^^^ -1))
theorem vin_of {i n N : Nat} (hn : n = N) (h : i < N) (hN : N < 2 ^ 31) : vp_in (nI i) n := by rw [hn]; exact vp_in_nI h hN

set_option maxRecDepth 100000 in
set_option maxHeartbeats 4000000 in
/-- how many runs the lows make -/
theorem c_X1_totalRuns (l : Launch) (D : va_G) (cy : Nat → ClassId) (nw : Nat) (S : PS) (c : Nat) (hc : Cr S c) : kI l yX1_totalRuns wsX1_totalRuns 1 21 D cy nw [.ref c] S (fun r T => T = S ∧ ∀ w, S.fr c 3 = some w → r = trF (S.rj w) 1024) 0 0 := by
  refine enterI (cc := cX1_totalRuns) (nL := 7) (ret := (some .int)) (by decide +kernel) rfl (Nat.le_of_ble_eq_true rfl) ?_
  intro F Z hl hR hD hcy hnw hnm
  subst hl hD hcy hnw
  have hRf : F.R.frames = 1 := by rw [hR]
  have hRc : F.R.cells = 0 := by rw [hR]
  have hRs : F.R.slots = 0 := by rw [hR]
  have hRl : F.R.locals = 21 := by rw [hR]
  have in1 : ∀ w ∈ u_ws RX1 TX1 4, w ∈ wsX1_totalRuns := by decide +kernel
  have lk13 : Cond.fieldLink RX1 13 (TX1 3).1 (TX1 3).2.1 (TX1 3).2.2.1 ∈ wsX1_totalRuns := by decide +kernel
  have ct50 : Cond.constantLong RX1 50 (-1) ∈ wsX1_totalRuns := by decide +kernel
  obtain ⟨hcL, hcK, ⟨key, hkey, ekey⟩, w, hww, hwL, hwK, hwl⟩ := id hc
  have loop : ∀ (n : Nat) (i : Nat), 1024 - i < n → i ≤ 1024 → G F 7 S 0 0 (QI F (fun r T => T = S ∧ ∀ w, S.fr c 3 = some w → r = trF (S.rj w) 1024) 0 0) 7 [(0, .ref c), (1, .int (trF (S.rj w) i)), (2, .long (trC (S.rj w) i)), (4, .int (nI i))] [] := by
    intro n
    induction n with
    | zero => intros; omega
    | succ n ih =>
      intro i hn hi
      refine g_iload Z dX1_totalRuns_7 rfl ?_
      refine g_sipush (v := 1024) Z dX1_totalRuns_9 (by decide) ?_
      refine g_icmp_ge Z 55 dX1_totalRuns_12 (by decide) (fun h12 => ?_) (fun h12 => ?_)
      · have he : i = 1024 := by have := ge_t (N := 1024) (by omega) (by decide) h12; omega
        subst he
        refine g_iload_n Z dX1_totalRuns_55 rfl ?_
        exact g_iret Z dX1_totalRuns_56 (by omega) (by omega) (⟨rfl, fun w' h' => by rw [hww] at h'; cases h'; rfl⟩)
      · have hlt : i < 1024 := ge_f (by omega) (by decide) h12
        have hcl : (nI i).toNatClampNeg = i := nI_clamp (by omega)
        refine g_aload_n Z dX1_totalRuns_15 rfl ?_
        refine g_getr Z 1 3 rfl (by decide) in1 lk13 dX1_totalRuns_16 (by assumption) (by assumption) (by assumption) ?_
        refine g_iload Z dX1_totalRuns_19 rfl ?_
        refine g_lald Z dX1_totalRuns_21 (by assumption) (by assumption) (by exact vin_of hwl hlt (by decide)) ?_
        rw [hcl]
        refine g_lstore Z dX1_totalRuns_22 (by decide) ?_
        refine g_iload_n Z dX1_totalRuns_24 rfl ?_
        refine g_lload Z dX1_totalRuns_25 rfl ?_
        refine g_lload Z dX1_totalRuns_27 rfl ?_
        refine g_iconst (v := 1) Z dX1_totalRuns_29 (by decide) ?_
        refine g_lshl Z dX1_totalRuns_30 ?_
        refine g_lload_n Z dX1_totalRuns_31 rfl ?_
        refine g_lor Z dX1_totalRuns_32 ?_
        refine g_ldc2 (v := -1) Z dX1_totalRuns_33 ct50 ?_
        refine g_lxor Z dX1_totalRuns_36 ?_
        refine g_land Z dX1_totalRuns_37 ?_
        refine g_csI Z (c_J13_bitCount_95d88 F.l F.D F.cy F.nw _ _) 1 gX1_totalRuns_J13_bitCount_95d88 rfl (by decide +kernel) (by rw [hRf, hRl]; decide) rfl rfl (Nat.le_of_ble_eq_true rfl) dX1_totalRuns_38 (by rw [hRc, hRs]; omega) (fun r T hp => ?_)
        obtain ⟨rfl, rfl⟩ := hp
        refine g_iadd Z dX1_totalRuns_41 ?_
        refine g_istore_n Z dX1_totalRuns_42 (by decide) ?_
        refine g_lload Z dX1_totalRuns_43 rfl ?_
        refine g_bipush (v := 63) Z dX1_totalRuns_45 (by decide) ?_
        refine g_lushr Z dX1_totalRuns_47 ?_
        refine g_lstore_n Z dX1_totalRuns_48 (by decide) ?_
        refine g_iinc (c := 1) Z dX1_totalRuns_49 rfl (by decide) (by decide) ?_
        rw [nI_1]
        refine g_goto Z 7 dX1_totalRuns_52 (by decide) ?_
        exact g_lv (by repeat (first | exact trivial | refine And.intro rfl ?_)) (ih (i + 1) (by omega) (by omega))
  refine g_iconst (v := 0) Z dX1_totalRuns_0 (by decide) ?_
  refine g_istore_n Z dX1_totalRuns_1 (by decide) ?_
  refine g_lconst (v := 0) Z dX1_totalRuns_2 (by decide) ?_
  refine g_lstore_n Z dX1_totalRuns_3 (by decide) ?_
  refine g_iconst (v := 0) Z dX1_totalRuns_4 (by decide) ?_
  refine g_istore Z dX1_totalRuns_5 (by decide) ?_
  exact g_lv (by repeat (first | exact trivial | refine And.intro rfl ?_)) (loop 1025 0 (by omega) (by omega))

set_option maxRecDepth 100000 in
set_option maxHeartbeats 4000000 in
/-- array or bitmap -/
theorem c_X1_setPlainKind (l : Launch) (D : va_G) (cy : Nat → ClassId) (nw : Nat) (S : PS) (c : Nat) (hcL : c ∈ S.L) (hcK : S.K c = 1) : kV l yX1_setPlainKind wsX1_setPlainKind 0 0 D cy nw [.ref c] S (fun T => Cs c S T) 0 0 := by
  refine enterV (cc := cX1_setPlainKind) (nL := 1) (ret := none) (by decide +kernel) rfl (Nat.le_of_ble_eq_true rfl) ?_
  intro F Z hl hR hD hcy hnw hnm
  subst hl hD hcy hnw
  have hRf : F.R.frames = 0 := by rw [hR]
  have hRc : F.R.cells = 0 := by rw [hR]
  have hRs : F.R.slots = 0 := by rw [hR]
  have hRl : F.R.locals = 0 := by rw [hR]
  have in1 : ∀ w ∈ u_ws RX1 TX1 4, w ∈ wsX1_setPlainKind := by decide +kernel
  have lk31 : Cond.fieldLink RX1 31 (TX1 1).1 (TX1 1).2.1 (TX1 1).2.2.1 ∈ wsX1_setPlainKind := by decide +kernel
  have lk34 : Cond.fieldLink RX1 34 (TX1 2).1 (TX1 2).2.1 (TX1 2).2.2.1 ∈ wsX1_setPlainKind := by decide +kernel
  refine g_aload_n Z dX1_setPlainKind_0 rfl ?_
  refine g_aload_n Z dX1_setPlainKind_1 rfl ?_
  refine g_geti Z 1 2 rfl (by decide) in1 lk34 dX1_setPlainKind_2 (by assumption) (by assumption) ?_
  refine g_sipush (v := 4096) Z dX1_setPlainKind_5 (by decide) ?_
  refine g_icmp_gt Z 15 dX1_setPlainKind_8 (by decide) (fun h8 => ?_) (fun h8 => ?_)
  · refine g_iconst (v := 1) Z dX1_setPlainKind_15 (by decide) ?_
    refine g_puti Z 1 1 rfl (by decide) tyX1 tyX1_ok nmX1 rfl in1 lk31 dX1_setPlainKind_16 rfl rfl (by assumption) (by assumption) ?_
    exact g_vret Z dX1_setPlainKind_19 (by omega) (by omega) (Cs.rf.setI (by decide))
  · refine g_iconst (v := 0) Z dX1_setPlainKind_11 (by decide) ?_
    refine g_goto Z 16 dX1_setPlainKind_12 (by decide) ?_
    refine g_puti Z 1 1 rfl (by decide) tyX1 tyX1_ok nmX1 rfl in1 lk31 dX1_setPlainKind_16 rfl rfl (by assumption) (by assumption) ?_
    exact g_vret Z dX1_setPlainKind_19 (by omega) (by omega) (Cs.rf.setI (by decide))

set_option maxRecDepth 100000 in
set_option maxHeartbeats 4000000 in
/-- the kind that takes the fewest bytes -/
theorem c_X1_setSmallestKind (l : Launch) (D : va_G) (cy : Nat → ClassId) (nw : Nat) (S : PS) (c : Nat) (hc : Cr S c) : kV l yX1_setSmallestKind wsX1_setSmallestKind 2 47 D cy nw [.ref c] S (fun T => Cs c S T) 0 0 := by
  refine enterV (cc := cX1_setSmallestKind) (nL := 2) (ret := none) (by decide +kernel) rfl (Nat.le_of_ble_eq_true rfl) ?_
  intro F Z hl hR hD hcy hnw hnm
  subst hl hD hcy hnw
  have hRf : F.R.frames = 2 := by rw [hR]
  have hRc : F.R.cells = 0 := by rw [hR]
  have hRs : F.R.slots = 0 := by rw [hR]
  have hRl : F.R.locals = 47 := by rw [hR]
  have in1 : ∀ w ∈ u_ws RX1 TX1 4, w ∈ wsX1_setSmallestKind := by decide +kernel
  have lk31 : Cond.fieldLink RX1 31 (TX1 1).1 (TX1 1).2.1 (TX1 1).2.2.1 ∈ wsX1_setSmallestKind := by decide +kernel
  have lk34 : Cond.fieldLink RX1 34 (TX1 2).1 (TX1 2).2.1 (TX1 2).2.2.1 ∈ wsX1_setSmallestKind := by decide +kernel
  obtain ⟨hcL, hcK, ⟨key, hkey, ekey⟩, w, hww, hwL, hwK, hwl⟩ := id hc
  have j22 : ∀ v : Int32, G F 2 S 0 0 (QV F (fun T => Cs c S T) 0 0) 22 [(0, .ref c)] [.int v] := by
    intro v
    refine g_istore_n Z dX1_setSmallestKind_22 (by decide) ?_
    refine g_iconst (v := 2) Z dX1_setSmallestKind_23 (by decide) ?_
    refine g_iconst (v := 4) Z dX1_setSmallestKind_24 (by decide) ?_
    refine g_aload_n Z dX1_setSmallestKind_25 rfl ?_
    refine g_cvI Z (c_X1_totalRuns F.l F.D F.cy F.nw _ c hc) 0 gX1_setSmallestKind_X1_totalRuns rfl (by decide +kernel) (by rw [hRf, hRl]; decide) (by assumption) (κ := 1) (by assumption) rfl (by decide) rfl rfl (Nat.le_of_ble_eq_true rfl) dX1_setSmallestKind_26 (by rw [hRc, hRs]; omega) (fun r T hp => ?_)
    obtain ⟨rfl, -⟩ := hp
    refine g_imul Z dX1_setSmallestKind_29 ?_
    refine g_iadd Z dX1_setSmallestKind_30 ?_
    refine g_iload_n Z dX1_setSmallestKind_31 rfl ?_
    refine g_icmp_ge Z 43 dX1_setSmallestKind_32 (by decide) (fun h32 => ?_) (fun h32 => ?_)
    · refine g_aload_n Z dX1_setSmallestKind_43 rfl ?_
      refine g_cvV Z (c_X1_setPlainKind F.l F.D F.cy F.nw _ c hcL hcK) 0 gX1_setSmallestKind_X1_setPlainKind rfl (by decide +kernel) (by rw [hRf, hRl]; decide) (by assumption) (κ := 1) (by assumption) rfl (by decide) rfl rfl (Nat.le_of_ble_eq_true rfl) dX1_setSmallestKind_44 (by rw [hRc, hRs]; omega) (fun T hp => ?_)
      exact g_vret Z dX1_setSmallestKind_47 (by omega) (by omega) (by first | exact hp | exact Cs.rf.setI (by decide))
    · refine g_aload_n Z dX1_setSmallestKind_35 rfl ?_
      refine g_iconst (v := 2) Z dX1_setSmallestKind_36 (by decide) ?_
      refine g_puti Z 1 1 rfl (by decide) tyX1 tyX1_ok nmX1 rfl in1 lk31 dX1_setSmallestKind_37 rfl rfl (by assumption) (by assumption) ?_
      refine g_goto Z 47 dX1_setSmallestKind_40 (by decide) ?_
      exact g_vret Z dX1_setSmallestKind_47 (by omega) (by omega) (by first | exact hp | exact Cs.rf.setI (by decide))
  refine g_aload_n Z dX1_setSmallestKind_0 rfl ?_
  refine g_geti Z 1 2 rfl (by decide) in1 lk34 dX1_setSmallestKind_1 (by assumption) (by assumption) ?_
  refine g_sipush (v := 4096) Z dX1_setSmallestKind_4 (by decide) ?_
  refine g_icmp_gt Z 19 dX1_setSmallestKind_7 (by decide) (fun h7 => ?_) (fun h7 => ?_)
  · refine g_sipush (v := 8192) Z dX1_setSmallestKind_19 (by decide) ?_
    exact g_lv (by repeat (first | exact trivial | refine And.intro rfl ?_)) (j22 _)
  · refine g_iconst (v := 2) Z dX1_setSmallestKind_10 (by decide) ?_
    refine g_aload_n Z dX1_setSmallestKind_11 rfl ?_
    refine g_geti Z 1 2 rfl (by decide) in1 lk34 dX1_setSmallestKind_12 (by assumption) (by assumption) ?_
    refine g_imul Z dX1_setSmallestKind_15 ?_
    refine g_goto Z 22 dX1_setSmallestKind_16 (by decide) ?_
    exact g_lv (by repeat (first | exact trivial | refine And.intro rfl ?_)) (j22 _)

theorem shr6 {i : Nat} (h : i < 2 ^ 31) : nI i >>> ((6 : Int32) &&& 31) = nI (i / 64) := pk_shrN h _ 6 (by decide)

set_option maxRecDepth 100000 in
set_option maxHeartbeats 4000000 in
/-- whether a low is there -/
theorem c_X1_holds (l : Launch) (D : va_G) (cy : Nat → ClassId) (nw : Nat) (S : PS) (c : Nat) (hc : Cr S c) (i : Nat) (hi : i < 65536) : kI l yX1_holds wsX1_holds 0 0 D cy nw [.ref c, .int (nI i)] S (fun r T => T = S ∧ (r = 0 ∨ r = 1)) 0 0 := by
  refine enterI (cc := cX1_holds) (nL := 2) (ret := (some .boolean)) (by decide +kernel) rfl (Nat.le_of_ble_eq_true rfl) ?_
  intro F Z hl hR hD hcy hnw hnm
  subst hl hD hcy hnw
  have hRf : F.R.frames = 0 := by rw [hR]
  have hRc : F.R.cells = 0 := by rw [hR]
  have hRs : F.R.slots = 0 := by rw [hR]
  have hRl : F.R.locals = 0 := by rw [hR]
  have in1 : ∀ w ∈ u_ws RX1 TX1 4, w ∈ wsX1_holds := by decide +kernel
  have lk13 : Cond.fieldLink RX1 13 (TX1 3).1 (TX1 3).2.1 (TX1 3).2.2.1 ∈ wsX1_holds := by decide +kernel
  obtain ⟨hcL, hcK, ⟨key, hkey, ekey⟩, w, hww, hwL, hwK, hwl⟩ := id hc
  refine g_aload_n Z dX1_holds_0 rfl ?_
  refine g_getr Z 1 3 rfl (by decide) in1 lk13 dX1_holds_1 (by assumption) (by assumption) (by assumption) ?_
  refine g_iload_n Z dX1_holds_4 rfl ?_
  refine g_bipush (v := 6) Z dX1_holds_5 (by decide) ?_
  refine g_ishr Z dX1_holds_7 ?_
  rw [shr6 (by omega)]
  refine g_lald Z dX1_holds_8 (by assumption) (by assumption) (by exact vin_of hwl (by omega) (by decide)) ?_
  refine g_iload_n Z dX1_holds_9 rfl ?_
  refine g_lushr Z dX1_holds_10 ?_
  refine g_lconst (v := 1) Z dX1_holds_11 (by decide) ?_
  refine g_land Z dX1_holds_12 ?_
  refine g_lconst (v := 0) Z dX1_holds_13 (by decide) ?_
  refine g_lcmp Z dX1_holds_14 ?_
  refine g_if_eq Z 22 dX1_holds_15 (by decide) (fun h15 => ?_) (fun h15 => ?_)
  · refine g_iconst (v := 0) Z dX1_holds_22 (by decide) ?_
    exact g_zret Z dX1_holds_23 (by rfl) (by omega) (by omega) (⟨rfl, by first | exact Or.inl rfl | exact Or.inr rfl⟩)
  · refine g_iconst (v := 1) Z dX1_holds_18 (by decide) ?_
    refine g_goto Z 23 dX1_holds_19 (by decide) ?_
    exact g_zret Z dX1_holds_23 (by rfl) (by omega) (by omega) (⟨rfl, by first | exact Or.inl rfl | exact Or.inr rfl⟩)

set_option maxRecDepth 100000 in
set_option maxHeartbeats 4000000 in
/-- static -/
theorem c_X1_upTo (l : Launch) (D : va_G) (cy : Nat → ClassId) (nw : Nat) (S : PS) (x : Int32) : kL l yX1_upTo wsX1_upTo 0 0 D cy nw [.int x] S (fun _ T => T = S) 0 0 := by
  refine enterL (cc := cX1_upTo) (nL := 1) (ret := (some .long)) (by decide +kernel) rfl (Nat.le_of_ble_eq_true rfl) ?_
  intro F Z hl hR hD hcy hnw hnm
  subst hl hD hcy hnw
  have hRf : F.R.frames = 0 := by rw [hR]
  have hRc : F.R.cells = 0 := by rw [hR]
  have hRs : F.R.slots = 0 := by rw [hR]
  have hRl : F.R.locals = 0 := by rw [hR]
  have ct50 : Cond.constantLong RX1 50 (-1) ∈ wsX1_upTo := by decide +kernel
  refine g_ldc2 (v := -1) Z dX1_upTo_0 ct50 ?_
  refine g_bipush (v := 63) Z dX1_upTo_3 (by decide) ?_
  refine g_iload_n Z dX1_upTo_5 rfl ?_
  refine g_bipush (v := 63) Z dX1_upTo_6 (by decide) ?_
  refine g_iand Z dX1_upTo_8 ?_
  refine g_isub Z dX1_upTo_9 ?_
  refine g_lushr Z dX1_upTo_10 ?_
  exact g_lret Z dX1_upTo_11 (by omega) (by omega) (rfl)

set_option maxRecDepth 100000 in
set_option maxHeartbeats 4000000 in
/-- static -/
theorem c_X1_mix (l : Launch) (D : va_G) (cy : Nat → ClassId) (nw : Nat) (S : PS) (x : Int32) (a b : Int64) : kL l yX1_mix wsX1_mix 0 0 D cy nw [.int x, .long a, .long b] S (fun _ T => T = S) 0 0 := by
  refine enterL (cc := cX1_mix) (nL := 5) (ret := (some .long)) (by decide +kernel) rfl (Nat.le_of_ble_eq_true rfl) ?_
  intro F Z hl hR hD hcy hnw hnm
  subst hl hD hcy hnw
  have hRf : F.R.frames = 0 := by rw [hR]
  have hRc : F.R.cells = 0 := by rw [hR]
  have hRs : F.R.slots = 0 := by rw [hR]
  have hRl : F.R.locals = 0 := by rw [hR]
  have ct50 : Cond.constantLong RX1 50 (-1) ∈ wsX1_mix := by decide +kernel
  refine g_iload_n Z dX1_mix_0 rfl ?_
  by_cases hr : x.toInt < 0 ∨ 2 < x.toInt
  · refine g_tableOut Z 40 dX1_mix_1 hr (by decide) ?_
    refine g_lload_n Z dX1_mix_40 rfl ?_
    refine g_lload_n Z dX1_mix_41 rfl ?_
    refine g_ldc2 (v := -1) Z dX1_mix_42 ct50 ?_
    refine g_lxor Z dX1_mix_45 ?_
    refine g_land Z dX1_mix_46 ?_
    exact g_lret Z dX1_mix_47 (by omega) (by omega) (rfl)
  · have hx : x.toInt = 0 ∨ x.toInt = 1 ∨ x.toInt = 2 := by omega
    rcases hx with hx | hx | hx
    · refine g_tableIn Z 28 dX1_mix_1 (by omega) (by omega) (by rw [hx]; rfl) (by decide) ?_
      refine g_lload_n Z dX1_mix_28 rfl ?_
      refine g_lload_n Z dX1_mix_29 rfl ?_
      refine g_land Z dX1_mix_30 ?_
      exact g_lret Z dX1_mix_31 (by omega) (by omega) (rfl)
    · refine g_tableIn Z 32 dX1_mix_1 (by omega) (by omega) (by rw [hx]; rfl) (by decide) ?_
      refine g_lload_n Z dX1_mix_32 rfl ?_
      refine g_lload_n Z dX1_mix_33 rfl ?_
      refine g_lor Z dX1_mix_34 ?_
      exact g_lret Z dX1_mix_35 (by omega) (by omega) (rfl)
    · refine g_tableIn Z 36 dX1_mix_1 (by omega) (by omega) (by rw [hx]; rfl) (by decide) ?_
      refine g_lload_n Z dX1_mix_36 rfl ?_
      refine g_lload_n Z dX1_mix_37 rfl ?_
      refine g_lxor Z dX1_mix_38 ?_
      exact g_lret Z dX1_mix_39 (by omega) (by omega) (rfl)

set_option maxRecDepth 100000 in
set_option maxHeartbeats 4000000 in
/-- two containers' lows held beside each other -/
theorem c_X1_hasNoLowBut (l : Launch) (D : va_G) (cy : Nat → ClassId) (nw : Nat) (S : PS) (c d : Nat) (hc : Cr S c) (hd : Cr S d) : kI l yX1_hasNoLowBut wsX1_hasNoLowBut 0 0 D cy nw [.ref c, .ref d] S (fun r T => T = S ∧ (r = 0 ∨ r = 1)) 0 0 := by
  refine enterI (cc := cX1_hasNoLowBut) (nL := 3) (ret := (some .boolean)) (by decide +kernel) rfl (Nat.le_of_ble_eq_true rfl) ?_
  intro F Z hl hR hD hcy hnw hnm
  subst hl hD hcy hnw
  have hRf : F.R.frames = 0 := by rw [hR]
  have hRc : F.R.cells = 0 := by rw [hR]
  have hRs : F.R.slots = 0 := by rw [hR]
  have hRl : F.R.locals = 0 := by rw [hR]
  have in1 : ∀ w ∈ u_ws RX1 TX1 4, w ∈ wsX1_hasNoLowBut := by decide +kernel
  have lk13 : Cond.fieldLink RX1 13 (TX1 3).1 (TX1 3).2.1 (TX1 3).2.2.1 ∈ wsX1_hasNoLowBut := by decide +kernel
  have ct50 : Cond.constantLong RX1 50 (-1) ∈ wsX1_hasNoLowBut := by decide +kernel
  obtain ⟨hcL, hcK, ⟨key, hkey, ekey⟩, w, hww, hwL, hwK, hwl⟩ := id hc
  obtain ⟨hdL, hdK, -, v, hvv, hvL, hvK, hvl⟩ := id hd
  have loop : ∀ (n : Nat) (i : Nat), 1024 - i < n → i ≤ 1024 → G F 3 S 0 0 (QI F (fun r T => T = S ∧ (r = 0 ∨ r = 1)) 0 0) 2 [(0, .ref c), (1, .ref d), (2, .int (nI i))] [] := by
    intro n
    induction n with
    | zero => intros; omega
    | succ n ih =>
      intro i hn hi
      refine g_iload_n Z dX1_hasNoLowBut_2 rfl ?_
      refine g_sipush (v := 1024) Z dX1_hasNoLowBut_3 (by decide) ?_
      refine g_icmp_ge Z 39 dX1_hasNoLowBut_6 (by decide) (fun h6 => ?_) (fun h6 => ?_)
      · refine g_iconst (v := 1) Z dX1_hasNoLowBut_39 (by decide) ?_
        exact g_zret Z dX1_hasNoLowBut_40 (by rfl) (by omega) (by omega) (⟨rfl, by first | exact Or.inl rfl | exact Or.inr rfl⟩)
      · have hlt : i < 1024 := ge_f (by omega) (by decide) h6
        refine g_aload_n Z dX1_hasNoLowBut_9 rfl ?_
        refine g_getr Z 1 3 rfl (by decide) in1 lk13 dX1_hasNoLowBut_10 (by assumption) (by assumption) (by assumption) ?_
        refine g_iload_n Z dX1_hasNoLowBut_13 rfl ?_
        refine g_lald Z dX1_hasNoLowBut_14 (by assumption) (by assumption) (by exact vin_of hwl hlt (by decide)) ?_
        refine g_aload_n Z dX1_hasNoLowBut_15 rfl ?_
        refine g_getr Z 1 3 rfl (by decide) in1 lk13 dX1_hasNoLowBut_16 (by assumption) (by assumption) (by assumption) ?_
        refine g_iload_n Z dX1_hasNoLowBut_19 rfl ?_
        refine g_lald Z dX1_hasNoLowBut_20 (by assumption) (by assumption) (by exact vin_of hvl hlt (by decide)) ?_
        refine g_ldc2 (v := -1) Z dX1_hasNoLowBut_21 ct50 ?_
        refine g_lxor Z dX1_hasNoLowBut_24 ?_
        refine g_land Z dX1_hasNoLowBut_25 ?_
        refine g_lconst (v := 0) Z dX1_hasNoLowBut_26 (by decide) ?_
        refine g_lcmp Z dX1_hasNoLowBut_27 ?_
        refine g_if_eq Z 33 dX1_hasNoLowBut_28 (by decide) (fun h28 => ?_) (fun h28 => ?_)
        · refine g_iinc (c := 1) Z dX1_hasNoLowBut_33 rfl (by decide) (by decide) ?_
          rw [nI_1]
          refine g_goto Z 2 dX1_hasNoLowBut_36 (by decide) ?_
          exact g_lv (by repeat (first | exact trivial | refine And.intro rfl ?_)) (ih (i + 1) (by omega) (by omega))
        · refine g_iconst (v := 0) Z dX1_hasNoLowBut_31 (by decide) ?_
          exact g_zret Z dX1_hasNoLowBut_32 (by rfl) (by omega) (by omega) (⟨rfl, by first | exact Or.inl rfl | exact Or.inr rfl⟩)
  refine g_iconst (v := 0) Z dX1_hasNoLowBut_0 (by decide) ?_
  refine g_istore_n Z dX1_hasNoLowBut_1 (by decide) ?_
  exact g_lv (by repeat (first | exact trivial | refine And.intro rfl ?_)) (loop 1025 0 (by omega) (by omega))

set_option maxRecDepth 100000 in
set_option maxHeartbeats 4000000 in
/-- two containers' lows held beside each other -/
theorem c_X1_hasLowIn (l : Launch) (D : va_G) (cy : Nat → ClassId) (nw : Nat) (S : PS) (c d : Nat) (hc : Cr S c) (hd : Cr S d) : kI l yX1_hasLowIn wsX1_hasLowIn 0 0 D cy nw [.ref c, .ref d] S (fun r T => T = S ∧ (r = 0 ∨ r = 1)) 0 0 := by
  refine enterI (cc := cX1_hasLowIn) (nL := 3) (ret := (some .boolean)) (by decide +kernel) rfl (Nat.le_of_ble_eq_true rfl) ?_
  intro F Z hl hR hD hcy hnw hnm
  subst hl hD hcy hnw
  have hRf : F.R.frames = 0 := by rw [hR]
  have hRc : F.R.cells = 0 := by rw [hR]
  have hRs : F.R.slots = 0 := by rw [hR]
  have hRl : F.R.locals = 0 := by rw [hR]
  have in1 : ∀ w ∈ u_ws RX1 TX1 4, w ∈ wsX1_hasLowIn := by decide +kernel
  have lk13 : Cond.fieldLink RX1 13 (TX1 3).1 (TX1 3).2.1 (TX1 3).2.2.1 ∈ wsX1_hasLowIn := by decide +kernel
  obtain ⟨hcL, hcK, ⟨key, hkey, ekey⟩, w, hww, hwL, hwK, hwl⟩ := id hc
  obtain ⟨hdL, hdK, -, v, hvv, hvL, hvK, hvl⟩ := id hd
  have loop : ∀ (n : Nat) (i : Nat), 1024 - i < n → i ≤ 1024 → G F 3 S 0 0 (QI F (fun r T => T = S ∧ (r = 0 ∨ r = 1)) 0 0) 2 [(0, .ref c), (1, .ref d), (2, .int (nI i))] [] := by
    intro n
    induction n with
    | zero => intros; omega
    | succ n ih =>
      intro i hn hi
      refine g_iload_n Z dX1_hasLowIn_2 rfl ?_
      refine g_sipush (v := 1024) Z dX1_hasLowIn_3 (by decide) ?_
      refine g_icmp_ge Z 35 dX1_hasLowIn_6 (by decide) (fun h6 => ?_) (fun h6 => ?_)
      · refine g_iconst (v := 0) Z dX1_hasLowIn_35 (by decide) ?_
        exact g_zret Z dX1_hasLowIn_36 (by rfl) (by omega) (by omega) (⟨rfl, by first | exact Or.inl rfl | exact Or.inr rfl⟩)
      · have hlt : i < 1024 := ge_f (by omega) (by decide) h6
        refine g_aload_n Z dX1_hasLowIn_9 rfl ?_
        refine g_getr Z 1 3 rfl (by decide) in1 lk13 dX1_hasLowIn_10 (by assumption) (by assumption) (by assumption) ?_
        refine g_iload_n Z dX1_hasLowIn_13 rfl ?_
        refine g_lald Z dX1_hasLowIn_14 (by assumption) (by assumption) (by exact vin_of hwl hlt (by decide)) ?_
        refine g_aload_n Z dX1_hasLowIn_15 rfl ?_
        refine g_getr Z 1 3 rfl (by decide) in1 lk13 dX1_hasLowIn_16 (by assumption) (by assumption) (by assumption) ?_
        refine g_iload_n Z dX1_hasLowIn_19 rfl ?_
        refine g_lald Z dX1_hasLowIn_20 (by assumption) (by assumption) (by exact vin_of hvl hlt (by decide)) ?_
        refine g_land Z dX1_hasLowIn_21 ?_
        refine g_lconst (v := 0) Z dX1_hasLowIn_22 (by decide) ?_
        refine g_lcmp Z dX1_hasLowIn_23 ?_
        refine g_if_eq Z 29 dX1_hasLowIn_24 (by decide) (fun h24 => ?_) (fun h24 => ?_)
        · refine g_iinc (c := 1) Z dX1_hasLowIn_29 rfl (by decide) (by decide) ?_
          rw [nI_1]
          refine g_goto Z 2 dX1_hasLowIn_32 (by decide) ?_
          exact g_lv (by repeat (first | exact trivial | refine And.intro rfl ?_)) (ih (i + 1) (by omega) (by omega))
        · refine g_iconst (v := 1) Z dX1_hasLowIn_27 (by decide) ?_
          exact g_zret Z dX1_hasLowIn_28 (by rfl) (by omega) (by omega) (⟨rfl, by first | exact Or.inl rfl | exact Or.inr rfl⟩)
  refine g_iconst (v := 0) Z dX1_hasLowIn_0 (by decide) ?_
  refine g_istore_n Z dX1_hasLowIn_1 (by decide) ?_
  exact g_lv (by repeat (first | exact trivial | refine And.intro rfl ?_)) (loop 1025 0 (by omega) (by omega))

set_option maxRecDepth 100000 in
set_option maxHeartbeats 4000000 in
/-- whether two containers have the same lows -/
theorem c_X1_hasLowsOf (l : Launch) (D : va_G) (cy : Nat → ClassId) (nw : Nat) (S : PS) (c d : Nat) (hc : Cr S c) (hd : Cr S d) : kI l yX1_hasLowsOf wsX1_hasLowsOf 1 22 D cy nw [.ref c, .ref d] S (fun r T => T = S ∧ (r = 0 ∨ r = 1)) 0 0 := by
  refine enterI (cc := cX1_hasLowsOf) (nL := 2) (ret := (some .boolean)) (by decide +kernel) rfl (Nat.le_of_ble_eq_true rfl) ?_
  intro F Z hl hR hD hcy hnw hnm
  subst hl hD hcy hnw
  have hRf : F.R.frames = 1 := by rw [hR]
  have hRc : F.R.cells = 0 := by rw [hR]
  have hRs : F.R.slots = 0 := by rw [hR]
  have hRl : F.R.locals = 22 := by rw [hR]
  have in1 : ∀ w ∈ u_ws RX1 TX1 4, w ∈ wsX1_hasLowsOf := by decide +kernel
  have lk34 : Cond.fieldLink RX1 34 (TX1 2).1 (TX1 2).2.1 (TX1 2).2.2.1 ∈ wsX1_hasLowsOf := by decide +kernel
  obtain ⟨hcL, hcK, ⟨key, hkey, ekey⟩, w, hww, hwL, hwK, hwl⟩ := id hc
  obtain ⟨hdL, hdK, -, v, hvv, hvL, hvK, hvl⟩ := id hd
  refine g_aload_n Z dX1_hasLowsOf_0 rfl ?_
  refine g_geti Z 1 2 rfl (by decide) in1 lk34 dX1_hasLowsOf_1 (by assumption) (by assumption) ?_
  refine g_aload_n Z dX1_hasLowsOf_4 rfl ?_
  refine g_geti Z 1 2 rfl (by decide) in1 lk34 dX1_hasLowsOf_5 (by assumption) (by assumption) ?_
  refine g_icmp_ne Z 23 dX1_hasLowsOf_8 (by decide) (fun h8 => ?_) (fun h8 => ?_)
  · refine g_iconst (v := 0) Z dX1_hasLowsOf_23 (by decide) ?_
    exact g_zret Z dX1_hasLowsOf_24 (by rfl) (by omega) (by omega) (⟨rfl, by first | exact Or.inl rfl | exact Or.inr rfl⟩)
  · refine g_aload_n Z dX1_hasLowsOf_11 rfl ?_
    refine g_aload_n Z dX1_hasLowsOf_12 rfl ?_
    refine g_cvI Z (c_X1_hasNoLowBut F.l F.D F.cy F.nw _ c d hc hd) 1 gX1_hasLowsOf_X1_hasNoLowBut rfl (by decide +kernel) (by rw [hRf, hRl]; decide) (by assumption) (κ := 1) (by assumption) rfl (by decide) rfl rfl (Nat.le_of_ble_eq_true rfl) dX1_hasLowsOf_13 (by rw [hRc, hRs]; omega) (fun r T hp => ?_)
    obtain ⟨rfl, hr⟩ := hp
    refine g_if_eq Z 23 dX1_hasLowsOf_16 (by decide) (fun h16 => ?_) (fun h16 => ?_)
    · refine g_iconst (v := 0) Z dX1_hasLowsOf_23 (by decide) ?_
      exact g_zret Z dX1_hasLowsOf_24 (by rfl) (by omega) (by omega) (⟨rfl, by first | exact Or.inl rfl | exact Or.inr rfl⟩)
    · refine g_iconst (v := 1) Z dX1_hasLowsOf_19 (by decide) ?_
      refine g_goto Z 24 dX1_hasLowsOf_20 (by decide) ?_
      exact g_zret Z dX1_hasLowsOf_24 (by rfl) (by omega) (by omega) (⟨rfl, by first | exact Or.inl rfl | exact Or.inr rfl⟩)
end
section
theorem or01 {a b : Int32} (ha : a = 0 ∨ a = 1) (hb : b = 0 ∨ b = 1) : a ||| b = 0 ∨ a ||| b = 1 := by
  rcases ha with rfl | rfl <;> rcases hb with rfl | rfl <;> first | exact Or.inl rfl | exact Or.inr rfl
theorem nar01 {a : Int32} (ha : a = 0 ∨ a = 1) : narrow .boolean (.int a) = .int a := by
  rcases ha with rfl | rfl <;> rfl

set_option maxRecDepth 100000 in
set_option maxHeartbeats 4000000 in
/-- lows from one to another come, go or turn -/
theorem c_X1_changeLows (l : Launch) (D : va_G) (cy : Nat → ClassId) (nw : Nat) (S : PS) (c : Nat) (hc : Cr S c) (f t : Nat) (hf : f < 65536) (ht : t < 65536) (h : Int32) : kI l yX1_changeLows wsX1_changeLows 1 21 D cy nw [.ref c, .int (nI f), .int (nI t), .int h] S (fun r T => Cs c S T ∧ (r = 0 ∨ r = 1)) 0 0 := by
  refine enterI (cc := cX1_changeLows) (nL := 14) (ret := (some .boolean)) (by decide +kernel) rfl (Nat.le_of_ble_eq_true rfl) ?_
  intro F Z hl hR hD hcy hnw hnm
  subst hl hD hcy hnw
  have hRf : F.R.frames = 1 := by rw [hR]
  have hRc : F.R.cells = 0 := by rw [hR]
  have hRs : F.R.slots = 0 := by rw [hR]
  have hRl : F.R.locals = 21 := by rw [hR]
  have in1 : ∀ w ∈ u_ws RX1 TX1 4, w ∈ wsX1_changeLows := by decide +kernel
  have lk13 : Cond.fieldLink RX1 13 (TX1 3).1 (TX1 3).2.1 (TX1 3).2.2.1 ∈ wsX1_changeLows := by decide +kernel
  have lk34 : Cond.fieldLink RX1 34 (TX1 2).1 (TX1 2).2.1 (TX1 2).2.2.1 ∈ wsX1_changeLows := by decide +kernel
  have ct50 : Cond.constantLong RX1 50 (-1) ∈ wsX1_changeLows := by decide +kernel
  have loop : ∀ (n : Nat) (i : Nat) (ch : Int32) (T : PS), 1024 - i < n → (Cs c S T ∧ i ≤ 1024 ∧ (ch = 0 ∨ ch = 1)) → G F 14 T 0 0 (QI F (fun r T => Cs c S T ∧ (r = 0 ∨ r = 1)) 0 0) 19 [(0, .ref c), (1, .int (nI f)), (2, .int (nI t)), (3, .int h), (4, .int ch), (5, .int (nI (f / 64))), (6, .int (nI (t / 64))), (7, .int (nI i))] [] := by
    intro n
    induction n with
    | zero => intros; omega
    | succ n ih =>
      intro i ch T hn ⟨hT, hi, hch⟩
      obtain ⟨hcL, hcK, -, w, hww, hwL, hwK, hwl⟩ := hT.cr hc
      refine g_iload Z dX1_changeLows_19 rfl ?_
      refine g_iload Z dX1_changeLows_21 rfl ?_
      refine g_icmp_gt Z 160 dX1_changeLows_23 (by decide) (fun h23 => ?_) (fun h23 => ?_)
      · refine g_iload Z dX1_changeLows_160 rfl ?_
        exact g_zret Z dX1_changeLows_162 (nar01 hch) (by omega) (by omega) (⟨hT, hch⟩)
      · have hle : i ≤ t / 64 := gt_f (by omega) (by omega) h23
        have j105 : ∀ v8 o nw8 : Int64, G F 14 T 0 0 (QI F (fun r T => Cs c S T ∧ (r = 0 ∨ r = 1)) 0 0) 105 [(0, .ref c), (1, .int (nI f)), (2, .int (nI t)), (3, .int h), (4, .int ch), (5, .int (nI (f / 64))), (6, .int (nI (t / 64))), (7, .int (nI i)), (8, .long v8), (10, .long o)] [.long nw8] := by
          intro v8 o nw8
          refine g_lstore Z dX1_changeLows_105 (by decide) ?_
          refine g_aload_n Z dX1_changeLows_107 rfl ?_
          refine g_getr Z 1 3 rfl (by decide) in1 lk13 dX1_changeLows_108 (by assumption) (by assumption) (by assumption) ?_
          refine g_iload Z dX1_changeLows_111 rfl ?_
          refine g_lload Z dX1_changeLows_113 rfl ?_
          refine g_last Z dX1_changeLows_115 (by assumption) (by assumption) (by exact vin_of hwl (by omega) (by decide)) ?_
          refine g_aload_n Z dX1_changeLows_116 rfl ?_
          refine g_dup Z dX1_changeLows_117 rfl ?_
          refine g_geti Z 1 2 rfl (by decide) in1 lk34 dX1_changeLows_118 (by assumption) (by assumption) ?_
          refine g_lload Z dX1_changeLows_121 rfl ?_
          refine g_csI Z (c_J13_bitCount_95d88 F.l F.D F.cy F.nw _ _) 1 gX1_changeLows_J13_bitCount_95d88 rfl (by decide +kernel) (by rw [hRf, hRl]; decide) rfl rfl (Nat.le_of_ble_eq_true rfl) dX1_changeLows_123 (by rw [hRc, hRs]; omega) (fun r T hp => ?_)
          obtain ⟨rfl, -⟩ := hp
          refine g_lload Z dX1_changeLows_126 rfl ?_
          refine g_csI Z (c_J13_bitCount_95d88 F.l F.D F.cy F.nw _ _) 1 gX1_changeLows_J13_bitCount_95d88 rfl (by decide +kernel) (by rw [hRf, hRl]; decide) rfl rfl (Nat.le_of_ble_eq_true rfl) dX1_changeLows_128 (by rw [hRc, hRs]; omega) (fun r T hp => ?_)
          obtain ⟨rfl, -⟩ := hp
          refine g_isub Z dX1_changeLows_131 ?_
          refine g_iadd Z dX1_changeLows_132 ?_
          refine g_puti Z 1 2 rfl (by decide) tyX1 tyX1_ok nmX1 rfl in1 lk34 dX1_changeLows_133 rfl rfl (by assumption) (by assumption) ?_
          refine g_iload Z dX1_changeLows_136 rfl ?_
          refine g_lload Z dX1_changeLows_138 rfl ?_
          refine g_lload Z dX1_changeLows_140 rfl ?_
          refine g_lcmp Z dX1_changeLows_142 ?_
          refine g_if_eq Z 150 dX1_changeLows_143 (by decide) (fun h143 => ?_) (fun h143 => ?_)
          · refine g_iconst (v := 0) Z dX1_changeLows_150 (by decide) ?_
            refine g_ior Z dX1_changeLows_151 ?_
            refine g_istore Z dX1_changeLows_152 (by decide) ?_
            refine g_iinc (c := 1) Z dX1_changeLows_154 rfl (by decide) (by decide) ?_
            rw [nI_1]
            refine g_goto Z 19 dX1_changeLows_157 (by decide) ?_
            exact g_lv (by repeat (first | exact trivial | refine And.intro rfl ?_)) (ih (i + 1) _ _ (by omega) ⟨hT.rowJ.setI (by decide), by omega, or01 hch (by first | exact Or.inl rfl | exact Or.inr rfl)⟩)
          · refine g_iconst (v := 1) Z dX1_changeLows_146 (by decide) ?_
            refine g_goto Z 151 dX1_changeLows_147 (by decide) ?_
            refine g_ior Z dX1_changeLows_151 ?_
            refine g_istore Z dX1_changeLows_152 (by decide) ?_
            refine g_iinc (c := 1) Z dX1_changeLows_154 rfl (by decide) (by decide) ?_
            rw [nI_1]
            refine g_goto Z 19 dX1_changeLows_157 (by decide) ?_
            exact g_lv (by repeat (first | exact trivial | refine And.intro rfl ?_)) (ih (i + 1) _ _ (by omega) ⟨hT.rowJ.setI (by decide), by omega, or01 hch (by first | exact Or.inl rfl | exact Or.inr rfl)⟩)
        have j62 : ∀ v8 : Int64, G F 14 T 0 0 (QI F (fun r T => Cs c S T ∧ (r = 0 ∨ r = 1)) 0 0) 62 [(0, .ref c), (1, .int (nI f)), (2, .int (nI t)), (3, .int h), (4, .int ch), (5, .int (nI (f / 64))), (6, .int (nI (t / 64))), (7, .int (nI i)), (8, .long v8)] [] := by
          intro v8
          refine g_aload_n Z dX1_changeLows_62 rfl ?_
          refine g_getr Z 1 3 rfl (by decide) in1 lk13 dX1_changeLows_63 (by assumption) (by assumption) (by assumption) ?_
          refine g_iload Z dX1_changeLows_66 rfl ?_
          refine g_lald Z dX1_changeLows_68 (by assumption) (by assumption) (by exact vin_of hwl (by omega) (by decide)) ?_
          refine g_lstore Z dX1_changeLows_69 (by decide) ?_
          refine g_iload_n Z dX1_changeLows_71 rfl ?_
          refine g_if_ne Z 83 dX1_changeLows_72 (by decide) (fun h72 => ?_) (fun h72 => ?_)
          · refine g_iload_n Z dX1_changeLows_83 rfl ?_
            refine g_iconst (v := 1) Z dX1_changeLows_84 (by decide) ?_
            refine g_icmp_ne Z 100 dX1_changeLows_85 (by decide) (fun h85 => ?_) (fun h85 => ?_)
            · refine g_lload Z dX1_changeLows_100 rfl ?_
              refine g_lload Z dX1_changeLows_102 rfl ?_
              refine g_lxor Z dX1_changeLows_104 ?_
              exact g_lv (by repeat (first | exact trivial | refine And.intro rfl ?_)) (j105 _ _ _)
            · refine g_lload Z dX1_changeLows_88 rfl ?_
              refine g_lload Z dX1_changeLows_90 rfl ?_
              refine g_ldc2 (v := -1) Z dX1_changeLows_92 ct50 ?_
              refine g_lxor Z dX1_changeLows_95 ?_
              refine g_land Z dX1_changeLows_96 ?_
              refine g_goto Z 105 dX1_changeLows_97 (by decide) ?_
              exact g_lv (by repeat (first | exact trivial | refine And.intro rfl ?_)) (j105 _ _ _)
          · refine g_lload Z dX1_changeLows_75 rfl ?_
            refine g_lload Z dX1_changeLows_77 rfl ?_
            refine g_lor Z dX1_changeLows_79 ?_
            refine g_goto Z 105 dX1_changeLows_80 (by decide) ?_
            exact g_lv (by repeat (first | exact trivial | refine And.intro rfl ?_)) (j105 _ _ _)
        have j44 : ∀ v : Int64, G F 14 T 0 0 (QI F (fun r T => Cs c S T ∧ (r = 0 ∨ r = 1)) 0 0) 44 [(0, .ref c), (1, .int (nI f)), (2, .int (nI t)), (3, .int h), (4, .int ch), (5, .int (nI (f / 64))), (6, .int (nI (t / 64))), (7, .int (nI i))] [.long v] := by
          intro v
          refine g_lstore Z dX1_changeLows_44 (by decide) ?_
          refine g_iload Z dX1_changeLows_46 rfl ?_
          refine g_iload Z dX1_changeLows_48 rfl ?_
          refine g_icmp_ne Z 62 dX1_changeLows_50 (by decide) (fun h50 => ?_) (fun h50 => ?_)
          · exact g_lv (by repeat (first | exact trivial | refine And.intro rfl ?_)) (j62 _)
          · refine g_lload Z dX1_changeLows_53 rfl ?_
            refine g_iload_n Z dX1_changeLows_55 rfl ?_
            refine g_csL Z (c_X1_upTo F.l F.D F.cy F.nw _ _) 1 gX1_changeLows_X1_upTo rfl (by decide +kernel) (by rw [hRf, hRl]; decide) rfl rfl (Nat.le_of_ble_eq_true rfl) dX1_changeLows_56 (by rw [hRc, hRs]; omega) (fun r T hp => ?_)
            obtain rfl := hp
            refine g_land Z dX1_changeLows_59 ?_
            refine g_lstore Z dX1_changeLows_60 (by decide) ?_
            exact g_lv (by repeat (first | exact trivial | refine And.intro rfl ?_)) (j62 _)
        refine g_iload Z dX1_changeLows_26 rfl ?_
        refine g_iload Z dX1_changeLows_28 rfl ?_
        refine g_icmp_ne Z 41 dX1_changeLows_30 (by decide) (fun h30 => ?_) (fun h30 => ?_)
        · refine g_ldc2 (v := -1) Z dX1_changeLows_41 ct50 ?_
          exact g_lv (by repeat (first | exact trivial | refine And.intro rfl ?_)) (j44 _)
        · refine g_ldc2 (v := -1) Z dX1_changeLows_33 ct50 ?_
          refine g_iload_n Z dX1_changeLows_36 rfl ?_
          refine g_lshl Z dX1_changeLows_37 ?_
          refine g_goto Z 44 dX1_changeLows_38 (by decide) ?_
          exact g_lv (by repeat (first | exact trivial | refine And.intro rfl ?_)) (j44 _)
  refine g_iconst (v := 0) Z dX1_changeLows_0 (by decide) ?_
  refine g_istore Z dX1_changeLows_1 (by decide) ?_
  refine g_iload_n Z dX1_changeLows_3 rfl ?_
  refine g_bipush (v := 6) Z dX1_changeLows_4 (by decide) ?_
  refine g_ishr Z dX1_changeLows_6 ?_
  rw [shr6 (by omega)]
  refine g_istore Z dX1_changeLows_7 (by decide) ?_
  refine g_iload_n Z dX1_changeLows_9 rfl ?_
  refine g_bipush (v := 6) Z dX1_changeLows_10 (by decide) ?_
  refine g_ishr Z dX1_changeLows_12 ?_
  rw [shr6 (by omega)]
  refine g_istore Z dX1_changeLows_13 (by decide) ?_
  refine g_iload Z dX1_changeLows_15 rfl ?_
  refine g_istore Z dX1_changeLows_17 (by decide) ?_
  exact g_lv (by repeat (first | exact trivial | refine And.intro rfl ?_)) (loop 1025 (f / 64) 0 S (by omega) ⟨Cs.rf, by omega, Or.inl rfl⟩)

set_option maxRecDepth 100000 in
set_option maxHeartbeats 4000000 in
/-- lows come by steps -/
theorem c_X1_putLowsBySteps (l : Launch) (D : va_G) (cy : Nat → ClassId) (nw : Nat) (S : PS) (c : Nat) (hc : Cr S c) (f q : Nat) (hf : f < 65536) (hq1 : 1 ≤ q) (hq : q < 65536) : kI l yX1_putLowsBySteps wsX1_putLowsBySteps 1 21 D cy nw [.ref c, .int (nI f), .int (nI q)] S (fun r T => Cs c S T ∧ (r = 0 ∨ r = 1)) 0 0 := by
  refine enterI (cc := cX1_putLowsBySteps) (nL := 5) (ret := (some .boolean)) (by decide +kernel) rfl (Nat.le_of_ble_eq_true rfl) ?_
  intro F Z hl hR hD hcy hnw hnm
  subst hl hD hcy hnw
  have hRf : F.R.frames = 1 := by rw [hR]
  have hRc : F.R.cells = 0 := by rw [hR]
  have hRs : F.R.slots = 0 := by rw [hR]
  have hRl : F.R.locals = 21 := by rw [hR]
  have in1 : ∀ w ∈ u_ws RX1 TX1 4, w ∈ wsX1_putLowsBySteps := by decide +kernel
  have lk13 : Cond.fieldLink RX1 13 (TX1 3).1 (TX1 3).2.1 (TX1 3).2.2.1 ∈ wsX1_putLowsBySteps := by decide +kernel
  have lk34 : Cond.fieldLink RX1 34 (TX1 2).1 (TX1 2).2.1 (TX1 2).2.2.1 ∈ wsX1_putLowsBySteps := by decide +kernel
  have ct62 : Cond.constant RX1 62 (65535) ∈ wsX1_putLowsBySteps := by decide +kernel
  have loop : ∀ (n : Nat) (i : Nat) (b : Int32) (T : PS), 131072 - i < n → (Cs c S T ∧ i ≤ 131072) → G F 5 T 0 0 (QI F (fun r T => Cs c S T ∧ (r = 0 ∨ r = 1)) 0 0) 15 [(0, .ref c), (1, .int (nI f)), (2, .int (nI q)), (3, .int b), (4, .int (nI i))] [] := by
    intro n
    induction n with
    | zero => intros; omega
    | succ n ih =>
      intro i b T hn ⟨hT, hi⟩
      have hcr := hT.cr hc
      obtain ⟨hcL, hcK, -, w, hww, hwL, hwK, hwl⟩ := id hcr
      refine g_iload Z dX1_putLowsBySteps_15 rfl ?_
      refine g_ldc (v := 65535) Z dX1_putLowsBySteps_17 ct62 ?_
      refine g_icmp_gt Z 67 dX1_putLowsBySteps_19 (by decide) (fun h19 => ?_) (fun h19 => ?_)
      · refine g_aload_n Z dX1_putLowsBySteps_67 rfl ?_
        refine g_geti Z 1 2 rfl (by decide) in1 lk34 dX1_putLowsBySteps_68 (by assumption) (by assumption) ?_
        refine g_iload_n Z dX1_putLowsBySteps_71 rfl ?_
        refine g_icmp_eq Z 79 dX1_putLowsBySteps_72 (by decide) (fun h72 => ?_) (fun h72 => ?_)
        · refine g_iconst (v := 0) Z dX1_putLowsBySteps_79 (by decide) ?_
          exact g_zret Z dX1_putLowsBySteps_80 (by rfl) (by omega) (by omega) (⟨hT, by first | exact Or.inl rfl | exact Or.inr rfl⟩)
        · refine g_iconst (v := 1) Z dX1_putLowsBySteps_75 (by decide) ?_
          refine g_goto Z 80 dX1_putLowsBySteps_76 (by decide) ?_
          exact g_zret Z dX1_putLowsBySteps_80 (by rfl) (by omega) (by omega) (⟨hT, by first | exact Or.inl rfl | exact Or.inr rfl⟩)
      · have hlt : i ≤ 65535 := gt_f (by omega) (by decide) h19
        refine g_aload_n Z dX1_putLowsBySteps_22 rfl ?_
        refine g_iload Z dX1_putLowsBySteps_23 rfl ?_
        refine g_cvI Z (c_X1_holds F.l F.D F.cy F.nw _ c hcr i (by omega)) 1 gX1_putLowsBySteps_X1_holds rfl (by decide +kernel) (by rw [hRf, hRl]; decide) (by assumption) (κ := 1) (by assumption) rfl (by decide) rfl rfl (Nat.le_of_ble_eq_true rfl) dX1_putLowsBySteps_25 (by rw [hRc, hRs]; omega) (fun r T hp => ?_)
        obtain ⟨rfl, hr⟩ := hp
        refine g_if_ne Z 58 dX1_putLowsBySteps_28 (by decide) (fun h28 => ?_) (fun h28 => ?_)
        · refine g_iload Z dX1_putLowsBySteps_58 rfl ?_
          refine g_iload_n Z dX1_putLowsBySteps_60 rfl ?_
          refine g_iadd Z dX1_putLowsBySteps_61 ?_
          rw [nI_add]
          refine g_istore Z dX1_putLowsBySteps_62 (by decide) ?_
          refine g_goto Z 15 dX1_putLowsBySteps_64 (by decide) ?_
          first | exact g_lv (by repeat (first | exact trivial | refine And.intro rfl ?_)) (ih (i + q) _ _ (by omega) ⟨hT, by omega⟩) | exact g_lv (by repeat (first | exact trivial | refine And.intro rfl ?_)) (ih (i + q) _ _ (by omega) ⟨hT.rowJ.setI (by decide), by omega⟩)
        · refine g_aload_n Z dX1_putLowsBySteps_31 rfl ?_
          refine g_getr Z 1 3 rfl (by decide) in1 lk13 dX1_putLowsBySteps_32 (by assumption) (by assumption) (by assumption) ?_
          refine g_iload Z dX1_putLowsBySteps_35 rfl ?_
          refine g_bipush (v := 6) Z dX1_putLowsBySteps_37 (by decide) ?_
          refine g_ishr Z dX1_putLowsBySteps_39 ?_
          rw [shr6 (by omega)]
          refine g_dup2 Z dX1_putLowsBySteps_40 rfl rfl ?_
          refine g_lald Z dX1_putLowsBySteps_41 (by assumption) (by assumption) (by exact vin_of hwl (by omega) (by decide)) ?_
          refine g_lconst (v := 1) Z dX1_putLowsBySteps_42 (by decide) ?_
          refine g_iload Z dX1_putLowsBySteps_43 rfl ?_
          refine g_lshl Z dX1_putLowsBySteps_45 ?_
          refine g_lor Z dX1_putLowsBySteps_46 ?_
          refine g_last Z dX1_putLowsBySteps_47 (by assumption) (by assumption) (by exact vin_of hwl (by omega) (by decide)) ?_
          refine g_aload_n Z dX1_putLowsBySteps_48 rfl ?_
          refine g_dup Z dX1_putLowsBySteps_49 rfl ?_
          refine g_geti Z 1 2 rfl (by decide) in1 lk34 dX1_putLowsBySteps_50 (by assumption) (by assumption) ?_
          refine g_iconst (v := 1) Z dX1_putLowsBySteps_53 (by decide) ?_
          refine g_iadd Z dX1_putLowsBySteps_54 ?_
          refine g_puti Z 1 2 rfl (by decide) tyX1 tyX1_ok nmX1 rfl in1 lk34 dX1_putLowsBySteps_55 rfl rfl (by assumption) (by assumption) ?_
          refine g_iload Z dX1_putLowsBySteps_58 rfl ?_
          refine g_iload_n Z dX1_putLowsBySteps_60 rfl ?_
          refine g_iadd Z dX1_putLowsBySteps_61 ?_
          rw [nI_add]
          refine g_istore Z dX1_putLowsBySteps_62 (by decide) ?_
          refine g_goto Z 15 dX1_putLowsBySteps_64 (by decide) ?_
          first | exact g_lv (by repeat (first | exact trivial | refine And.intro rfl ?_)) (ih (i + q) _ _ (by omega) ⟨hT, by omega⟩) | exact g_lv (by repeat (first | exact trivial | refine And.intro rfl ?_)) (ih (i + q) _ _ (by omega) ⟨hT.rowJ.setI (by decide), by omega⟩)
  obtain ⟨hcL, hcK, -, w, hww, hwL, hwK, hwl⟩ := id hc
  refine g_iload_n Z dX1_putLowsBySteps_0 rfl ?_
  refine g_iconst (v := 1) Z dX1_putLowsBySteps_1 (by decide) ?_
  refine g_icmp_ge Z 7 dX1_putLowsBySteps_2 (by decide) (fun h2 => ?_) (fun h2 => absurd ((nI_leI (a := 1) (b := q) (by decide) (by omega)).mpr hq1) h2)
  refine g_aload_n Z dX1_putLowsBySteps_7 rfl ?_
  refine g_geti Z 1 2 rfl (by decide) in1 lk34 dX1_putLowsBySteps_8 (by assumption) (by assumption) ?_
  refine g_istore_n Z dX1_putLowsBySteps_11 (by decide) ?_
  refine g_iload_n Z dX1_putLowsBySteps_12 rfl ?_
  refine g_istore Z dX1_putLowsBySteps_13 (by decide) ?_
  exact g_lv (by repeat (first | exact trivial | refine And.intro rfl ?_)) (loop 131073 f _ S (by omega) ⟨Cs.rf, by omega⟩)

theorem begin_post {nw c w k : Nat} {S T : PS} {f : Nat → Int64} {v1 v2 : Int32} (hE : Ex nw S T) (hcr : Cr T c) (hcK : T.K c = 1) (hk : k < 65536) : Ex nw S ((((T.rowJ w f).setI c 0 (nI k)).setI c 1 v1).setI c 2 v2) ∧ Cr ((((T.rowJ w f).setI c 0 (nI k)).setI c 1 v1).setI c 2 v2) c := by
  have h1 : Ex nw T (T.rowJ w f) := Cs.ex (c := c) Cs.rf.rowJ hcK
  have h2 : Ex nw (T.rowJ w f) ((T.rowJ w f).setI c 0 (nI k)) := Ex.setKey hcK hk
  have h3 : Ex nw ((T.rowJ w f).setI c 0 (nI k)) ((((T.rowJ w f).setI c 0 (nI k)).setI c 1 v1).setI c 2 v2) := Cs.ex (c := c) ((Cs.rf.setI (by decide)).setI (by decide)) hcK
  have h4 := h1.tr (h2.tr h3)
  exact ⟨hE.tr h4, h4.2.2 c hcr⟩

set_option maxRecDepth 100000 in
set_option maxHeartbeats 4000000 in
/-- an empty container of a key -/
theorem c_X1_begin (l : Launch) (D : va_G) (cy : Nat → ClassId) (nw : Nat) (S : PS) (c : Nat) (hc : Cw S nw c) (k : Nat) (hk : k < 65536) : kV l yX1_begin wsX1_begin 1 24 D cy nw [.ref c, .int (nI k)] S (fun T => Ex nw S T ∧ Cr T c) 1 1024 := by
  refine enterV (cc := cX1_begin) (nL := 2) (ret := none) (by decide +kernel) rfl (Nat.le_of_ble_eq_true rfl) ?_
  intro F Z hl hR hD hcy hnw hnm
  subst hl hD hcy hnw
  have hRf : F.R.frames = 1 := by rw [hR]
  have hRc : F.R.cells = 1 := by rw [hR]
  have hRs : F.R.slots = 1024 := by rw [hR]
  have hRl : F.R.locals = 24 := by rw [hR]
  have in1 : ∀ w ∈ u_ws RX1 TX1 4, w ∈ wsX1_begin := by decide +kernel
  have lk13 : Cond.fieldLink RX1 13 (TX1 3).1 (TX1 3).2.1 (TX1 3).2.2.1 ∈ wsX1_begin := by decide +kernel
  have lk27 : Cond.fieldLink RX1 27 (TX1 0).1 (TX1 0).2.1 (TX1 0).2.2.1 ∈ wsX1_begin := by decide +kernel
  have lk31 : Cond.fieldLink RX1 31 (TX1 1).1 (TX1 1).2.1 (TX1 1).2.2.1 ∈ wsX1_begin := by decide +kernel
  have lk34 : Cond.fieldLink RX1 34 (TX1 2).1 (TX1 2).2.1 (TX1 2).2.2.1 ∈ wsX1_begin := by decide +kernel
  refine g_aload_n Z dX1_begin_0 rfl ?_
  refine g_cvV Z (c_X1_makeRoom F.l F.D F.cy F.nw _ c hc) 0 gX1_begin_X1_makeRoom rfl (by decide +kernel) (by rw [hRf, hRl]; decide) (by exact hc.1) (κ := 1) (by exact hc.2.1) rfl (by decide) rfl rfl (Nat.le_of_ble_eq_true rfl) dX1_begin_1 (by rw [hRc, hRs]; omega) (fun T hp => ?_)
  obtain ⟨hE, hcr⟩ := hp
  obtain ⟨hcL, hcK, -, w, hww, hwL, hwK, hwl⟩ := id hcr
  refine g_aload_n Z dX1_begin_4 rfl ?_
  refine g_getr Z 1 3 rfl (by decide) in1 lk13 dX1_begin_5 (by assumption) (by assumption) (by assumption) ?_
  refine g_lconst (v := 0) Z dX1_begin_8 (by decide) ?_
  refine g_csV Z (c_J7_fill_d0a16 F.l F.D F.cy F.nw _ w 0 hwL hwK hwl) 2 gX1_begin_J7_fill_d0a16 rfl (by decide +kernel) (by rw [hRf, hRl]; decide) rfl rfl (Nat.le_of_ble_eq_true rfl) dX1_begin_9 (by rw [hRc, hRs]; omega) (fun U hp => ?_)
  obtain ⟨f, rfl⟩ := hp
  refine g_aload_n Z dX1_begin_12 rfl ?_
  refine g_iload_n Z dX1_begin_13 rfl ?_
  refine g_puti Z 1 0 rfl (by decide) tyX1 tyX1_ok nmX1 rfl in1 lk27 dX1_begin_14 rfl rfl (by assumption) (by assumption) ?_
  refine g_aload_n Z dX1_begin_17 rfl ?_
  refine g_iconst (v := 0) Z dX1_begin_18 (by decide) ?_
  refine g_puti Z 1 1 rfl (by decide) tyX1 tyX1_ok nmX1 rfl in1 lk31 dX1_begin_19 rfl rfl (by assumption) (by assumption) ?_
  refine g_aload_n Z dX1_begin_22 rfl ?_
  refine g_iconst (v := 0) Z dX1_begin_23 (by decide) ?_
  refine g_puti Z 1 2 rfl (by decide) tyX1 tyX1_ok nmX1 rfl in1 lk34 dX1_begin_24 rfl rfl (by assumption) (by assumption) ?_
  exact g_vret Z dX1_begin_27 (by omega) (by omega) (by exact begin_post hE hcr hcK hk)

set_option maxRecDepth 100000 in
set_option maxHeartbeats 4000000 in
/-- becomes what another is -/
theorem c_X1_copyLowsOf (l : Launch) (D : va_G) (cy : Nat → ClassId) (nw : Nat) (S : PS) (c d : Nat) (hc : Cw S nw c) (hd : Cr S d) : kV l yX1_copyLowsOf wsX1_copyLowsOf 1 60 D cy nw [.ref c, .ref d] S (fun T => Ex nw S T ∧ Cr T c) 1 1024 := by
  refine enterV (cc := cX1_copyLowsOf) (nL := 2) (ret := none) (by decide +kernel) rfl (Nat.le_of_ble_eq_true rfl) ?_
  intro F Z hl hR hD hcy hnw hnm
  subst hl hD hcy hnw
  have hRf : F.R.frames = 1 := by rw [hR]
  have hRc : F.R.cells = 1 := by rw [hR]
  have hRs : F.R.slots = 1024 := by rw [hR]
  have hRl : F.R.locals = 60 := by rw [hR]
  have in1 : ∀ w ∈ u_ws RX1 TX1 4, w ∈ wsX1_copyLowsOf := by decide +kernel
  have lk13 : Cond.fieldLink RX1 13 (TX1 3).1 (TX1 3).2.1 (TX1 3).2.2.1 ∈ wsX1_copyLowsOf := by decide +kernel
  have lk27 : Cond.fieldLink RX1 27 (TX1 0).1 (TX1 0).2.1 (TX1 0).2.2.1 ∈ wsX1_copyLowsOf := by decide +kernel
  have lk31 : Cond.fieldLink RX1 31 (TX1 1).1 (TX1 1).2.1 (TX1 1).2.2.1 ∈ wsX1_copyLowsOf := by decide +kernel
  have lk34 : Cond.fieldLink RX1 34 (TX1 2).1 (TX1 2).2.1 (TX1 2).2.2.1 ∈ wsX1_copyLowsOf := by decide +kernel
  refine g_aload_n Z dX1_copyLowsOf_0 rfl ?_
  refine g_cvV Z (c_X1_makeRoom F.l F.D F.cy F.nw _ c hc) 0 gX1_copyLowsOf_X1_makeRoom rfl (by decide +kernel) (by rw [hRf, hRl]; decide) (by exact hc.1) (κ := 1) (by exact hc.2.1) rfl (by decide) rfl rfl (Nat.le_of_ble_eq_true rfl) dX1_copyLowsOf_1 (by rw [hRc, hRs]; omega) (fun T hp => ?_)
  obtain ⟨hE, hcr⟩ := hp
  have hdr := hE.2.2 d hd
  obtain ⟨hcL, hcK, -, w, hww, hwL, hwK, hwl⟩ := id hcr
  obtain ⟨hdL, hdK, ⟨k, hk, ek⟩, v, hvv, hvL, hvK, hvl⟩ := id hdr
  refine g_aload_n Z dX1_copyLowsOf_4 rfl ?_
  refine g_getr Z 1 3 rfl (by decide) in1 lk13 dX1_copyLowsOf_5 (by assumption) (by assumption) (by assumption) ?_
  refine g_iconst (v := 0) Z dX1_copyLowsOf_8 (by decide) ?_
  refine g_aload_n Z dX1_copyLowsOf_9 rfl ?_
  refine g_getr Z 1 3 rfl (by decide) in1 lk13 dX1_copyLowsOf_10 (by assumption) (by assumption) (by assumption) ?_
  refine g_iconst (v := 0) Z dX1_copyLowsOf_13 (by decide) ?_
  refine g_sipush (v := 1024) Z dX1_copyLowsOf_14 (by decide) ?_
  refine g_copyJ Z (by decide +kernel) (by decide +kernel) (by decide +kernel) (by decide +kernel) dX1_copyLowsOf_17 hvL hvK hwL hwK (by decide) (by decide) (by decide) (by rw [hvl]; decide) (by rw [hwl]; decide) (by rw [hRf]; decide) (by rw [hRl]; decide) ?_
  refine g_aload_n Z dX1_copyLowsOf_20 rfl ?_
  refine g_aload_n Z dX1_copyLowsOf_21 rfl ?_
  refine g_geti Z 1 0 rfl (by decide) in1 lk27 dX1_copyLowsOf_22 (by assumption) (by assumption) ?_
  rw [show PS.fi (PS.rowJ T w _) d 0 = nI k from ek]
  refine g_puti Z 1 0 rfl (by decide) tyX1 tyX1_ok nmX1 rfl in1 lk27 dX1_copyLowsOf_25 rfl rfl (by assumption) (by assumption) ?_
  refine g_aload_n Z dX1_copyLowsOf_28 rfl ?_
  refine g_aload_n Z dX1_copyLowsOf_29 rfl ?_
  refine g_geti Z 1 1 rfl (by decide) in1 lk31 dX1_copyLowsOf_30 (by assumption) (by assumption) ?_
  refine g_puti Z 1 1 rfl (by decide) tyX1 tyX1_ok nmX1 rfl in1 lk31 dX1_copyLowsOf_33 rfl rfl (by assumption) (by assumption) ?_
  refine g_aload_n Z dX1_copyLowsOf_36 rfl ?_
  refine g_aload_n Z dX1_copyLowsOf_37 rfl ?_
  refine g_geti Z 1 2 rfl (by decide) in1 lk34 dX1_copyLowsOf_38 (by assumption) (by assumption) ?_
  refine g_puti Z 1 2 rfl (by decide) tyX1 tyX1_ok nmX1 rfl in1 lk34 dX1_copyLowsOf_41 rfl rfl (by assumption) (by assumption) ?_
  exact g_vret Z dX1_copyLowsOf_44 (by omega) (by omega) (by exact begin_post hE hcr hcK hk)

set_option maxRecDepth 100000 in
set_option maxHeartbeats 4000000 in
/-- what two containers have together -/
theorem c_X1_becomeMix (l : Launch) (D : va_G) (cy : Nat → ClassId) (nw : Nat) (S : PS) (c a b : Nat) (hc : Cw S nw c) (ha : Cr S a) (hb : Cr S b) (x : Int32) : kV l yX1_becomeMix wsX1_becomeMix 2 43 D cy nw [.ref c, .int x, .ref a, .ref b] S (fun T => Ex nw S T ∧ Cr T c) 1 1024 := by
  refine enterV (cc := cX1_becomeMix) (nL := 7) (ret := none) (by decide +kernel) rfl (Nat.le_of_ble_eq_true rfl) ?_
  intro F Z hl hR hD hcy hnw hnm
  subst hl hD hcy hnw
  have hRf : F.R.frames = 2 := by rw [hR]
  have hRc : F.R.cells = 1 := by rw [hR]
  have hRs : F.R.slots = 1024 := by rw [hR]
  have hRl : F.R.locals = 43 := by rw [hR]
  have in1 : ∀ w ∈ u_ws RX1 TX1 4, w ∈ wsX1_becomeMix := by decide +kernel
  have lk13 : Cond.fieldLink RX1 13 (TX1 3).1 (TX1 3).2.1 (TX1 3).2.2.1 ∈ wsX1_becomeMix := by decide +kernel
  have lk27 : Cond.fieldLink RX1 27 (TX1 0).1 (TX1 0).2.1 (TX1 0).2.2.1 ∈ wsX1_becomeMix := by decide +kernel
  have lk31 : Cond.fieldLink RX1 31 (TX1 1).1 (TX1 1).2.1 (TX1 1).2.2.1 ∈ wsX1_becomeMix := by decide +kernel
  have lk34 : Cond.fieldLink RX1 34 (TX1 2).1 (TX1 2).2.1 (TX1 2).2.2.1 ∈ wsX1_becomeMix := by decide +kernel
  refine g_aload_n Z dX1_becomeMix_0 rfl ?_
  refine g_cvV Z (c_X1_makeRoom F.l F.D F.cy F.nw _ c hc) 0 gX1_becomeMix_X1_makeRoom rfl (by decide +kernel) (by rw [hRf, hRl]; decide) (by exact hc.1) (κ := 1) (by exact hc.2.1) rfl (by decide) rfl rfl (Nat.le_of_ble_eq_true rfl) dX1_becomeMix_1 (by rw [hRc, hRs]; omega) (fun S1 hp => ?_)
  obtain ⟨hE, hcr⟩ := hp
  have har := hE.2.2 a ha
  have hbr := hE.2.2 b hb
  obtain ⟨hcL, hcK, -, w, hww, hwL, hwK, hwl⟩ := id hcr
  obtain ⟨haL, haK, ⟨k, hk, ek⟩, -⟩ := id har
  refine g_aload_n Z dX1_becomeMix_4 rfl ?_
  refine g_aload_n Z dX1_becomeMix_5 rfl ?_
  refine g_geti Z 1 0 rfl (by decide) in1 lk27 dX1_becomeMix_6 (by assumption) (by assumption) ?_
  rw [ek]
  refine g_puti Z 1 0 rfl (by decide) tyX1 tyX1_ok nmX1 rfl in1 lk27 dX1_becomeMix_9 rfl rfl (by assumption) (by assumption) ?_
  refine g_aload_n Z dX1_becomeMix_12 rfl ?_
  refine g_iconst (v := 0) Z dX1_becomeMix_13 (by decide) ?_
  refine g_puti Z 1 2 rfl (by decide) tyX1 tyX1_ok nmX1 rfl in1 lk34 dX1_becomeMix_14 rfl rfl (by assumption) (by assumption) ?_
  refine g_iconst (v := 0) Z dX1_becomeMix_17 (by decide) ?_
  refine g_istore Z dX1_becomeMix_18 (by decide) ?_
  have hE2 : Ex F.nw S ((S1.setI c 0 (nI k)).setI c 2 0) := hE.tr ((Ex.setKey hcK hk).tr (Cs.ex (c := c) (Cs.rf.setI (by decide)) hcK))
  have hE3 : Ex F.nw S1 ((S1.setI c 0 (nI k)).setI c 2 0) := (Ex.setKey hcK hk).tr (Cs.ex (c := c) (Cs.rf.setI (by decide)) hcK)
  have hcr2 := hE3.2.2 c hcr
  have har2 := hE3.2.2 a har
  have hbr2 := hE3.2.2 b hbr
  generalize (S1.setI c 0 (nI k)).setI c 2 0 = S2 at hE2 hcr2 har2 hbr2 ⊢
  have loop : ∀ (n : Nat) (i : Nat) (T : PS), 1024 - i < n → (Cs c S2 T ∧ i ≤ 1024) → G F 7 T (0 + 1) (0 + 1024) (QV F (fun T => Ex F.nw S T ∧ Cr T c) 1 1024) 20 [(0, .ref c), (1, .int x), (2, .ref a), (3, .ref b), (4, .int (nI i))] [] := by
    intro n
    induction n with
    | zero => intros; omega
    | succ n ih =>
      intro i T hn ⟨hT, hi⟩
      have hcrT := hT.cr hcr2
      have harT := hT.cr har2
      have hbrT := hT.cr hbr2
      obtain ⟨hcL, hcK, -, w, hww, hwL, hwK, hwl⟩ := id hcrT
      obtain ⟨haL, haK, -, wa, hwa, hwaL, hwaK, hwal⟩ := id harT
      obtain ⟨hbL, hbK, -, wb, hwb, hwbL, hwbK, hwbl⟩ := id hbrT
      have hET : Ex F.nw S T := hE2.tr (hT.ex (hE2.1 c hc.1 |>.2.1.trans hc.2.1))
      refine g_iload Z dX1_becomeMix_20 rfl ?_
      refine g_sipush (v := 1024) Z dX1_becomeMix_22 (by decide) ?_
      refine g_icmp_ge Z 77 dX1_becomeMix_25 (by decide) (fun h25 => ?_) (fun h25 => ?_)
      · refine g_aload_n Z dX1_becomeMix_77 rfl ?_
        refine g_aload_n Z dX1_becomeMix_78 rfl ?_
        refine g_cvI Z (c_X1_hasLowsOf F.l F.D F.cy F.nw _ c a hcrT harT) 1 gX1_becomeMix_X1_hasLowsOf rfl (by decide +kernel) (by rw [hRf, hRl]; decide) (by assumption) (κ := 1) (by assumption) rfl (by decide) rfl rfl (Nat.le_of_ble_eq_true rfl) dX1_becomeMix_79 (by rw [hRc, hRs]; omega) (fun r U hp => ?_)
        obtain ⟨rfl, -⟩ := hp
        refine g_if_eq Z 96 dX1_becomeMix_82 (by decide) (fun h82 => ?_) (fun h82 => ?_)
        · refine g_aload_n Z dX1_becomeMix_96 rfl ?_
          refine g_aload_n Z dX1_becomeMix_97 rfl ?_
          refine g_cvI Z (c_X1_hasLowsOf F.l F.D F.cy F.nw _ c b hcrT hbrT) 1 gX1_becomeMix_X1_hasLowsOf rfl (by decide +kernel) (by rw [hRf, hRl]; decide) (by assumption) (κ := 1) (by assumption) rfl (by decide) rfl rfl (Nat.le_of_ble_eq_true rfl) dX1_becomeMix_98 (by rw [hRc, hRs]; omega) (fun r U hp => ?_)
          obtain ⟨rfl, -⟩ := hp
          refine g_if_eq Z 115 dX1_becomeMix_101 (by decide) (fun h101 => ?_) (fun h101 => ?_)
          · refine g_aload_n Z dX1_becomeMix_115 rfl ?_
            refine g_cvV Z (c_X1_setPlainKind F.l F.D F.cy F.nw _ c hcL hcK) 0 gX1_becomeMix_X1_setPlainKind rfl (by decide +kernel) (by rw [hRf, hRl]; decide) (by assumption) (κ := 1) (by assumption) rfl (by decide) rfl rfl (Nat.le_of_ble_eq_true rfl) dX1_becomeMix_116 (by rw [hRc, hRs]; omega) (fun U hp => ?_)
            exact g_vret Z dX1_becomeMix_119 (by omega) (by omega) (by first | exact ⟨hET.tr (hp.ex hcK), hp.cr hcrT⟩ | exact ⟨hET.tr (Cs.ex (c := c) (Cs.rf.setI (by decide)) hcK), Cs.cr (c := c) (Cs.rf.setI (by decide)) hcrT⟩)
          · refine g_aload_n Z dX1_becomeMix_104 rfl ?_
            refine g_aload_n Z dX1_becomeMix_105 rfl ?_
            refine g_geti Z 1 1 rfl (by decide) in1 lk31 dX1_becomeMix_106 (by assumption) (by assumption) ?_
            refine g_puti Z 1 1 rfl (by decide) tyX1 tyX1_ok nmX1 rfl in1 lk31 dX1_becomeMix_109 rfl rfl (by assumption) (by assumption) ?_
            refine g_goto Z 119 dX1_becomeMix_112 (by decide) ?_
            exact g_vret Z dX1_becomeMix_119 (by omega) (by omega) (by first | exact ⟨hET.tr (hp.ex hcK), hp.cr hcrT⟩ | exact ⟨hET.tr (Cs.ex (c := c) (Cs.rf.setI (by decide)) hcK), Cs.cr (c := c) (Cs.rf.setI (by decide)) hcrT⟩)
        · refine g_aload_n Z dX1_becomeMix_85 rfl ?_
          refine g_aload_n Z dX1_becomeMix_86 rfl ?_
          refine g_geti Z 1 1 rfl (by decide) in1 lk31 dX1_becomeMix_87 (by assumption) (by assumption) ?_
          refine g_puti Z 1 1 rfl (by decide) tyX1 tyX1_ok nmX1 rfl in1 lk31 dX1_becomeMix_90 rfl rfl (by assumption) (by assumption) ?_
          refine g_goto Z 119 dX1_becomeMix_93 (by decide) ?_
          exact g_vret Z dX1_becomeMix_119 (by omega) (by omega) (by first | exact ⟨hET.tr (hp.ex hcK), hp.cr hcrT⟩ | exact ⟨hET.tr (Cs.ex (c := c) (Cs.rf.setI (by decide)) hcK), Cs.cr (c := c) (Cs.rf.setI (by decide)) hcrT⟩)
      · have hlt : i < 1024 := ge_f (by omega) (by decide) h25
        refine g_iload_n Z dX1_becomeMix_28 rfl ?_
        refine g_aload_n Z dX1_becomeMix_29 rfl ?_
        refine g_getr Z 1 3 rfl (by decide) in1 lk13 dX1_becomeMix_30 (by assumption) (by assumption) (by assumption) ?_
        refine g_iload Z dX1_becomeMix_33 rfl ?_
        refine g_lald Z dX1_becomeMix_35 (by assumption) (by assumption) (by exact vin_of hwal hlt (by decide)) ?_
        refine g_aload_n Z dX1_becomeMix_36 rfl ?_
        refine g_getr Z 1 3 rfl (by decide) in1 lk13 dX1_becomeMix_37 (by assumption) (by assumption) (by assumption) ?_
        refine g_iload Z dX1_becomeMix_40 rfl ?_
        refine g_lald Z dX1_becomeMix_42 (by assumption) (by assumption) (by exact vin_of hwbl hlt (by decide)) ?_
        refine g_csL Z (c_X1_mix F.l F.D F.cy F.nw _ _ _ _) 3 gX1_becomeMix_X1_mix rfl (by decide +kernel) (by rw [hRf, hRl]; decide) rfl rfl (Nat.le_of_ble_eq_true rfl) dX1_becomeMix_43 (by rw [hRc, hRs]; omega) (fun r U hp => ?_)
        obtain rfl := hp
        refine g_lstore Z dX1_becomeMix_46 (by decide) ?_
        refine g_aload_n Z dX1_becomeMix_48 rfl ?_
        refine g_getr Z 1 3 rfl (by decide) in1 lk13 dX1_becomeMix_49 (by assumption) (by assumption) (by assumption) ?_
        refine g_iload Z dX1_becomeMix_52 rfl ?_
        refine g_lload Z dX1_becomeMix_54 rfl ?_
        refine g_last Z dX1_becomeMix_56 (by assumption) (by assumption) (by exact vin_of hwl hlt (by decide)) ?_
        refine g_aload_n Z dX1_becomeMix_57 rfl ?_
        refine g_dup Z dX1_becomeMix_58 rfl ?_
        refine g_geti Z 1 2 rfl (by decide) in1 lk34 dX1_becomeMix_59 (by assumption) (by assumption) ?_
        refine g_lload Z dX1_becomeMix_62 rfl ?_
        refine g_csI Z (c_J13_bitCount_95d88 F.l F.D F.cy F.nw _ _) 1 gX1_becomeMix_J13_bitCount_95d88 rfl (by decide +kernel) (by rw [hRf, hRl]; decide) rfl rfl (Nat.le_of_ble_eq_true rfl) dX1_becomeMix_64 (by rw [hRc, hRs]; omega) (fun r U hp => ?_)
        obtain ⟨rfl, -⟩ := hp
        refine g_iadd Z dX1_becomeMix_67 ?_
        refine g_puti Z 1 2 rfl (by decide) tyX1 tyX1_ok nmX1 rfl in1 lk34 dX1_becomeMix_68 rfl rfl (by assumption) (by assumption) ?_
        refine g_iinc (c := 1) Z dX1_becomeMix_71 rfl (by decide) (by decide) ?_
        rw [nI_1]
        refine g_goto Z 20 dX1_becomeMix_74 (by decide) ?_
        exact g_lv (by repeat (first | exact trivial | refine And.intro rfl ?_)) (ih (i + 1) _ (by omega) ⟨hT.rowJ.setI (by decide), by omega⟩)
  exact g_lv (by repeat (first | exact trivial | refine And.intro rfl ?_)) (loop 1025 0 S2 (by omega) ⟨Cs.rf, by omega⟩)
end
section
set_option maxRecDepth 100000 in
set_option maxHeartbeats 4000000 in
/-- how many lows are not above one -/
theorem c_X1_lowsUpTo (l : Launch) (D : va_G) (cy : Nat → ClassId) (nw : Nat) (S : PS) (c : Nat) (hc : Cr S c) (i : Nat) (hi : i < 65536) : kI l yX1_lowsUpTo wsX1_lowsUpTo 1 21 D cy nw [.ref c, .int (nI i)] S (fun _ T => T = S) 0 0 := by
  refine enterI (cc := cX1_lowsUpTo) (nL := 5) (ret := (some .int)) (by decide +kernel) rfl (Nat.le_of_ble_eq_true rfl) ?_
  intro F Z hl hR hD hcy hnw hnm
  subst hl hD hcy hnw
  have hRf : F.R.frames = 1 := by rw [hR]
  have hRc : F.R.cells = 0 := by rw [hR]
  have hRs : F.R.slots = 0 := by rw [hR]
  have hRl : F.R.locals = 21 := by rw [hR]
  have in1 : ∀ w ∈ u_ws RX1 TX1 4, w ∈ wsX1_lowsUpTo := by decide +kernel
  have lk13 : Cond.fieldLink RX1 13 (TX1 3).1 (TX1 3).2.1 (TX1 3).2.2.1 ∈ wsX1_lowsUpTo := by decide +kernel
  obtain ⟨hcL, hcK, ⟨key, hkey, ekey⟩, w, hww, hwL, hwK, hwl⟩ := id hc
  have loop : ∀ (n : Nat) (j : Nat) (r : Int32), 1024 - j < n → j ≤ 1024 → G F 5 S 0 0 (QI F (fun _ T => T = S) 0 0) 23 [(0, .ref c), (1, .int (nI i)), (2, .int (nI (i / 64))), (3, .int r), (4, .int (nI j))] [] := by
    intro n
    induction n with
    | zero => intros; omega
    | succ n ih =>
      intro j r hn hj
      refine g_iload Z dX1_lowsUpTo_23 rfl ?_
      refine g_iload_n Z dX1_lowsUpTo_25 rfl ?_
      refine g_icmp_ge Z 48 dX1_lowsUpTo_26 (by decide) (fun h26 => ?_) (fun h26 => ?_)
      · refine g_iload_n Z dX1_lowsUpTo_48 rfl ?_
        exact g_iret Z dX1_lowsUpTo_49 (by omega) (by omega) (rfl)
      · have hlt : j < i / 64 := ge_f (by omega) (by omega) h26
        refine g_iload_n Z dX1_lowsUpTo_29 rfl ?_
        refine g_aload_n Z dX1_lowsUpTo_30 rfl ?_
        refine g_getr Z 1 3 rfl (by decide) in1 lk13 dX1_lowsUpTo_31 (by assumption) (by assumption) (by assumption) ?_
        refine g_iload Z dX1_lowsUpTo_34 rfl ?_
        refine g_lald Z dX1_lowsUpTo_36 (by assumption) (by assumption) (by exact vin_of hwl (by omega) (by decide)) ?_
        refine g_csI Z (c_J13_bitCount_95d88 F.l F.D F.cy F.nw _ _) 1 gX1_lowsUpTo_J13_bitCount_95d88 rfl (by decide +kernel) (by rw [hRf, hRl]; decide) rfl rfl (Nat.le_of_ble_eq_true rfl) dX1_lowsUpTo_37 (by rw [hRc, hRs]; omega) (fun r T hp => ?_)
        obtain ⟨rfl, -⟩ := hp
        refine g_iadd Z dX1_lowsUpTo_40 ?_
        refine g_istore_n Z dX1_lowsUpTo_41 (by decide) ?_
        refine g_iinc (c := 1) Z dX1_lowsUpTo_42 rfl (by decide) (by decide) ?_
        rw [nI_1]
        refine g_goto Z 23 dX1_lowsUpTo_45 (by decide) ?_
        exact g_lv (by repeat (first | exact trivial | refine And.intro rfl ?_)) (ih (j + 1) _ (by omega) (by omega))
  refine g_iload_n Z dX1_lowsUpTo_0 rfl ?_
  refine g_bipush (v := 6) Z dX1_lowsUpTo_1 (by decide) ?_
  refine g_ishr Z dX1_lowsUpTo_3 ?_
  rw [shr6 (by omega)]
  refine g_istore_n Z dX1_lowsUpTo_4 (by decide) ?_
  refine g_aload_n Z dX1_lowsUpTo_5 rfl ?_
  refine g_getr Z 1 3 rfl (by decide) in1 lk13 dX1_lowsUpTo_6 (by assumption) (by assumption) (by assumption) ?_
  refine g_iload_n Z dX1_lowsUpTo_9 rfl ?_
  refine g_lald Z dX1_lowsUpTo_10 (by assumption) (by assumption) (by exact vin_of hwl (by omega) (by decide)) ?_
  refine g_iload_n Z dX1_lowsUpTo_11 rfl ?_
  refine g_csL Z (c_X1_upTo F.l F.D F.cy F.nw _ _) 1 gX1_lowsUpTo_X1_upTo rfl (by decide +kernel) (by rw [hRf, hRl]; decide) rfl rfl (Nat.le_of_ble_eq_true rfl) dX1_lowsUpTo_12 (by rw [hRc, hRs]; omega) (fun r T hp => ?_)
  obtain rfl := hp
  refine g_land Z dX1_lowsUpTo_15 ?_
  refine g_csI Z (c_J13_bitCount_95d88 F.l F.D F.cy F.nw _ _) 1 gX1_lowsUpTo_J13_bitCount_95d88 rfl (by decide +kernel) (by rw [hRf, hRl]; decide) rfl rfl (Nat.le_of_ble_eq_true rfl) dX1_lowsUpTo_16 (by rw [hRc, hRs]; omega) (fun r T hp => ?_)
  obtain ⟨rfl, -⟩ := hp
  refine g_istore_n Z dX1_lowsUpTo_19 (by decide) ?_
  refine g_iconst (v := 0) Z dX1_lowsUpTo_20 (by decide) ?_
  refine g_istore Z dX1_lowsUpTo_21 (by decide) ?_
  exact g_lv (by repeat (first | exact trivial | refine And.intro rfl ?_)) (loop 1025 0 _ (by omega) (by omega))

theorem lt_clamp {k : Nat} (hk : k < 2 ^ 31) {y : Int32} (h : ¬ y ≤ nI k) : k < y.toNatClampNeg := by
  have h1 : nI k < y := i_lt_of_nle h
  have h2 : (nI k).toInt < y.toInt := Int32.lt_iff_toInt_lt.mp h1
  rw [nI_toInt hk] at h2
  show k < y.toInt.toNat
  omega
theorem clamp_lt (y : Int32) : y.toNatClampNeg < 2 ^ 31 := by
  have h := Int32.toInt_lt y
  show y.toInt.toNat < 2 ^ 31
  omega
theorem shl6 {i : Nat} (h : i ≤ 1024) : nI i <<< ((6 : Int32) &&& 31) = nI (i * 2 ^ 6) := pk_shlN _ 6 (by decide) (by omega)

set_option maxRecDepth 100000 in
set_option maxHeartbeats 4000000 in
/-- the low of a rank -/
theorem c_X1_lowAt (l : Launch) (D : va_G) (cy : Nat → ClassId) (nw : Nat) (S : PS) (c : Nat) (hc : Cr S c) (x : Int32) : kI l yX1_lowAt wsX1_lowAt 2 43 D cy nw [.ref c, .int x] S (fun _ T => T = S) 0 0 := by
  refine enterI (cc := cX1_lowAt) (nL := 8) (ret := (some .int)) (by decide +kernel) rfl (Nat.le_of_ble_eq_true rfl) ?_
  intro F Z hl hR hD hcy hnw hnm
  subst hl hD hcy hnw
  have hRf : F.R.frames = 2 := by rw [hR]
  have hRc : F.R.cells = 0 := by rw [hR]
  have hRs : F.R.slots = 0 := by rw [hR]
  have hRl : F.R.locals = 43 := by rw [hR]
  have in1 : ∀ w ∈ u_ws RX1 TX1 4, w ∈ wsX1_lowAt := by decide +kernel
  have lk13 : Cond.fieldLink RX1 13 (TX1 3).1 (TX1 3).2.1 (TX1 3).2.2.1 ∈ wsX1_lowAt := by decide +kernel
  obtain ⟨hcL, hcK, ⟨key, hkey, ekey⟩, w, hww, hwL, hwK, hwl⟩ := id hc
  have loop : ∀ (n : Nat) (j : Nat) (y : Int32), 1024 - j < n → j ≤ 1024 → G F 8 S 0 0 (QI F (fun _ T => T = S) 0 0) 4 [(0, .ref c), (1, .int x), (2, .int y), (3, .int (nI j))] [] := by
    intro n
    induction n with
    | zero => intros; omega
    | succ n ih =>
      intro j y hn hj
      have inner : ∀ (n2 k : Nat) (v : Int64) (q : Int32), y.toNatClampNeg - k < n2 → k < 2 ^ 31 → G F 8 S 0 0 (QI F (fun _ T => T = S) 0 0) 35 [(0, .ref c), (1, .int x), (2, .int y), (3, .int (nI j)), (4, .long v), (6, .int q), (7, .int (nI k))] [] := by
        intro n2
        induction n2 with
        | zero => intros; omega
        | succ n2 ih2 =>
          intro k v q hn2 hk
          refine g_iload Z dX1_lowAt_35 rfl ?_
          refine g_iload_n Z dX1_lowAt_37 rfl ?_
          refine g_icmp_ge Z 56 dX1_lowAt_38 (by decide) (fun h38 => ?_) (fun h38 => ?_)
          · refine g_iload_n Z dX1_lowAt_56 rfl ?_
            refine g_bipush (v := 6) Z dX1_lowAt_57 (by decide) ?_
            refine g_ishl Z dX1_lowAt_59 ?_
            refine g_lload Z dX1_lowAt_60 rfl ?_
            refine g_csI Z (c_J13_numberOfTrailingZeros_95d88 F.l F.D F.cy F.nw _ _) 1 gX1_lowAt_J13_numberOfTrailingZeros_95d88 rfl (by decide +kernel) (by rw [hRf, hRl]; decide) rfl rfl (Nat.le_of_ble_eq_true rfl) dX1_lowAt_62 (by rw [hRc, hRs]; omega) (fun r T hp => ?_)
            obtain ⟨rfl, -⟩ := hp
            refine g_iadd Z dX1_lowAt_65 ?_
            exact g_iret Z dX1_lowAt_66 (by omega) (by omega) (rfl)
          · have hlt : k < y.toNatClampNeg := lt_clamp hk h38
            have hb := clamp_lt y
            refine g_lload Z dX1_lowAt_41 rfl ?_
            refine g_lload Z dX1_lowAt_43 rfl ?_
            refine g_lconst (v := 1) Z dX1_lowAt_45 (by decide) ?_
            refine g_lsub Z dX1_lowAt_46 ?_
            refine g_land Z dX1_lowAt_47 ?_
            refine g_lstore Z dX1_lowAt_48 (by decide) ?_
            refine g_iinc (c := 1) Z dX1_lowAt_50 rfl (by decide) (by decide) ?_
            rw [nI_1]
            refine g_goto Z 35 dX1_lowAt_53 (by decide) ?_
            exact g_lv (by repeat (first | exact trivial | refine And.intro rfl ?_)) (ih2 (k + 1) _ _ (by omega) (by omega))
      refine g_iload_n Z dX1_lowAt_4 rfl ?_
      refine g_sipush (v := 1024) Z dX1_lowAt_5 (by decide) ?_
      refine g_icmp_ge Z 78 dX1_lowAt_8 (by decide) (fun h8 => ?_) (fun h8 => ?_)
      · refine g_iconst (v := (-1)) Z dX1_lowAt_78 (by decide) ?_
        exact g_iret Z dX1_lowAt_79 (by omega) (by omega) (rfl)
      · have hlt : j < 1024 := ge_f (by omega) (by decide) h8
        refine g_aload_n Z dX1_lowAt_11 rfl ?_
        refine g_getr Z 1 3 rfl (by decide) in1 lk13 dX1_lowAt_12 (by assumption) (by assumption) (by assumption) ?_
        refine g_iload_n Z dX1_lowAt_15 rfl ?_
        refine g_lald Z dX1_lowAt_16 (by assumption) (by assumption) (by exact vin_of hwl (by omega) (by decide)) ?_
        refine g_lstore Z dX1_lowAt_17 (by decide) ?_
        refine g_lload Z dX1_lowAt_19 rfl ?_
        refine g_csI Z (c_J13_bitCount_95d88 F.l F.D F.cy F.nw _ _) 1 gX1_lowAt_J13_bitCount_95d88 rfl (by decide +kernel) (by rw [hRf, hRl]; decide) rfl rfl (Nat.le_of_ble_eq_true rfl) dX1_lowAt_21 (by rw [hRc, hRs]; omega) (fun r T hp => ?_)
        obtain ⟨rfl, -⟩ := hp
        refine g_istore Z dX1_lowAt_24 (by decide) ?_
        refine g_iload_n Z dX1_lowAt_26 rfl ?_
        refine g_iload Z dX1_lowAt_27 rfl ?_
        refine g_icmp_ge Z 67 dX1_lowAt_29 (by decide) (fun h29 => ?_) (fun h29 => ?_)
        · refine g_iload_n Z dX1_lowAt_67 rfl ?_
          refine g_iload Z dX1_lowAt_68 rfl ?_
          refine g_isub Z dX1_lowAt_70 ?_
          refine g_istore_n Z dX1_lowAt_71 (by decide) ?_
          refine g_iinc (c := 1) Z dX1_lowAt_72 rfl (by decide) (by decide) ?_
          rw [nI_1]
          refine g_goto Z 4 dX1_lowAt_75 (by decide) ?_
          exact g_lv (by repeat (first | exact trivial | refine And.intro rfl ?_)) (ih (j + 1) _ (by omega) (by omega))
        · refine g_iconst (v := 0) Z dX1_lowAt_32 (by decide) ?_
          refine g_istore Z dX1_lowAt_33 (by decide) ?_
          exact g_lv (by repeat (first | exact trivial | refine And.intro rfl ?_)) (inner (2 ^ 31) 0 _ _ (by have := clamp_lt y; omega) (by decide))
  refine g_iload_n Z dX1_lowAt_0 rfl ?_
  refine g_istore_n Z dX1_lowAt_1 (by decide) ?_
  refine g_iconst (v := 0) Z dX1_lowAt_2 (by decide) ?_
  refine g_istore_n Z dX1_lowAt_3 (by decide) ?_
  exact g_lv (by repeat (first | exact trivial | refine And.intro rfl ?_)) (loop 1025 0 _ (by omega) (by omega))

set_option maxRecDepth 100000 in
set_option maxHeartbeats 4000000 in
/-- the first bit from a low on -/
theorem c_X1_firstBit (l : Launch) (D : va_G) (cy : Nat → ClassId) (nw : Nat) (S : PS) (c : Nat) (hc : Cr S c) (i : Nat) (hi : i ≤ 65538) (fl : Int64) : kI l yX1_firstBit wsX1_firstBit 2 43 D cy nw [.ref c, .int (nI i), .long fl] S (fun r T => T = S ∧ ∃ n : Nat, n ≤ 65538 ∧ r = nI n) 0 0 := by
  refine enterI (cc := cX1_firstBit) (nL := 8) (ret := (some .int)) (by decide +kernel) rfl (Nat.le_of_ble_eq_true rfl) ?_
  intro F Z hl hR hD hcy hnw hnm
  subst hl hD hcy hnw
  have hRf : F.R.frames = 2 := by rw [hR]
  have hRc : F.R.cells = 0 := by rw [hR]
  have hRs : F.R.slots = 0 := by rw [hR]
  have hRl : F.R.locals = 43 := by rw [hR]
  have in1 : ∀ w ∈ u_ws RX1 TX1 4, w ∈ wsX1_firstBit := by decide +kernel
  have lk13 : Cond.fieldLink RX1 13 (TX1 3).1 (TX1 3).2.1 (TX1 3).2.2.1 ∈ wsX1_firstBit := by decide +kernel
  have ct50 : Cond.constantLong RX1 50 (-1) ∈ wsX1_firstBit := by decide +kernel
  have ct85 : Cond.constant RX1 85 (65536) ∈ wsX1_firstBit := by decide +kernel
  obtain ⟨hcL, hcK, ⟨key, hkey, ekey⟩, w, hww, hwL, hwK, hwl⟩ := id hc
  have loop : ∀ (n : Nat) (j : Nat), 1026 - j < n → j ≤ 1026 → G F 8 S 0 0 (QI F (fun r T => T = S ∧ ∃ n : Nat, n ≤ 65538 ∧ r = nI n) 0 0) 10 [(0, .ref c), (1, .int (nI i)), (2, .long fl), (4, .int (nI (i / 64))), (5, .int (nI j))] [] := by
    intro n
    induction n with
    | zero => intros; omega
    | succ n ih =>
      intro j hn hj
      refine g_iload Z dX1_firstBit_10 rfl ?_
      refine g_sipush (v := 1024) Z dX1_firstBit_12 (by decide) ?_
      refine g_icmp_ge Z 71 dX1_firstBit_15 (by decide) (fun h15 => ?_) (fun h15 => ?_)
      · refine g_ldc (v := 65536) Z dX1_firstBit_71 ct85 ?_
        exact g_iret Z dX1_firstBit_73 (by omega) (by omega) (⟨rfl, 65536, by omega, rfl⟩)
      · have hlt : j < 1024 := ge_f (by omega) (by decide) h15
        have j46 : ∀ v : Int64, G F 8 S 0 0 (QI F (fun r T => T = S ∧ ∃ n : Nat, n ≤ 65538 ∧ r = nI n) 0 0) 46 [(0, .ref c), (1, .int (nI i)), (2, .long fl), (4, .int (nI (i / 64))), (5, .int (nI j)), (6, .long v)] [] := by
          intro v
          refine g_lload Z dX1_firstBit_46 rfl ?_
          refine g_lconst (v := 0) Z dX1_firstBit_48 (by decide) ?_
          refine g_lcmp Z dX1_firstBit_49 ?_
          refine g_if_eq Z 65 dX1_firstBit_50 (by decide) (fun h50 => ?_) (fun h50 => ?_)
          · refine g_iinc (c := 1) Z dX1_firstBit_65 rfl (by decide) (by decide) ?_
            rw [nI_1]
            refine g_goto Z 10 dX1_firstBit_68 (by decide) ?_
            exact g_lv (by repeat (first | exact trivial | refine And.intro rfl ?_)) (ih (j + 1) (by omega) (by omega))
          · refine g_iload Z dX1_firstBit_53 rfl ?_
            refine g_bipush (v := 6) Z dX1_firstBit_55 (by decide) ?_
            refine g_ishl Z dX1_firstBit_57 ?_
            rw [shl6 (by omega)]
            refine g_lload Z dX1_firstBit_58 rfl ?_
            refine g_csI Z (c_J13_numberOfTrailingZeros_95d88 F.l F.D F.cy F.nw _ _) 1 gX1_firstBit_J13_numberOfTrailingZeros_95d88 rfl (by decide +kernel) (by rw [hRf, hRl]; decide) rfl rfl (Nat.le_of_ble_eq_true rfl) dX1_firstBit_60 (by rw [hRc, hRs]; omega) (fun r T hp => ?_)
            obtain ⟨rfl, n2, hn2, rfl⟩ := hp
            refine g_iadd Z dX1_firstBit_63 ?_
            rw [nI_add]
            exact g_iret Z dX1_firstBit_64 (by omega) (by omega) (⟨rfl, _, by omega, rfl⟩)
        refine g_aload_n Z dX1_firstBit_18 rfl ?_
        refine g_getr Z 1 3 rfl (by decide) in1 lk13 dX1_firstBit_19 (by assumption) (by assumption) (by assumption) ?_
        refine g_iload Z dX1_firstBit_22 rfl ?_
        refine g_lald Z dX1_firstBit_24 (by assumption) (by assumption) (by exact vin_of hwl (by omega) (by decide)) ?_
        refine g_lload_n Z dX1_firstBit_25 rfl ?_
        refine g_lxor Z dX1_firstBit_26 ?_
        refine g_lstore Z dX1_firstBit_27 (by decide) ?_
        refine g_iload Z dX1_firstBit_29 rfl ?_
        refine g_iload Z dX1_firstBit_31 rfl ?_
        refine g_icmp_ne Z 46 dX1_firstBit_33 (by decide) (fun h33 => ?_) (fun h33 => ?_)
        · exact g_lv (by repeat (first | exact trivial | refine And.intro rfl ?_)) (j46 _)
        · refine g_lload Z dX1_firstBit_36 rfl ?_
          refine g_ldc2 (v := -1) Z dX1_firstBit_38 ct50 ?_
          refine g_iload_n Z dX1_firstBit_41 rfl ?_
          refine g_lshl Z dX1_firstBit_42 ?_
          refine g_land Z dX1_firstBit_43 ?_
          refine g_lstore Z dX1_firstBit_44 (by decide) ?_
          exact g_lv (by repeat (first | exact trivial | refine And.intro rfl ?_)) (j46 _)
  refine g_iload_n Z dX1_firstBit_0 rfl ?_
  refine g_bipush (v := 6) Z dX1_firstBit_1 (by decide) ?_
  refine g_ishr Z dX1_firstBit_3 ?_
  rw [shr6 (by omega)]
  refine g_istore Z dX1_firstBit_4 (by decide) ?_
  refine g_iload Z dX1_firstBit_6 rfl ?_
  refine g_istore Z dX1_firstBit_8 (by decide) ?_
  exact g_lv (by repeat (first | exact trivial | refine And.intro rfl ?_)) (loop 1027 (i / 64) (by omega) (by omega))

set_option maxRecDepth 100000 in
set_option maxHeartbeats 4000000 in
/-- the first low there, or not there, from one on -/
theorem c_X1_firstIn (l : Launch) (D : va_G) (cy : Nat → ClassId) (nw : Nat) (S : PS) (c : Nat) (hc : Cr S c) (i : Nat) (hi : i ≤ 65538) : kI l yX1_firstIn wsX1_firstIn 3 70 D cy nw [.ref c, .int (nI i)] S (fun r T => T = S ∧ ∃ n : Nat, n ≤ 65538 ∧ r = nI n) 0 0 := by
  refine enterI (cc := cX1_firstIn) (nL := 2) (ret := (some .int)) (by decide +kernel) rfl (Nat.le_of_ble_eq_true rfl) ?_
  intro F Z hl hR hD hcy hnw hnm
  subst hl hD hcy hnw
  have hRf : F.R.frames = 3 := by rw [hR]
  have hRc : F.R.cells = 0 := by rw [hR]
  have hRs : F.R.slots = 0 := by rw [hR]
  have hRl : F.R.locals = 70 := by rw [hR]
  obtain ⟨hcL, hcK, ⟨key, hkey, ekey⟩, w, hww, hwL, hwK, hwl⟩ := id hc
  refine g_aload_n Z dX1_firstIn_0 rfl ?_
  refine g_iload_n Z dX1_firstIn_1 rfl ?_
  refine g_lconst (v := 0) Z dX1_firstIn_2 (by decide) ?_
  refine g_cvI Z (c_X1_firstBit F.l F.D F.cy F.nw _ c hc i hi _) 2 gX1_firstIn_X1_firstBit rfl (by decide +kernel) (by rw [hRf, hRl]; decide) (by assumption) (κ := 1) (by assumption) rfl (by decide) rfl rfl (Nat.le_of_ble_eq_true rfl) dX1_firstIn_3 (by rw [hRc, hRs]; omega) (fun r T hp => ?_)
  exact g_iret Z dX1_firstIn_6 (by omega) (by omega) (hp)

set_option maxRecDepth 100000 in
set_option maxHeartbeats 4000000 in
/-- the first low there, or not there, from one on -/
theorem c_X1_firstOut (l : Launch) (D : va_G) (cy : Nat → ClassId) (nw : Nat) (S : PS) (c : Nat) (hc : Cr S c) (i : Nat) (hi : i ≤ 65538) : kI l yX1_firstOut wsX1_firstOut 3 70 D cy nw [.ref c, .int (nI i)] S (fun r T => T = S ∧ ∃ n : Nat, n ≤ 65538 ∧ r = nI n) 0 0 := by
  refine enterI (cc := cX1_firstOut) (nL := 2) (ret := (some .int)) (by decide +kernel) rfl (Nat.le_of_ble_eq_true rfl) ?_
  intro F Z hl hR hD hcy hnw hnm
  subst hl hD hcy hnw
  have hRf : F.R.frames = 3 := by rw [hR]
  have hRc : F.R.cells = 0 := by rw [hR]
  have hRs : F.R.slots = 0 := by rw [hR]
  have hRl : F.R.locals = 70 := by rw [hR]
  have ct50 : Cond.constantLong RX1 50 (-1) ∈ wsX1_firstOut := by decide +kernel
  obtain ⟨hcL, hcK, ⟨key, hkey, ekey⟩, w, hww, hwL, hwK, hwl⟩ := id hc
  refine g_aload_n Z dX1_firstOut_0 rfl ?_
  refine g_iload_n Z dX1_firstOut_1 rfl ?_
  refine g_ldc2 (v := -1) Z dX1_firstOut_2 ct50 ?_
  refine g_cvI Z (c_X1_firstBit F.l F.D F.cy F.nw _ c hc i hi _) 2 gX1_firstOut_X1_firstBit rfl (by decide +kernel) (by rw [hRf, hRl]; decide) (by assumption) (κ := 1) (by assumption) rfl (by decide) rfl rfl (Nat.le_of_ble_eq_true rfl) dX1_firstOut_5 (by rw [hRc, hRs]; omega) (fun r T hp => ?_)
  exact g_iret Z dX1_firstOut_8 (by omega) (by omega) (hp)

set_option maxRecDepth 100000 in
set_option maxHeartbeats 4000000 in
/-- a container's part of the digest -/
theorem c_X1_digestFrom (l : Launch) (D : va_G) (cy : Nat → ClassId) (nw : Nat) (S : PS) (c : Nat) (hc : Cr S c) (x : Int64) : kL l yX1_digestFrom wsX1_digestFrom 2 47 D cy nw [.ref c, .long x] S (fun _ T => T = S) 0 0 := by
  refine enterL (cc := cX1_digestFrom) (nL := 6) (ret := (some .long)) (by decide +kernel) rfl (Nat.le_of_ble_eq_true rfl) ?_
  intro F Z hl hR hD hcy hnw hnm
  subst hl hD hcy hnw
  have hRf : F.R.frames = 2 := by rw [hR]
  have hRc : F.R.cells = 0 := by rw [hR]
  have hRs : F.R.slots = 0 := by rw [hR]
  have hRl : F.R.locals = 47 := by rw [hR]
  have in1 : ∀ w ∈ u_ws RX1 TX1 4, w ∈ wsX1_digestFrom := by decide +kernel
  have lk13 : Cond.fieldLink RX1 13 (TX1 3).1 (TX1 3).2.1 (TX1 3).2.2.1 ∈ wsX1_digestFrom := by decide +kernel
  have lk27 : Cond.fieldLink RX1 27 (TX1 0).1 (TX1 0).2.1 (TX1 0).2.2.1 ∈ wsX1_digestFrom := by decide +kernel
  have lk31 : Cond.fieldLink RX1 31 (TX1 1).1 (TX1 1).2.1 (TX1 1).2.2.1 ∈ wsX1_digestFrom := by decide +kernel
  have lk34 : Cond.fieldLink RX1 34 (TX1 2).1 (TX1 2).2.1 (TX1 2).2.2.1 ∈ wsX1_digestFrom := by decide +kernel
  have ct86 : Cond.constantLong RX1 86 (31) ∈ wsX1_digestFrom := by decide +kernel
  obtain ⟨hcL, hcK, ⟨key, hkey, ekey⟩, w, hww, hwL, hwK, hwl⟩ := id hc
  have loop : ∀ (n : Nat) (j : Nat) (h : Int64), 1024 - j < n → j ≤ 1024 → G F 6 S 0 0 (QL F (fun _ T => T = S) 0 0) 51 [(0, .ref c), (1, .long x), (3, .long h), (5, .int (nI j))] [] := by
    intro n
    induction n with
    | zero => intros; omega
    | succ n ih =>
      intro j h hn hj
      refine g_iload Z dX1_digestFrom_51 rfl ?_
      refine g_sipush (v := 1024) Z dX1_digestFrom_53 (by decide) ?_
      refine g_icmp_ge Z 79 dX1_digestFrom_56 (by decide) (fun h56 => ?_) (fun h56 => ?_)
      · refine g_lload_n Z dX1_digestFrom_79 rfl ?_
        exact g_lret Z dX1_digestFrom_80 (by omega) (by omega) (rfl)
      · have hlt : j < 1024 := ge_f (by omega) (by decide) h56
        refine g_ldc2 (v := 31) Z dX1_digestFrom_59 ct86 ?_
        refine g_lload_n Z dX1_digestFrom_62 rfl ?_
        refine g_lmul Z dX1_digestFrom_63 ?_
        refine g_aload_n Z dX1_digestFrom_64 rfl ?_
        refine g_getr Z 1 3 rfl (by decide) in1 lk13 dX1_digestFrom_65 (by assumption) (by assumption) (by assumption) ?_
        refine g_iload Z dX1_digestFrom_68 rfl ?_
        refine g_lald Z dX1_digestFrom_70 (by assumption) (by assumption) (by exact vin_of hwl (by omega) (by decide)) ?_
        refine g_ladd Z dX1_digestFrom_71 ?_
        refine g_lstore_n Z dX1_digestFrom_72 (by decide) ?_
        refine g_iinc (c := 1) Z dX1_digestFrom_73 rfl (by decide) (by decide) ?_
        rw [nI_1]
        refine g_goto Z 51 dX1_digestFrom_76 (by decide) ?_
        exact g_lv (by repeat (first | exact trivial | refine And.intro rfl ?_)) (ih (j + 1) _ (by omega) (by omega))
  refine g_ldc2 (v := 31) Z dX1_digestFrom_0 ct86 ?_
  refine g_lload_n Z dX1_digestFrom_3 rfl ?_
  refine g_lmul Z dX1_digestFrom_4 ?_
  refine g_aload_n Z dX1_digestFrom_5 rfl ?_
  refine g_geti Z 1 0 rfl (by decide) in1 lk27 dX1_digestFrom_6 (by assumption) (by assumption) ?_
  refine g_i2l Z dX1_digestFrom_9 ?_
  refine g_ladd Z dX1_digestFrom_10 ?_
  refine g_lstore_n Z dX1_digestFrom_11 (by decide) ?_
  refine g_ldc2 (v := 31) Z dX1_digestFrom_12 ct86 ?_
  refine g_lload_n Z dX1_digestFrom_15 rfl ?_
  refine g_lmul Z dX1_digestFrom_16 ?_
  refine g_aload_n Z dX1_digestFrom_17 rfl ?_
  refine g_geti Z 1 1 rfl (by decide) in1 lk31 dX1_digestFrom_18 (by assumption) (by assumption) ?_
  refine g_i2l Z dX1_digestFrom_21 ?_
  refine g_ladd Z dX1_digestFrom_22 ?_
  refine g_lstore_n Z dX1_digestFrom_23 (by decide) ?_
  refine g_ldc2 (v := 31) Z dX1_digestFrom_24 ct86 ?_
  refine g_lload_n Z dX1_digestFrom_27 rfl ?_
  refine g_lmul Z dX1_digestFrom_28 ?_
  refine g_aload_n Z dX1_digestFrom_29 rfl ?_
  refine g_geti Z 1 2 rfl (by decide) in1 lk34 dX1_digestFrom_30 (by assumption) (by assumption) ?_
  refine g_i2l Z dX1_digestFrom_33 ?_
  refine g_ladd Z dX1_digestFrom_34 ?_
  refine g_lstore_n Z dX1_digestFrom_35 (by decide) ?_
  refine g_ldc2 (v := 31) Z dX1_digestFrom_36 ct86 ?_
  refine g_lload_n Z dX1_digestFrom_39 rfl ?_
  refine g_lmul Z dX1_digestFrom_40 ?_
  refine g_aload_n Z dX1_digestFrom_41 rfl ?_
  refine g_cvI Z (c_X1_totalRuns F.l F.D F.cy F.nw _ c hc) 0 gX1_digestFrom_X1_totalRuns rfl (by decide +kernel) (by rw [hRf, hRl]; decide) (by assumption) (κ := 1) (by assumption) rfl (by decide) rfl rfl (Nat.le_of_ble_eq_true rfl) dX1_digestFrom_42 (by rw [hRc, hRs]; omega) (fun r T hp => ?_)
  obtain ⟨rfl, -⟩ := hp
  refine g_i2l Z dX1_digestFrom_45 ?_
  refine g_ladd Z dX1_digestFrom_46 ?_
  refine g_lstore_n Z dX1_digestFrom_47 (by decide) ?_
  refine g_iconst (v := 0) Z dX1_digestFrom_48 (by decide) ?_
  refine g_istore Z dX1_digestFrom_49 (by decide) ?_
  exact g_lv (by repeat (first | exact trivial | refine And.intro rfl ?_)) (loop 1025 0 _ (by omega) (by omega))

set_option maxRecDepth 100000 in
set_option maxHeartbeats 4000000 in
/-- a new container has no words of its own -/
theorem c_X1_init (l : Launch) (D : va_G) (cy : Nat → ClassId) (nw : Nat) (S : PS) (c : Nat) (hcL : c ∈ S.L) (hcK : S.K c = 1) : kV l yX1_init wsX1_init 1 20 D cy nw [.ref c] S (fun T => T = S.setR c 3 (some nw)) 0 0 := by
  refine enterV (cc := cX1_init) (nL := 1) (ret := none) (by decide +kernel) rfl (Nat.le_of_ble_eq_true rfl) ?_
  intro F Z hl hR hD hcy hnw hnm
  subst hl hD hcy hnw
  have hRf : F.R.frames = 1 := by rw [hR]
  have hRc : F.R.cells = 0 := by rw [hR]
  have hRs : F.R.slots = 0 := by rw [hR]
  have hRl : F.R.locals = 20 := by rw [hR]
  have in1 : ∀ w ∈ u_ws RX1 TX1 4, w ∈ wsX1_init := by decide +kernel
  have lk13 : Cond.fieldLink RX1 13 (TX1 3).1 (TX1 3).2.1 (TX1 3).2.2.1 ∈ wsX1_init := by decide +kernel
  refine g_aload_n Z dX1_init_0 rfl ?_
  refine g_objinit Z (by decide +kernel) (by decide +kernel) (by decide +kernel) dX1_init_1 (by rw [hRf]; decide) (by rw [hRl]; decide) (by decide) ?_
  refine g_aload_n Z dX1_init_4 rfl ?_
  refine g_getsNw Z dX1_init_5 ?_
  refine g_putr Z 1 3 rfl (by decide) tyX1 tyX1_ok nmX1 rfl in1 lk13 dX1_init_8 rfl rfl (by assumption) (by assumption) ?_
  exact g_vret Z dX1_init_11 (by omega) (by omega) (rfl)
end
