section
-- ===== PART A: goes FIRST, ahead of the names: the tables' words, and 'selects' of the private methods out of them =====
/-- a private method of a class that the tables say can be made, by its rows of tables_1 -/
def lw_okq (q : MethodName × Nat) : Prop := (q.1.cls ≠ "java/lang/invoke/MethodHandle" ∧ q.1.cls ≠ "java/lang/invoke/VarHandle") ∧ Cond.instantiable q.1.cls q.2 ∈ tables_1 ∧ Cond.privateMethod q.1 ∈ tables_1 ∧ Cond.instanceMethod q.1 ∈ tables_1
theorem lw_p0 : lw_okq (⟨"GalleryWatch", "outdate", "()V"⟩, 7) := ⟨⟨by decide +kernel, by decide +kernel⟩, List.mem_of_getElem? (i := 15) (by decide +kernel), List.mem_of_getElem? (i := 219) (by decide +kernel), List.mem_of_getElem? (i := 220) (by decide +kernel)⟩
theorem lw_p1 : lw_okq (⟨"GalleryWatch$Room", "isAtWall", "(I)Z"⟩, 5) := ⟨⟨by decide +kernel, by decide +kernel⟩, List.mem_of_getElem? (i := 23) (by decide +kernel), List.mem_of_getElem? (i := 297) (by decide +kernel), List.mem_of_getElem? (i := 298) (by decide +kernel)⟩
theorem lw_p2 : lw_okq (⟨"GalleryWatch", "beginChange", "()V"⟩, 7) := ⟨⟨by decide +kernel, by decide +kernel⟩, List.mem_of_getElem? (i := 15) (by decide +kernel), List.mem_of_getElem? (i := 306) (by decide +kernel), List.mem_of_getElem? (i := 307) (by decide +kernel)⟩
theorem lw_p3 : lw_okq (⟨"GalleryWatch$Past", "nextSlot", "()LGalleryWatch$Room;"⟩, 3) := ⟨⟨by decide +kernel, by decide +kernel⟩, List.mem_of_getElem? (i := 68) (by decide +kernel), List.mem_of_getElem? (i := 314) (by decide +kernel), List.mem_of_getElem? (i := 315) (by decide +kernel)⟩
theorem lw_p4 : lw_okq (⟨"GalleryWatch$View", "lookedUp", "(I)I"⟩, 3) := ⟨⟨by decide +kernel, by decide +kernel⟩, List.mem_of_getElem? (i := 49) (by decide +kernel), List.mem_of_getElem? (i := 466) (by decide +kernel), List.mem_of_getElem? (i := 467) (by decide +kernel)⟩
theorem lw_p5 : lw_okq (⟨"GalleryWatch$View", "isSeenFrom", "(LGalleryWatch$Post;I)Z"⟩, 3) := ⟨⟨by decide +kernel, by decide +kernel⟩, List.mem_of_getElem? (i := 49) (by decide +kernel), List.mem_of_getElem? (i := 471) (by decide +kernel), List.mem_of_getElem? (i := 472) (by decide +kernel)⟩
theorem lw_p6 : lw_okq (⟨"GalleryWatch$Post", "isBetween", "(II)Z"⟩, 6) := ⟨⟨by decide +kernel, by decide +kernel⟩, List.mem_of_getElem? (i := 357) (by decide +kernel), List.mem_of_getElem? (i := 484) (by decide +kernel), List.mem_of_getElem? (i := 485) (by decide +kernel)⟩
theorem lw_p7 : lw_okq (⟨"GalleryWatch$Choice", "gatherOpen", "()V"⟩, 11) := ⟨⟨by decide +kernel, by decide +kernel⟩, List.mem_of_getElem? (i := 87) (by decide +kernel), List.mem_of_getElem? (i := 548) (by decide +kernel), List.mem_of_getElem? (i := 549) (by decide +kernel)⟩
theorem lw_p8 : lw_okq (⟨"GalleryWatch$Choice", "gatherSeen", "()V"⟩, 11) := ⟨⟨by decide +kernel, by decide +kernel⟩, List.mem_of_getElem? (i := 87) (by decide +kernel), List.mem_of_getElem? (i := 559) (by decide +kernel), List.mem_of_getElem? (i := 560) (by decide +kernel)⟩
theorem lw_p9 : lw_okq (⟨"GalleryWatch$Choice", "extend", "(IIIJJ)V"⟩, 11) := ⟨⟨by decide +kernel, by decide +kernel⟩, List.mem_of_getElem? (i := 87) (by decide +kernel), List.mem_of_getElem? (i := 565) (by decide +kernel), List.mem_of_getElem? (i := 566) (by decide +kernel)⟩
theorem lw_p10 : lw_okq (⟨"GalleryWatch$Choice", "isAll", "(JJ)Z"⟩, 11) := ⟨⟨by decide +kernel, by decide +kernel⟩, List.mem_of_getElem? (i := 87) (by decide +kernel), List.mem_of_getElem? (i := 569) (by decide +kernel), List.mem_of_getElem? (i := 570) (by decide +kernel)⟩
theorem lw_p11 : lw_okq (⟨"GalleryWatch$Shade", "spread", "(I)V"⟩, 3) := ⟨⟨by decide +kernel, by decide +kernel⟩, List.mem_of_getElem? (i := 131) (by decide +kernel), List.mem_of_getElem? (i := 597) (by decide +kernel), List.mem_of_getElem? (i := 598) (by decide +kernel)⟩
theorem lw_p12 : lw_okq (⟨"GalleryWatch$Shade", "enter", "(III)I"⟩, 3) := ⟨⟨by decide +kernel, by decide +kernel⟩, List.mem_of_getElem? (i := 131) (by decide +kernel), List.mem_of_getElem? (i := 601) (by decide +kernel), List.mem_of_getElem? (i := 602) (by decide +kernel)⟩
theorem lw_p13 : lw_okq (⟨"GalleryWatch$Shade", "stepsOf", "(I)I"⟩, 3) := ⟨⟨by decide +kernel, by decide +kernel⟩, List.mem_of_getElem? (i := 131) (by decide +kernel), List.mem_of_getElem? (i := 609) (by decide +kernel), List.mem_of_getElem? (i := 610) (by decide +kernel)⟩
theorem lw_p14 : lw_okq (⟨"GalleryWatch$Shade", "leastNearer", "(I)I"⟩, 3) := ⟨⟨by decide +kernel, by decide +kernel⟩, List.mem_of_getElem? (i := 131) (by decide +kernel), List.mem_of_getElem? (i := 624) (by decide +kernel), List.mem_of_getElem? (i := 625) (by decide +kernel)⟩
theorem lw_p15 : lw_okq (⟨"GalleryWatch$Proof", "rowsNeeded", "(II)I"⟩, 8) := ⟨⟨by decide +kernel, by decide +kernel⟩, List.mem_of_getElem? (i := 147) (by decide +kernel), List.mem_of_getElem? (i := 644) (by decide +kernel), List.mem_of_getElem? (i := 645) (by decide +kernel)⟩
def lw_privs_1 : List (MethodName × Nat) := [(⟨"GalleryWatch", "outdate", "()V"⟩, 7), (⟨"GalleryWatch$Room", "isAtWall", "(I)Z"⟩, 5), (⟨"GalleryWatch", "beginChange", "()V"⟩, 7), (⟨"GalleryWatch$Past", "nextSlot", "()LGalleryWatch$Room;"⟩, 3), (⟨"GalleryWatch$View", "lookedUp", "(I)I"⟩, 3), (⟨"GalleryWatch$View", "isSeenFrom", "(LGalleryWatch$Post;I)Z"⟩, 3), (⟨"GalleryWatch$Post", "isBetween", "(II)Z"⟩, 6), (⟨"GalleryWatch$Choice", "gatherOpen", "()V"⟩, 11), (⟨"GalleryWatch$Choice", "gatherSeen", "()V"⟩, 11), (⟨"GalleryWatch$Choice", "extend", "(IIIJJ)V"⟩, 11), (⟨"GalleryWatch$Choice", "isAll", "(JJ)Z"⟩, 11), (⟨"GalleryWatch$Shade", "spread", "(I)V"⟩, 3), (⟨"GalleryWatch$Shade", "enter", "(III)I"⟩, 3), (⟨"GalleryWatch$Shade", "stepsOf", "(I)I"⟩, 3), (⟨"GalleryWatch$Shade", "leastNearer", "(I)I"⟩, 3), (⟨"GalleryWatch$Proof", "rowsNeeded", "(II)I"⟩, 8)]
theorem lw_r1 : ∀ q ∈ lw_privs_1, lw_okq q := List.forall_mem_cons.mpr ⟨lw_p0, List.forall_mem_cons.mpr ⟨lw_p1, List.forall_mem_cons.mpr ⟨lw_p2, List.forall_mem_cons.mpr ⟨lw_p3, List.forall_mem_cons.mpr ⟨lw_p4, List.forall_mem_cons.mpr ⟨lw_p5, List.forall_mem_cons.mpr ⟨lw_p6, List.forall_mem_cons.mpr ⟨lw_p7, List.forall_mem_cons.mpr ⟨lw_p8, List.forall_mem_cons.mpr ⟨lw_p9, List.forall_mem_cons.mpr ⟨lw_p10, List.forall_mem_cons.mpr ⟨lw_p11, List.forall_mem_cons.mpr ⟨lw_p12, List.forall_mem_cons.mpr ⟨lw_p13, List.forall_mem_cons.mpr ⟨lw_p14, List.forall_mem_cons.mpr ⟨lw_p15, fun _ h => absurd h List.not_mem_nil⟩⟩⟩⟩⟩⟩⟩⟩⟩⟩⟩⟩⟩⟩⟩⟩
theorem lw_p16 : lw_okq (⟨"GalleryWatch$Proof", "grow", "(IIII)V"⟩, 8) := ⟨⟨by decide +kernel, by decide +kernel⟩, List.mem_of_getElem? (i := 147) (by decide +kernel), List.mem_of_getElem? (i := 652) (by decide +kernel), List.mem_of_getElem? (i := 653) (by decide +kernel)⟩
theorem lw_p17 : lw_okq (⟨"GalleryWatch$Proof", "isRight", "(I)Z"⟩, 8) := ⟨⟨by decide +kernel, by decide +kernel⟩, List.mem_of_getElem? (i := 147) (by decide +kernel), List.mem_of_getElem? (i := 708) (by decide +kernel), List.mem_of_getElem? (i := 709) (by decide +kernel)⟩
theorem lw_p18 : lw_okq (⟨"GalleryWatchModel", "cells", "()I"⟩, 25) := ⟨⟨by decide +kernel, by decide +kernel⟩, List.mem_of_getElem? (i := 727) (by decide +kernel), List.mem_of_getElem? (i := 823) (by decide +kernel), List.mem_of_getElem? (i := 824) (by decide +kernel)⟩
theorem lw_p19 : lw_okq (⟨"GalleryWatchModel", "isCell", "(I)Z"⟩, 25) := ⟨⟨by decide +kernel, by decide +kernel⟩, List.mem_of_getElem? (i := 727) (by decide +kernel), List.mem_of_getElem? (i := 831) (by decide +kernel), List.mem_of_getElem? (i := 832) (by decide +kernel)⟩
theorem lw_p20 : lw_okq (⟨"GalleryWatchModel", "keep0", "()V"⟩, 25) := ⟨⟨by decide +kernel, by decide +kernel⟩, List.mem_of_getElem? (i := 727) (by decide +kernel), List.mem_of_getElem? (i := 835) (by decide +kernel), List.mem_of_getElem? (i := 836) (by decide +kernel)⟩
theorem lw_p21 : lw_okq (⟨"GalleryWatchModel", "isBetween", "(III)Z"⟩, 25) := ⟨⟨by decide +kernel, by decide +kernel⟩, List.mem_of_getElem? (i := 727) (by decide +kernel), List.mem_of_getElem? (i := 839) (by decide +kernel), List.mem_of_getElem? (i := 840) (by decide +kernel)⟩
theorem lw_p22 : lw_okq (⟨"GalleryWatchModel", "allStand", "()Z"⟩, 25) := ⟨⟨by decide +kernel, by decide +kernel⟩, List.mem_of_getElem? (i := 727) (by decide +kernel), List.mem_of_getElem? (i := 843) (by decide +kernel), List.mem_of_getElem? (i := 844) (by decide +kernel)⟩
theorem lw_p23 : lw_okq (⟨"GalleryWatchModel", "posts", "()I"⟩, 25) := ⟨⟨by decide +kernel, by decide +kernel⟩, List.mem_of_getElem? (i := 727) (by decide +kernel), List.mem_of_getElem? (i := 847) (by decide +kernel), List.mem_of_getElem? (i := 848) (by decide +kernel)⟩
theorem lw_p24 : lw_okq (⟨"GalleryWatchModel", "mayStand", "(II)Z"⟩, 25) := ⟨⟨by decide +kernel, by decide +kernel⟩, List.mem_of_getElem? (i := 727) (by decide +kernel), List.mem_of_getElem? (i := 851) (by decide +kernel), List.mem_of_getElem? (i := 852) (by decide +kernel)⟩
theorem lw_p25 : lw_okq (⟨"GalleryWatchModel", "isOpen", "(I)Z"⟩, 25) := ⟨⟨by decide +kernel, by decide +kernel⟩, List.mem_of_getElem? (i := 727) (by decide +kernel), List.mem_of_getElem? (i := 855) (by decide +kernel), List.mem_of_getElem? (i := 856) (by decide +kernel)⟩
theorem lw_p26 : lw_okq (⟨"GalleryWatchModel", "hasWall", "(I)Z"⟩, 25) := ⟨⟨by decide +kernel, by decide +kernel⟩, List.mem_of_getElem? (i := 727) (by decide +kernel), List.mem_of_getElem? (i := 862) (by decide +kernel), List.mem_of_getElem? (i := 863) (by decide +kernel)⟩
theorem lw_p27 : lw_okq (⟨"GalleryWatchModel", "swapBack", "()V"⟩, 25) := ⟨⟨by decide +kernel, by decide +kernel⟩, List.mem_of_getElem? (i := 727) (by decide +kernel), List.mem_of_getElem? (i := 866) (by decide +kernel), List.mem_of_getElem? (i := 867) (by decide +kernel)⟩
theorem lw_p28 : lw_okq (⟨"GalleryWatchModel", "keep", "()V"⟩, 25) := ⟨⟨by decide +kernel, by decide +kernel⟩, List.mem_of_getElem? (i := 727) (by decide +kernel), List.mem_of_getElem? (i := 870) (by decide +kernel), List.mem_of_getElem? (i := 871) (by decide +kernel)⟩
theorem lw_p29 : lw_okq (⟨"GalleryWatchModel", "inSight", "(II)Z"⟩, 25) := ⟨⟨by decide +kernel, by decide +kernel⟩, List.mem_of_getElem? (i := 727) (by decide +kernel), List.mem_of_getElem? (i := 882) (by decide +kernel), List.mem_of_getElem? (i := 883) (by decide +kernel)⟩
theorem lw_p30 : lw_okq (⟨"GalleryWatchModel", "cuts", "(III)Z"⟩, 25) := ⟨⟨by decide +kernel, by decide +kernel⟩, List.mem_of_getElem? (i := 727) (by decide +kernel), List.mem_of_getElem? (i := 886) (by decide +kernel), List.mem_of_getElem? (i := 887) (by decide +kernel)⟩
theorem lw_p31 : lw_okq (⟨"GalleryWatchModel", "isPost", "(I)Z"⟩, 25) := ⟨⟨by decide +kernel, by decide +kernel⟩, List.mem_of_getElem? (i := 727) (by decide +kernel), List.mem_of_getElem? (i := 902) (by decide +kernel), List.mem_of_getElem? (i := 903) (by decide +kernel)⟩
def lw_privs_2 : List (MethodName × Nat) := [(⟨"GalleryWatch$Proof", "grow", "(IIII)V"⟩, 8), (⟨"GalleryWatch$Proof", "isRight", "(I)Z"⟩, 8), (⟨"GalleryWatchModel", "cells", "()I"⟩, 25), (⟨"GalleryWatchModel", "isCell", "(I)Z"⟩, 25), (⟨"GalleryWatchModel", "keep0", "()V"⟩, 25), (⟨"GalleryWatchModel", "isBetween", "(III)Z"⟩, 25), (⟨"GalleryWatchModel", "allStand", "()Z"⟩, 25), (⟨"GalleryWatchModel", "posts", "()I"⟩, 25), (⟨"GalleryWatchModel", "mayStand", "(II)Z"⟩, 25), (⟨"GalleryWatchModel", "isOpen", "(I)Z"⟩, 25), (⟨"GalleryWatchModel", "hasWall", "(I)Z"⟩, 25), (⟨"GalleryWatchModel", "swapBack", "()V"⟩, 25), (⟨"GalleryWatchModel", "keep", "()V"⟩, 25), (⟨"GalleryWatchModel", "inSight", "(II)Z"⟩, 25), (⟨"GalleryWatchModel", "cuts", "(III)Z"⟩, 25), (⟨"GalleryWatchModel", "isPost", "(I)Z"⟩, 25)]
theorem lw_r2 : ∀ q ∈ lw_privs_2, lw_okq q := List.forall_mem_cons.mpr ⟨lw_p16, List.forall_mem_cons.mpr ⟨lw_p17, List.forall_mem_cons.mpr ⟨lw_p18, List.forall_mem_cons.mpr ⟨lw_p19, List.forall_mem_cons.mpr ⟨lw_p20, List.forall_mem_cons.mpr ⟨lw_p21, List.forall_mem_cons.mpr ⟨lw_p22, List.forall_mem_cons.mpr ⟨lw_p23, List.forall_mem_cons.mpr ⟨lw_p24, List.forall_mem_cons.mpr ⟨lw_p25, List.forall_mem_cons.mpr ⟨lw_p26, List.forall_mem_cons.mpr ⟨lw_p27, List.forall_mem_cons.mpr ⟨lw_p28, List.forall_mem_cons.mpr ⟨lw_p29, List.forall_mem_cons.mpr ⟨lw_p30, List.forall_mem_cons.mpr ⟨lw_p31, fun _ h => absurd h List.not_mem_nil⟩⟩⟩⟩⟩⟩⟩⟩⟩⟩⟩⟩⟩⟩⟩⟩
theorem lw_p32 : lw_okq (⟨"GalleryWatchModel", "look", "()V"⟩, 25) := ⟨⟨by decide +kernel, by decide +kernel⟩, List.mem_of_getElem? (i := 727) (by decide +kernel), List.mem_of_getElem? (i := 944) (by decide +kernel), List.mem_of_getElem? (i := 945) (by decide +kernel)⟩
theorem lw_p33 : lw_okq (⟨"GalleryWatchModel", "letsSee", "(II)Z"⟩, 25) := ⟨⟨by decide +kernel, by decide +kernel⟩, List.mem_of_getElem? (i := 727) (by decide +kernel), List.mem_of_getElem? (i := 948) (by decide +kernel), List.mem_of_getElem? (i := 949) (by decide +kernel)⟩
theorem lw_p34 : lw_okq (⟨"GalleryWatchModel", "looks", "(III)Z"⟩, 25) := ⟨⟨by decide +kernel, by decide +kernel⟩, List.mem_of_getElem? (i := 727) (by decide +kernel), List.mem_of_getElem? (i := 952) (by decide +kernel), List.mem_of_getElem? (i := 953) (by decide +kernel)⟩
theorem lw_p35 : lw_okq (⟨"GalleryWatchModel", "isSet", "(I)Z"⟩, 25) := ⟨⟨by decide +kernel, by decide +kernel⟩, List.mem_of_getElem? (i := 727) (by decide +kernel), List.mem_of_getElem? (i := 964) (by decide +kernel), List.mem_of_getElem? (i := 965) (by decide +kernel)⟩
theorem lw_p36 : lw_okq (⟨"GalleryWatchModel", "unseenBy", "(I)I"⟩, 25) := ⟨⟨by decide +kernel, by decide +kernel⟩, List.mem_of_getElem? (i := 727) (by decide +kernel), List.mem_of_getElem? (i := 976) (by decide +kernel), List.mem_of_getElem? (i := 977) (by decide +kernel)⟩
theorem lw_p37 : lw_okq (⟨"GalleryWatchModel", "seek", "()V"⟩, 25) := ⟨⟨by decide +kernel, by decide +kernel⟩, List.mem_of_getElem? (i := 727) (by decide +kernel), List.mem_of_getElem? (i := 989) (by decide +kernel), List.mem_of_getElem? (i := 990) (by decide +kernel)⟩
theorem lw_p38 : lw_okq (⟨"GalleryWatchModel", "walk", "(I)V"⟩, 25) := ⟨⟨by decide +kernel, by decide +kernel⟩, List.mem_of_getElem? (i := 727) (by decide +kernel), List.mem_of_getElem? (i := 1015) (by decide +kernel), List.mem_of_getElem? (i := 1016) (by decide +kernel)⟩
theorem lw_p39 : lw_okq (⟨"GalleryWatchModel", "isUnseen", "(I)Z"⟩, 25) := ⟨⟨by decide +kernel, by decide +kernel⟩, List.mem_of_getElem? (i := 727) (by decide +kernel), List.mem_of_getElem? (i := 1019) (by decide +kernel), List.mem_of_getElem? (i := 1020) (by decide +kernel)⟩
theorem lw_p40 : lw_okq (⟨"GalleryWatchModel", "areNeighbours", "(II)Z"⟩, 25) := ⟨⟨by decide +kernel, by decide +kernel⟩, List.mem_of_getElem? (i := 727) (by decide +kernel), List.mem_of_getElem? (i := 1023) (by decide +kernel), List.mem_of_getElem? (i := 1024) (by decide +kernel)⟩
theorem lw_p41 : lw_okq (⟨"GalleryWatchModel", "make", "(IIII)V"⟩, 25) := ⟨⟨by decide +kernel, by decide +kernel⟩, List.mem_of_getElem? (i := 727) (by decide +kernel), List.mem_of_getElem? (i := 1039) (by decide +kernel), List.mem_of_getElem? (i := 1040) (by decide +kernel)⟩
theorem lw_p42 : lw_okq (⟨"GalleryWatchModel", "below", "(I)I"⟩, 25) := ⟨⟨by decide +kernel, by decide +kernel⟩, List.mem_of_getElem? (i := 727) (by decide +kernel), List.mem_of_getElem? (i := 1047) (by decide +kernel), List.mem_of_getElem? (i := 1048) (by decide +kernel)⟩
theorem lw_p43 : lw_okq (⟨"GalleryWatchModel", "isRight", "(I)Z"⟩, 25) := ⟨⟨by decide +kernel, by decide +kernel⟩, List.mem_of_getElem? (i := 727) (by decide +kernel), List.mem_of_getElem? (i := 1059) (by decide +kernel), List.mem_of_getElem? (i := 1060) (by decide +kernel)⟩
theorem lw_p44 : lw_okq (⟨"GalleryWatchModel", "postsBelow", "(I)I"⟩, 25) := ⟨⟨by decide +kernel, by decide +kernel⟩, List.mem_of_getElem? (i := 727) (by decide +kernel), List.mem_of_getElem? (i := 1063) (by decide +kernel), List.mem_of_getElem? (i := 1064) (by decide +kernel)⟩
def lw_privs_3 : List (MethodName × Nat) := [(⟨"GalleryWatchModel", "look", "()V"⟩, 25), (⟨"GalleryWatchModel", "letsSee", "(II)Z"⟩, 25), (⟨"GalleryWatchModel", "looks", "(III)Z"⟩, 25), (⟨"GalleryWatchModel", "isSet", "(I)Z"⟩, 25), (⟨"GalleryWatchModel", "unseenBy", "(I)I"⟩, 25), (⟨"GalleryWatchModel", "seek", "()V"⟩, 25), (⟨"GalleryWatchModel", "walk", "(I)V"⟩, 25), (⟨"GalleryWatchModel", "isUnseen", "(I)Z"⟩, 25), (⟨"GalleryWatchModel", "areNeighbours", "(II)Z"⟩, 25), (⟨"GalleryWatchModel", "make", "(IIII)V"⟩, 25), (⟨"GalleryWatchModel", "below", "(I)I"⟩, 25), (⟨"GalleryWatchModel", "isRight", "(I)Z"⟩, 25), (⟨"GalleryWatchModel", "postsBelow", "(I)I"⟩, 25)]
theorem lw_r3 : ∀ q ∈ lw_privs_3, lw_okq q := List.forall_mem_cons.mpr ⟨lw_p32, List.forall_mem_cons.mpr ⟨lw_p33, List.forall_mem_cons.mpr ⟨lw_p34, List.forall_mem_cons.mpr ⟨lw_p35, List.forall_mem_cons.mpr ⟨lw_p36, List.forall_mem_cons.mpr ⟨lw_p37, List.forall_mem_cons.mpr ⟨lw_p38, List.forall_mem_cons.mpr ⟨lw_p39, List.forall_mem_cons.mpr ⟨lw_p40, List.forall_mem_cons.mpr ⟨lw_p41, List.forall_mem_cons.mpr ⟨lw_p42, List.forall_mem_cons.mpr ⟨lw_p43, List.forall_mem_cons.mpr ⟨lw_p44, fun _ h => absurd h List.not_mem_nil⟩⟩⟩⟩⟩⟩⟩⟩⟩⟩⟩⟩⟩
def lw_privs : List (MethodName × Nat) := lw_privs_1 ++ (lw_privs_2 ++ (lw_privs_3))
def lw_tbl : List Cond := k2_sels lw_privs ++ tables_1
theorem lw_privs_ok : ∀ q ∈ lw_privs, lw_okq q := by
  show ∀ q ∈ lw_privs_1 ++ (lw_privs_2 ++ (lw_privs_3)), lw_okq q
  exact List.forall_mem_append.mpr ⟨lw_r1, List.forall_mem_append.mpr ⟨lw_r2, lw_r3⟩⟩
end
section
/-! the words that go on from a call to what it calls: the good ones, those of nest mates, those of arrays of references -/
def mj_nest : Cond → Bool
  | .fieldLinkNest .. => true
  | .methodLinkNest .. => true
  | _ => false
def mj_over : Cond → Bool
  | .arrayOver _ => true
  | _ => false
def mj_kw (w : Cond) : Bool := goodWord w || (mj_nest w || mj_over w)
def mj_tb : List Cond := lw_tbl.filter mj_kw
def mj_gt : List Cond := mj_tb.filter goodWord
/-! the classes of the program: names, fields (as the tables lay them), types, first values -/
def mj_T0 : u_T := fun k => match k with
  | 0 => ("GalleryWatch$Choice", "view", "LGalleryWatch$View;", true)
  | 1 => ("GalleryWatch$Choice", "low", "[J", true)
  | 2 => ("GalleryWatch$Choice", "high", "[J", true)
  | 3 => ("GalleryWatch$Choice", "restLow", "[J", true)
  | 4 => ("GalleryWatch$Choice", "restHigh", "[J", true)
  | 5 => ("GalleryWatch$Choice", "openLow", "J", false)
  | 6 => ("GalleryWatch$Choice", "openHigh", "J", false)
  | 7 => ("GalleryWatch$Choice", "upToDate", "Z", false)
  | 8 => ("GalleryWatch$Choice", "size", "I", false)
  | 9 => ("GalleryWatch$Choice", "first", "I", false)
  | _ => ("GalleryWatch$Choice", "found", "I", false)
def mj_t0 : Nat → FieldType := fun k => match k with
  | 0 => .object "GalleryWatch$View"
  | 1 => .array .long
  | 2 => .array .long
  | 3 => .array .long
  | 4 => .array .long
  | 5 => .long
  | 6 => .long
  | 7 => .boolean
  | 8 => .int
  | 9 => .int
  | _ => .int
abbrev mj_d0 : List Value := [.null, .null, .null, .null, .null, .long 0, .long 0, .int 0, .int 0, .int 0, .int 0]
theorem mj_nm0 : ∀ a, a < 11 → ∀ b, b < 11 → a ≠ b → (mj_T0 a).2.1 ≠ (mj_T0 b).2.1 := by decide +kernel
theorem mj_ty0 : ∀ k, k < 11 → parseFieldDescriptor (mj_T0 k).2.2.1 = some (mj_t0 k) := by decide +kernel
theorem mj_ow0 : ∀ k, k < 11 → (mj_T0 k).1 = "GalleryWatch$Choice" := by decide +kernel
theorem mj_in0 : ∀ w ∈ u_ws "GalleryWatch$Choice" mj_T0 11, w ∈ mj_tb := by decide +kernel
def mj_T1 : u_T := fun k => match k with
  | 0 => ("GalleryWatch$Past", "rooms", "[LGalleryWatch$Room;", true)
  | 1 => ("GalleryWatch$Past", "kept", "I", false)
  | _ => ("GalleryWatch$Past", "next", "I", false)
def mj_t1 : Nat → FieldType := fun k => match k with
  | 0 => .array (.object "GalleryWatch$Room")
  | 1 => .int
  | _ => .int
abbrev mj_d1 : List Value := [.null, .int 0, .int 0]
theorem mj_nm1 : ∀ a, a < 3 → ∀ b, b < 3 → a ≠ b → (mj_T1 a).2.1 ≠ (mj_T1 b).2.1 := by decide +kernel
theorem mj_ty1 : ∀ k, k < 3 → parseFieldDescriptor (mj_T1 k).2.2.1 = some (mj_t1 k) := by decide +kernel
theorem mj_ow1 : ∀ k, k < 3 → (mj_T1 k).1 = "GalleryWatch$Past" := by decide +kernel
theorem mj_in1 : ∀ w ∈ u_ws "GalleryWatch$Past" mj_T1 3, w ∈ mj_tb := by decide +kernel
def mj_T2 : u_T := fun k => match k with
  | 0 => ("GalleryWatch$Post", "cell", "I", true)
  | 1 => ("GalleryWatch$Post", "kind", "I", true)
  | 2 => ("GalleryWatch$Post", "from", "I", true)
  | 3 => ("GalleryWatch$Post", "to", "I", true)
  | 4 => ("GalleryWatch$Post", "reach", "I", true)
  | _ => ("GalleryWatch$Post", "lit", "I", true)
def mj_t2 : Nat → FieldType := fun k => match k with
  | 0 => .int
  | 1 => .int
  | 2 => .int
  | 3 => .int
  | 4 => .int
  | _ => .int
abbrev mj_d2 : List Value := [.int 0, .int 0, .int 0, .int 0, .int 0, .int 0]
theorem mj_nm2 : ∀ a, a < 6 → ∀ b, b < 6 → a ≠ b → (mj_T2 a).2.1 ≠ (mj_T2 b).2.1 := by decide +kernel
theorem mj_ty2 : ∀ k, k < 6 → parseFieldDescriptor (mj_T2 k).2.2.1 = some (mj_t2 k) := by decide +kernel
theorem mj_ow2 : ∀ k, k < 6 → (mj_T2 k).1 = "GalleryWatch$Post" := by decide +kernel
theorem mj_in2 : ∀ w ∈ u_ws "GalleryWatch$Post" mj_T2 6, w ∈ mj_tb := by decide +kernel
def mj_T3 : u_T := fun k => match k with
  | 0 => ("GalleryWatch$Proof", "view", "LGalleryWatch$View;", true)
  | 1 => ("GalleryWatch$Proof", "cells", "[I", true)
  | 2 => ("GalleryWatch$Proof", "aboves", "[I", true)
  | 3 => ("GalleryWatch$Proof", "comers", "[I", true)
  | 4 => ("GalleryWatch$Proof", "ways", "[I", true)
  | 5 => ("GalleryWatch$Proof", "belows", "[I", true)
  | 6 => ("GalleryWatch$Proof", "rows", "I", false)
  | _ => ("GalleryWatch$Proof", "size", "I", false)
def mj_t3 : Nat → FieldType := fun k => match k with
  | 0 => .object "GalleryWatch$View"
  | 1 => .array .int
  | 2 => .array .int
  | 3 => .array .int
  | 4 => .array .int
  | 5 => .array .int
  | 6 => .int
  | _ => .int
abbrev mj_d3 : List Value := [.null, .null, .null, .null, .null, .null, .int 0, .int 0]
theorem mj_nm3 : ∀ a, a < 8 → ∀ b, b < 8 → a ≠ b → (mj_T3 a).2.1 ≠ (mj_T3 b).2.1 := by decide +kernel
theorem mj_ty3 : ∀ k, k < 8 → parseFieldDescriptor (mj_T3 k).2.2.1 = some (mj_t3 k) := by decide +kernel
theorem mj_ow3 : ∀ k, k < 8 → (mj_T3 k).1 = "GalleryWatch$Proof" := by decide +kernel
theorem mj_in3 : ∀ w ∈ u_ws "GalleryWatch$Proof" mj_T3 8, w ∈ mj_tb := by decide +kernel
def mj_T4 : u_T := fun k => match k with
  | 0 => ("GalleryWatch$Room", "width", "I", false)
  | 1 => ("GalleryWatch$Room", "height", "I", false)
  | 2 => ("GalleryWatch$Room", "postCount", "I", false)
  | 3 => ("GalleryWatch$Room", "walls", "[I", true)
  | _ => ("GalleryWatch$Room", "posts", "[LGalleryWatch$Post;", true)
def mj_t4 : Nat → FieldType := fun k => match k with
  | 0 => .int
  | 1 => .int
  | 2 => .int
  | 3 => .array .int
  | _ => .array (.object "GalleryWatch$Post")
abbrev mj_d4 : List Value := [.int 0, .int 0, .int 0, .null, .null]
theorem mj_nm4 : ∀ a, a < 5 → ∀ b, b < 5 → a ≠ b → (mj_T4 a).2.1 ≠ (mj_T4 b).2.1 := by decide +kernel
theorem mj_ty4 : ∀ k, k < 5 → parseFieldDescriptor (mj_T4 k).2.2.1 = some (mj_t4 k) := by decide +kernel
theorem mj_ow4 : ∀ k, k < 5 → (mj_T4 k).1 = "GalleryWatch$Room" := by decide +kernel
theorem mj_in4 : ∀ w ∈ u_ws "GalleryWatch$Room" mj_T4 5, w ∈ mj_tb := by decide +kernel
def mj_T5 : u_T := fun k => match k with
  | 0 => ("GalleryWatch$Shade", "view", "LGalleryWatch$View;", true)
  | 1 => ("GalleryWatch$Shade", "steps", "[I", true)
  | _ => ("GalleryWatch$Shade", "queue", "[I", true)
def mj_t5 : Nat → FieldType := fun k => match k with
  | 0 => .object "GalleryWatch$View"
  | 1 => .array .int
  | _ => .array .int
abbrev mj_d5 : List Value := [.null, .null, .null]
theorem mj_nm5 : ∀ a, a < 3 → ∀ b, b < 3 → a ≠ b → (mj_T5 a).2.1 ≠ (mj_T5 b).2.1 := by decide +kernel
theorem mj_ty5 : ∀ k, k < 3 → parseFieldDescriptor (mj_T5 k).2.2.1 = some (mj_t5 k) := by decide +kernel
theorem mj_ow5 : ∀ k, k < 3 → (mj_T5 k).1 = "GalleryWatch$Shade" := by decide +kernel
theorem mj_in5 : ∀ w ∈ u_ws "GalleryWatch$Shade" mj_T5 3, w ∈ mj_tb := by decide +kernel
def mj_T6 : u_T := fun k => match k with
  | 0 => ("GalleryWatch$View", "room", "LGalleryWatch$Room;", true)
  | 1 => ("GalleryWatch$View", "watchers", "[I", true)
  | _ => ("GalleryWatch$View", "upToDate", "Z", false)
def mj_t6 : Nat → FieldType := fun k => match k with
  | 0 => .object "GalleryWatch$Room"
  | 1 => .array .int
  | _ => .boolean
abbrev mj_d6 : List Value := [.null, .null, .int 0]
theorem mj_nm6 : ∀ a, a < 3 → ∀ b, b < 3 → a ≠ b → (mj_T6 a).2.1 ≠ (mj_T6 b).2.1 := by decide +kernel
theorem mj_ty6 : ∀ k, k < 3 → parseFieldDescriptor (mj_T6 k).2.2.1 = some (mj_t6 k) := by decide +kernel
theorem mj_ow6 : ∀ k, k < 3 → (mj_T6 k).1 = "GalleryWatch$View" := by decide +kernel
theorem mj_in6 : ∀ w ∈ u_ws "GalleryWatch$View" mj_T6 3, w ∈ mj_tb := by decide +kernel
def mj_T7 : u_T := fun k => match k with
  | 0 => ("GalleryWatch", "now", "LGalleryWatch$Room;", true)
  | 1 => ("GalleryWatch", "draft", "LGalleryWatch$Room;", true)
  | 2 => ("GalleryWatch", "past", "LGalleryWatch$Past;", true)
  | 3 => ("GalleryWatch", "view", "LGalleryWatch$View;", true)
  | 4 => ("GalleryWatch", "choice", "LGalleryWatch$Choice;", true)
  | 5 => ("GalleryWatch", "shade", "LGalleryWatch$Shade;", true)
  | _ => ("GalleryWatch", "proof", "LGalleryWatch$Proof;", true)
def mj_t7 : Nat → FieldType := fun k => match k with
  | 0 => .object "GalleryWatch$Room"
  | 1 => .object "GalleryWatch$Room"
  | 2 => .object "GalleryWatch$Past"
  | 3 => .object "GalleryWatch$View"
  | 4 => .object "GalleryWatch$Choice"
  | 5 => .object "GalleryWatch$Shade"
  | _ => .object "GalleryWatch$Proof"
abbrev mj_d7 : List Value := [.null, .null, .null, .null, .null, .null, .null]
theorem mj_nm7 : ∀ a, a < 7 → ∀ b, b < 7 → a ≠ b → (mj_T7 a).2.1 ≠ (mj_T7 b).2.1 := by decide +kernel
theorem mj_ty7 : ∀ k, k < 7 → parseFieldDescriptor (mj_T7 k).2.2.1 = some (mj_t7 k) := by decide +kernel
theorem mj_ow7 : ∀ k, k < 7 → (mj_T7 k).1 = "GalleryWatch" := by decide +kernel
theorem mj_in7 : ∀ w ∈ u_ws "GalleryWatch" mj_T7 7, w ∈ mj_tb := by decide +kernel
def mj_T8 : u_T := fun k => match k with
  | 0 => ("GalleryWatchModel", "width", "I", false)
  | 1 => ("GalleryWatchModel", "height", "I", false)
  | 2 => ("GalleryWatchModel", "s", "[I", true)
  | 3 => ("GalleryWatchModel", "before", "[I", true)
  | 4 => ("GalleryWatchModel", "kept", "I", false)
  | 5 => ("GalleryWatchModel", "watched", "[I", true)
  | 6 => ("GalleryWatchModel", "rows", "I", false)
  | 7 => ("GalleryWatchModel", "treeFor", "I", false)
  | 8 => ("GalleryWatchModel", "rowCell", "[I", true)
  | 9 => ("GalleryWatchModel", "rowAbove", "[I", true)
  | 10 => ("GalleryWatchModel", "rowPost", "[I", true)
  | 11 => ("GalleryWatchModel", "rowWay", "[I", true)
  | 12 => ("GalleryWatchModel", "isFull", "Z", false)
  | 13 => ("GalleryWatchModel", "held", "[I", true)
  | 14 => ("GalleryWatchModel", "fresh", "[I", true)
  | 15 => ("GalleryWatchModel", "fewestNow", "I", false)
  | 16 => ("GalleryWatchModel", "firstNow", "I", false)
  | 17 => ("GalleryWatchModel", "manyNow", "I", false)
  | 18 => ("GalleryWatchModel", "far", "[I", true)
  | 19 => ("GalleryWatchModel", "isCounted", "[Z", true)
  | 20 => ("GalleryWatchModel", "made", "I", false)
  | 21 => ("GalleryWatchModel", "madeCell", "[I", true)
  | 22 => ("GalleryWatchModel", "madeAbove", "[I", true)
  | 23 => ("GalleryWatchModel", "madePost", "[I", true)
  | _ => ("GalleryWatchModel", "madeWay", "[I", true)
def mj_t8 : Nat → FieldType := fun k => match k with
  | 0 => .int
  | 1 => .int
  | 2 => .array .int
  | 3 => .array .int
  | 4 => .int
  | 5 => .array .int
  | 6 => .int
  | 7 => .int
  | 8 => .array .int
  | 9 => .array .int
  | 10 => .array .int
  | 11 => .array .int
  | 12 => .boolean
  | 13 => .array .int
  | 14 => .array .int
  | 15 => .int
  | 16 => .int
  | 17 => .int
  | 18 => .array .int
  | 19 => .array .boolean
  | 20 => .int
  | 21 => .array .int
  | 22 => .array .int
  | 23 => .array .int
  | _ => .array .int
abbrev mj_d8 : List Value := [.int 0, .int 0, .null, .null, .int 0, .null, .int 0, .int 0, .null, .null, .null, .null, .int 0, .null, .null, .int 0, .int 0, .int 0, .null, .null, .int 0, .null, .null, .null, .null]
theorem mj_nm8 : ∀ a, a < 25 → ∀ b, b < 25 → a ≠ b → (mj_T8 a).2.1 ≠ (mj_T8 b).2.1 := by decide +kernel
theorem mj_ty8 : ∀ k, k < 25 → parseFieldDescriptor (mj_T8 k).2.2.1 = some (mj_t8 k) := by decide +kernel
theorem mj_ow8 : ∀ k, k < 25 → (mj_T8 k).1 = "GalleryWatchModel" := by decide +kernel
theorem mj_in8 : ∀ w ∈ u_ws "GalleryWatchModel" mj_T8 25, w ∈ mj_tb := by decide +kernel
def mj_cl : List vw_C := [("GalleryWatch$Choice", mj_T0, 11), ("GalleryWatch$Past", mj_T1, 3), ("GalleryWatch$Post", mj_T2, 6), ("GalleryWatch$Proof", mj_T3, 8), ("GalleryWatch$Room", mj_T4, 5), ("GalleryWatch$Shade", mj_T5, 3), ("GalleryWatch$View", mj_T6, 3), ("GalleryWatch", mj_T7, 7), ("GalleryWatchModel", mj_T8, 25)]
def mj_tn : List (Nat → FieldType) := [mj_t0, mj_t1, mj_t2, mj_t3, mj_t4, mj_t5, mj_t6, mj_t7, mj_t8]
def mj_df : List (List Value) := [mj_d0, mj_d1, mj_d2, mj_d3, mj_d4, mj_d5, mj_d6, mj_d7, mj_d8]
/-! the methods: name, code, locals, what comes back -/
abbrev mj_Y : Type := MethodName × ByteArray × Nat × Option FieldType
def y_GW_init : mj_Y := (⟨"GalleryWatch", "<init>", "()V"⟩, prog_1_method_1_code, 3, none)
def y_Room_init : mj_Y := (⟨"GalleryWatch$Room", "<init>", "()V"⟩, prog_6_method_1_code, 1, none)
def y_View_init : mj_Y := (⟨"GalleryWatch$View", "<init>", "(LGalleryWatch$Room;)V"⟩, prog_8_method_1_code, 2, none)
def y_Past_init : mj_Y := (⟨"GalleryWatch$Past", "<init>", "()V"⟩, prog_3_method_1_code, 2, none)
def y_Choice_init : mj_Y := (⟨"GalleryWatch$Choice", "<init>", "(LGalleryWatch$View;)V"⟩, prog_2_method_1_code, 2, none)
def y_Shade_init : mj_Y := (⟨"GalleryWatch$Shade", "<init>", "(LGalleryWatch$View;)V"⟩, prog_7_method_1_code, 2, none)
def y_Proof_init : mj_Y := (⟨"GalleryWatch$Proof", "<init>", "(LGalleryWatch$View;)V"⟩, prog_5_method_1_code, 2, none)
def y_GW_room : mj_Y := (⟨"GalleryWatch", "room", "(II)I"⟩, prog_1_method_2_code, 3, (some .int))
def y_GW_isWithin : mj_Y := (⟨"GalleryWatch", "isWithin", "(III)Z"⟩, prog_1_method_35_code, 3, (some .boolean))
def y_Room_begin : mj_Y := (⟨"GalleryWatch$Room", "begin", "(II)V"⟩, prog_6_method_2_code, 4, none)
def y_Arrays_fill : mj_Y := (⟨"java/util/Arrays", "fill", "([II)V"⟩, prog_14_method_103_code, 4, none)
def y_Past_forget : mj_Y := (⟨"GalleryWatch$Past", "forget", "()V"⟩, prog_3_method_3_code, 1, none)
def y_GW_outdate : mj_Y := (⟨"GalleryWatch", "outdate", "()V"⟩, prog_1_method_34_code, 1, none)
def y_View_outdate : mj_Y := (⟨"GalleryWatch$View", "outdate", "()V"⟩, prog_8_method_2_code, 1, none)
def y_Choice_outdate : mj_Y := (⟨"GalleryWatch$Choice", "outdate", "()V"⟩, prog_2_method_2_code, 1, none)
def y_Proof_end : mj_Y := (⟨"GalleryWatch$Proof", "end", "()V"⟩, prog_5_method_2_code, 1, none)
def y_Room_cells : mj_Y := (⟨"GalleryWatch$Room", "cells", "()I"⟩, prog_6_method_4_code, 1, (some .int))
def y_GW_wall : mj_Y := (⟨"GalleryWatch", "wall", "(III)I"⟩, prog_1_method_3_code, 5, (some .int))
def y_Room_hasCell : mj_Y := (⟨"GalleryWatch$Room", "hasCell", "(I)Z"⟩, prog_6_method_5_code, 2, (some .boolean))
def y_Room_copyFrom : mj_Y := (⟨"GalleryWatch$Room", "copyFrom", "(LGalleryWatch$Room;)V"⟩, prog_6_method_3_code, 2, none)
def y_Room_build : mj_Y := (⟨"GalleryWatch$Room", "build", "(III)I"⟩, prog_6_method_11_code, 12, (some .int))
def y_Room_rowOf : mj_Y := (⟨"GalleryWatch$Room", "rowOf", "(I)I"⟩, prog_6_method_8_code, 2, (some .int))
def y_Math_min : mj_Y := (⟨"java/lang/Math", "min", "(II)I"⟩, prog_12_method_69_code, 2, (some .int))
def y_Math_max : mj_Y := (⟨"java/lang/Math", "max", "(II)I"⟩, prog_12_method_65_code, 2, (some .int))
def y_Room_columnOf : mj_Y := (⟨"GalleryWatch$Room", "columnOf", "(I)I"⟩, prog_6_method_9_code, 2, (some .int))
def y_Room_holdsItsPosts : mj_Y := (⟨"GalleryWatch$Room", "holdsItsPosts", "()Z"⟩, prog_6_method_22_code, 3, (some .boolean))
def y_Room_postAt : mj_Y := (⟨"GalleryWatch$Room", "postAt", "(I)LGalleryWatch$Post;"⟩, prog_6_method_16_code, 2, (some (.object "GalleryWatch$Post")))
def y_Room_canStand : mj_Y := (⟨"GalleryWatch$Room", "canStand", "(II)Z"⟩, prog_6_method_20_code, 3, (some .boolean))
def y_Room_isOpen : mj_Y := (⟨"GalleryWatch$Room", "isOpen", "(I)Z"⟩, prog_6_method_6_code, 2, (some .boolean))
def y_GW_isKindOf : mj_Y := (⟨"GalleryWatch", "isKindOf", "(II)Z"⟩, prog_1_method_38_code, 2, (some .boolean))
def y_GW_isKind : mj_Y := (⟨"GalleryWatch", "isKind", "(I)Z"⟩, prog_1_method_37_code, 1, (some .boolean))
def y_Room_isAtWall : mj_Y := (⟨"GalleryWatch$Room", "isAtWall", "(I)Z"⟩, prog_6_method_21_code, 3, (some .boolean))
def y_Room_beside : mj_Y := (⟨"GalleryWatch$Room", "beside", "(II)I"⟩, prog_6_method_10_code, 5, (some .int))
def y_GW_beginChange : mj_Y := (⟨"GalleryWatch", "beginChange", "()V"⟩, prog_1_method_33_code, 1, none)
def y_Past_keep : mj_Y := (⟨"GalleryWatch$Past", "keep", "(LGalleryWatch$Room;)V"⟩, prog_3_method_4_code, 3, none)
def y_Past_nextSlot : mj_Y := (⟨"GalleryWatch$Past", "nextSlot", "()LGalleryWatch$Room;"⟩, prog_3_method_6_code, 1, (some (.object "GalleryWatch$Room")))
def y_GW_isWall : mj_Y := (⟨"GalleryWatch", "isWall", "(I)I"⟩, prog_1_method_4_code, 2, (some .int))
def y_GW_bit : mj_Y := (⟨"GalleryWatch", "bit", "(Z)I"⟩, prog_1_method_36_code, 1, (some .int))
def y_GW_sight : mj_Y := (⟨"GalleryWatch", "sight", "(II)I"⟩, prog_1_method_5_code, 3, (some .int))
def y_Room_inSight : mj_Y := (⟨"GalleryWatch$Room", "inSight", "(II)Z"⟩, prog_6_method_12_code, 13, (some .boolean))
def y_Math_abs : mj_Y := (⟨"java/lang/Math", "abs", "(I)I"⟩, prog_12_method_59_code, 1, (some .int))
def y_GW_post : mj_Y := (⟨"GalleryWatch", "post", "(II)I"⟩, prog_1_method_6_code, 4, (some .int))
def y_Room_posts : mj_Y := (⟨"GalleryWatch$Room", "posts", "()I"⟩, prog_6_method_13_code, 1, (some .int))
def y_GW_newPost : mj_Y := (⟨"GalleryWatch", "newPost", "(II)LGalleryWatch$Post;"⟩, prog_1_method_39_code, 5, (some (.object "GalleryWatch$Post")))
def y_GW_told : mj_Y := (⟨"GalleryWatch", "told", "(II)I"⟩, prog_1_method_40_code, 2, (some .int))
def y_Post_init : mj_Y := (⟨"GalleryWatch$Post", "<init>", "(IIIIII)V"⟩, prog_4_method_1_code, 7, none)
def y_Room_addPost : mj_Y := (⟨"GalleryWatch$Room", "addPost", "(LGalleryWatch$Post;)V"⟩, prog_6_method_18_code, 2, none)
def y_GW_aim : mj_Y := (⟨"GalleryWatch", "aim", "(III)I"⟩, prog_1_method_7_code, 5, (some .int))
def y_GW_areDirections : mj_Y := (⟨"GalleryWatch", "areDirections", "(II)Z"⟩, prog_1_method_44_code, 7, (some .boolean))
def y_GW_isDirection : mj_Y := (⟨"GalleryWatch", "isDirection", "(I)Z"⟩, prog_1_method_43_code, 3, (some .boolean))
def y_GW_acrossOf : mj_Y := (⟨"GalleryWatch", "acrossOf", "(I)I"⟩, prog_1_method_41_code, 1, (some .int))
def y_GW_downOf : mj_Y := (⟨"GalleryWatch", "downOf", "(I)I"⟩, prog_1_method_42_code, 1, (some .int))
def y_Room_setPost : mj_Y := (⟨"GalleryWatch$Room", "setPost", "(ILGalleryWatch$Post;)V"⟩, prog_6_method_17_code, 3, none)
def y_GW_reach : mj_Y := (⟨"GalleryWatch", "reach", "(II)I"⟩, prog_1_method_8_code, 4, (some .int))
def y_GW_move : mj_Y := (⟨"GalleryWatch", "move", "(II)I"⟩, prog_1_method_9_code, 4, (some .int))
def y_GW_lamp : mj_Y := (⟨"GalleryWatch", "lamp", "(II)I"⟩, prog_1_method_10_code, 4, (some .int))
def y_GW_drop : mj_Y := (⟨"GalleryWatch", "drop", "()I"⟩, prog_1_method_11_code, 1, (some .int))
def y_Room_removeLatestPost : mj_Y := (⟨"GalleryWatch$Room", "removeLatestPost", "()V"⟩, prog_6_method_19_code, 1, none)
def y_GW_about : mj_Y := (⟨"GalleryWatch", "about", "(II)I"⟩, prog_1_method_12_code, 4, (some .int))
def y_GW_isOf : mj_Y := (⟨"GalleryWatch", "isOf", "(II)I"⟩, prog_1_method_13_code, 4, (some .int))
def y_GW_undo : mj_Y := (⟨"GalleryWatch", "undo", "()I"⟩, prog_1_method_14_code, 1, (some .int))
def y_Past_kept : mj_Y := (⟨"GalleryWatch$Past", "kept", "()I"⟩, prog_3_method_2_code, 1, (some .int))
def y_Past_takeBack : mj_Y := (⟨"GalleryWatch$Past", "takeBack", "(LGalleryWatch$Room;)V"⟩, prog_3_method_5_code, 3, none)
def y_GW_sees : mj_Y := (⟨"GalleryWatch", "sees", "(II)I"⟩, prog_1_method_15_code, 3, (some .int))
def y_View_refresh : mj_Y := (⟨"GalleryWatch$View", "refresh", "()V"⟩, prog_8_method_3_code, 2, none)
def y_View_lookedUp : mj_Y := (⟨"GalleryWatch$View", "lookedUp", "(I)I"⟩, prog_8_method_4_code, 5, (some .int))
def y_View_isSeenFrom : mj_Y := (⟨"GalleryWatch$View", "isSeenFrom", "(LGalleryWatch$Post;I)Z"⟩, prog_8_method_5_code, 5, (some .boolean))
def y_Post_lets : mj_Y := (⟨"GalleryWatch$Post", "lets", "(II)Z"⟩, prog_4_method_2_code, 3, (some .boolean))
def y_Post_isBetween : mj_Y := (⟨"GalleryWatch$Post", "isBetween", "(II)Z"⟩, prog_4_method_3_code, 9, (some .boolean))
def y_View_watchersOf : mj_Y := (⟨"GalleryWatch$View", "watchersOf", "(I)I"⟩, prog_8_method_6_code, 2, (some .int))
def y_GW_region : mj_Y := (⟨"GalleryWatch", "region", "(I)I"⟩, prog_1_method_16_code, 2, (some .int))
def y_View_cellsSeenBy : mj_Y := (⟨"GalleryWatch$View", "cellsSeenBy", "(I)I"⟩, prog_8_method_9_code, 4, (some .int))
def y_GW_watchers : mj_Y := (⟨"GalleryWatch", "watchers", "(I)I"⟩, prog_1_method_17_code, 2, (some .int))
def y_GW_blind : mj_Y := (⟨"GalleryWatch", "blind", "(I)I"⟩, prog_1_method_18_code, 2, (some .int))
def y_Room_hasPosts : mj_Y := (⟨"GalleryWatch$Room", "hasPosts", "(I)Z"⟩, prog_6_method_15_code, 2, (some .boolean))
def y_Room_allPosts : mj_Y := (⟨"GalleryWatch$Room", "allPosts", "()I"⟩, prog_6_method_14_code, 1, (some .int))
def y_View_leastUnwatched : mj_Y := (⟨"GalleryWatch$View", "leastUnwatched", "(I)I"⟩, prog_8_method_10_code, 3, (some .int))
def y_GW_seen : mj_Y := (⟨"GalleryWatch", "seen", "(I)I"⟩, prog_1_method_19_code, 2, (some .int))
def y_GW_spare : mj_Y := (⟨"GalleryWatch", "spare", "(I)I"⟩, prog_1_method_20_code, 2, (some .int))
def y_View_sparedOf : mj_Y := (⟨"GalleryWatch$View", "sparedOf", "(I)I"⟩, prog_8_method_11_code, 5, (some .int))
def y_GW_fewest : mj_Y := (⟨"GalleryWatch", "fewest", "()I"⟩, prog_1_method_21_code, 1, (some .int))
def y_Choice_solve : mj_Y := (⟨"GalleryWatch$Choice", "solve", "()V"⟩, prog_2_method_3_code, 2, none)
def y_Choice_gatherOpen : mj_Y := (⟨"GalleryWatch$Choice", "gatherOpen", "()V"⟩, prog_2_method_4_code, 2, none)
def y_Choice_lowBit : mj_Y := (⟨"GalleryWatch$Choice", "lowBit", "(I)J"⟩, prog_2_method_6_code, 1, (some .long))
def y_Choice_highBit : mj_Y := (⟨"GalleryWatch$Choice", "highBit", "(I)J"⟩, prog_2_method_7_code, 1, (some .long))
def y_Choice_gatherSeen : mj_Y := (⟨"GalleryWatch$Choice", "gatherSeen", "()V"⟩, prog_2_method_5_code, 7, none)
def y_Choice_extend : mj_Y := (⟨"GalleryWatch$Choice", "extend", "(IIIJJ)V"⟩, prog_2_method_9_code, 9, none)
def y_Choice_isAll : mj_Y := (⟨"GalleryWatch$Choice", "isAll", "(JJ)Z"⟩, prog_2_method_8_code, 5, (some .boolean))
def y_GW_choose : mj_Y := (⟨"GalleryWatch", "choose", "()I"⟩, prog_1_method_22_code, 1, (some .int))
def y_GW_many : mj_Y := (⟨"GalleryWatch", "many", "()I"⟩, prog_1_method_23_code, 1, (some .int))
def y_GW_only : mj_Y := (⟨"GalleryWatch", "only", "()I"⟩, prog_1_method_24_code, 2, (some .int))
def y_GW_sneak : mj_Y := (⟨"GalleryWatch", "sneak", "(II)I"⟩, prog_1_method_25_code, 3, (some .int))
def y_Shade_stepsBetween : mj_Y := (⟨"GalleryWatch$Shade", "stepsBetween", "(II)I"⟩, prog_7_method_2_code, 4, (some .int))
def y_Shade_spread : mj_Y := (⟨"GalleryWatch$Shade", "spread", "(I)V"⟩, prog_7_method_6_code, 6, none)
def y_Shade_enter : mj_Y := (⟨"GalleryWatch$Shade", "enter", "(III)I"⟩, prog_7_method_7_code, 4, (some .int))
def y_View_isUnseen : mj_Y := (⟨"GalleryWatch$View", "isUnseen", "(I)Z"⟩, prog_8_method_7_code, 2, (some .boolean))
def y_Shade_stepsOf : mj_Y := (⟨"GalleryWatch$Shade", "stepsOf", "(I)I"⟩, prog_7_method_5_code, 2, (some .int))
def y_GW_way : mj_Y := (⟨"GalleryWatch", "way", "(III)I"⟩, prog_1_method_26_code, 4, (some .int))
def y_Shade_cellOnWay : mj_Y := (⟨"GalleryWatch$Shade", "cellOnWay", "(III)I"⟩, prog_7_method_3_code, 7, (some .int))
def y_Shade_leastNearer : mj_Y := (⟨"GalleryWatch$Shade", "leastNearer", "(I)I"⟩, prog_7_method_8_code, 4, (some .int))
def y_GW_hides : mj_Y := (⟨"GalleryWatch", "hides", "()I"⟩, prog_1_method_27_code, 1, (some .int))
def y_Shade_parts : mj_Y := (⟨"GalleryWatch$Shade", "parts", "()I"⟩, prog_7_method_4_code, 3, (some .int))
def y_GW_tree : mj_Y := (⟨"GalleryWatch", "tree", "(I)I"⟩, prog_1_method_28_code, 2, (some .int))
def y_Proof_make : mj_Y := (⟨"GalleryWatch$Proof", "make", "(I)I"⟩, prog_5_method_10_code, 2, (some .int))
def y_Proof_rowsNeeded : mj_Y := (⟨"GalleryWatch$Proof", "rowsNeeded", "(II)I"⟩, prog_5_method_11_code, 6, (some .int))
def y_Proof_grow : mj_Y := (⟨"GalleryWatch$Proof", "grow", "(IIII)V"⟩, prog_5_method_12_code, 9, none)
def y_GW_row : mj_Y := (⟨"GalleryWatch", "row", "(II)I"⟩, prog_1_method_29_code, 3, (some .int))
def y_Proof_rows : mj_Y := (⟨"GalleryWatch$Proof", "rows", "()I"⟩, prog_5_method_3_code, 1, (some .int))
def y_Proof_hasRow : mj_Y := (⟨"GalleryWatch$Proof", "hasRow", "(I)Z"⟩, prog_5_method_4_code, 2, (some .boolean))
def y_Proof_cellOf : mj_Y := (⟨"GalleryWatch$Proof", "cellOf", "(I)I"⟩, prog_5_method_5_code, 2, (some .int))
def y_Proof_aboveOf : mj_Y := (⟨"GalleryWatch$Proof", "aboveOf", "(I)I"⟩, prog_5_method_6_code, 2, (some .int))
def y_Proof_comerOf : mj_Y := (⟨"GalleryWatch$Proof", "comerOf", "(I)I"⟩, prog_5_method_7_code, 2, (some .int))
def y_Proof_rowsBelow : mj_Y := (⟨"GalleryWatch$Proof", "rowsBelow", "(I)I"⟩, prog_5_method_8_code, 2, (some .int))
def y_Integer_bitCount : mj_Y := (⟨"java/lang/Integer", "bitCount", "(I)I"⟩, prog_11_method_49_code, 1, (some .int))
def y_GW_forge : mj_Y := (⟨"GalleryWatch", "forge", "(II)I"⟩, prog_1_method_30_code, 3, (some .int))
def y_Proof_replaceCell : mj_Y := (⟨"GalleryWatch$Proof", "replaceCell", "(II)I"⟩, prog_5_method_9_code, 4, (some .int))
def y_GW_check : mj_Y := (⟨"GalleryWatch", "check", "()I"⟩, prog_1_method_31_code, 2, (some .int))
def y_Proof_firstWrongRow : mj_Y := (⟨"GalleryWatch$Proof", "firstWrongRow", "()I"⟩, prog_5_method_13_code, 2, (some .int))
def y_Proof_isRight : mj_Y := (⟨"GalleryWatch$Proof", "isRight", "(I)Z"⟩, prog_5_method_14_code, 4, (some .boolean))
def y_GW_count : mj_Y := (⟨"GalleryWatch", "count", "(I)I"⟩, prog_1_method_32_code, 2, (some .int))
def y_Room_openCells : mj_Y := (⟨"GalleryWatch$Room", "openCells", "()I"⟩, prog_6_method_7_code, 3, (some .int))
def y_View_unseenCells : mj_Y := (⟨"GalleryWatch$View", "unseenCells", "()I"⟩, prog_8_method_8_code, 3, (some .int))
def y_Model_init : mj_Y := (⟨"GalleryWatchModel", "<init>", "()V"⟩, prog_10_method_1_code, 1, none)
def y_Model_undo : mj_Y := (⟨"GalleryWatchModel", "undo", "()I"⟩, prog_10_method_9_code, 2, (some .int))
def y_Model_room : mj_Y := (⟨"GalleryWatchModel", "room", "(II)I"⟩, prog_10_method_10_code, 4, (some .int))
def y_Model_isIn : mj_Y := (⟨"GalleryWatchModel", "isIn", "(III)Z"⟩, prog_10_method_2_code, 3, (some .boolean))
def y_Model_cells : mj_Y := (⟨"GalleryWatchModel", "cells", "()I"⟩, prog_10_method_3_code, 1, (some .int))
def y_Model_wall : mj_Y := (⟨"GalleryWatchModel", "wall", "(III)I"⟩, prog_10_method_17_code, 6, (some .int))
def y_Model_isCell : mj_Y := (⟨"GalleryWatchModel", "isCell", "(I)Z"⟩, prog_10_method_4_code, 2, (some .boolean))
def y_Model_keep0 : mj_Y := (⟨"GalleryWatchModel", "keep0", "()V"⟩, prog_10_method_18_code, 2, none)
def y_Model_isBetween : mj_Y := (⟨"GalleryWatchModel", "isBetween", "(III)Z"⟩, prog_10_method_16_code, 7, (some .boolean))
def y_Model_allStand : mj_Y := (⟨"GalleryWatchModel", "allStand", "()Z"⟩, prog_10_method_15_code, 3, (some .boolean))
def y_Model_posts : mj_Y := (⟨"GalleryWatchModel", "posts", "()I"⟩, prog_10_method_6_code, 1, (some .int))
def y_Model_mayStand : mj_Y := (⟨"GalleryWatchModel", "mayStand", "(II)Z"⟩, prog_10_method_14_code, 3, (some .boolean))
def y_Model_isOpen : mj_Y := (⟨"GalleryWatchModel", "isOpen", "(I)Z"⟩, prog_10_method_5_code, 2, (some .boolean))
def y_Model_isDoor : mj_Y := (⟨"GalleryWatchModel", "isDoor", "(I)Z"⟩, prog_10_method_12_code, 1, (some .boolean))
def y_Model_hasWall : mj_Y := (⟨"GalleryWatchModel", "hasWall", "(I)Z"⟩, prog_10_method_11_code, 5, (some .boolean))
def y_Model_swapBack : mj_Y := (⟨"GalleryWatchModel", "swapBack", "()V"⟩, prog_10_method_19_code, 2, none)
def y_Model_keep : mj_Y := (⟨"GalleryWatchModel", "keep", "()V"⟩, prog_10_method_8_code, 2, none)
def y_Model_isWall : mj_Y := (⟨"GalleryWatchModel", "isWall", "(I)I"⟩, prog_10_method_20_code, 2, (some .int))
def y_Model_sight : mj_Y := (⟨"GalleryWatchModel", "sight", "(II)I"⟩, prog_10_method_24_code, 3, (some .int))
def y_Model_inSight : mj_Y := (⟨"GalleryWatchModel", "inSight", "(II)Z"⟩, prog_10_method_23_code, 5, (some .boolean))
def y_Model_cuts : mj_Y := (⟨"GalleryWatchModel", "cuts", "(III)Z"⟩, prog_10_method_22_code, 18, (some .boolean))
def y_Model_side : mj_Y := (⟨"GalleryWatchModel", "side", "(IIIIII)I"⟩, prog_10_method_21_code, 7, (some .int))
def y_Model_post : mj_Y := (⟨"GalleryWatchModel", "post", "(II)I"⟩, prog_10_method_25_code, 4, (some .int))
def y_Model_aim : mj_Y := (⟨"GalleryWatchModel", "aim", "(III)I"⟩, prog_10_method_27_code, 9, (some .int))
def y_Model_isPost : mj_Y := (⟨"GalleryWatchModel", "isPost", "(I)Z"⟩, prog_10_method_7_code, 2, (some .boolean))
def y_Model_isDirection : mj_Y := (⟨"GalleryWatchModel", "isDirection", "(I)Z"⟩, prog_10_method_26_code, 1, (some .boolean))
def y_Model_isWedge : mj_Y := (⟨"GalleryWatchModel", "isWedge", "(I)Z"⟩, prog_10_method_13_code, 1, (some .boolean))
def y_Model_reach : mj_Y := (⟨"GalleryWatchModel", "reach", "(II)I"⟩, prog_10_method_28_code, 4, (some .int))
def y_Model_move : mj_Y := (⟨"GalleryWatchModel", "move", "(II)I"⟩, prog_10_method_29_code, 4, (some .int))
def y_Model_lamp : mj_Y := (⟨"GalleryWatchModel", "lamp", "(II)I"⟩, prog_10_method_30_code, 4, (some .int))
def y_Model_drop : mj_Y := (⟨"GalleryWatchModel", "drop", "()I"⟩, prog_10_method_31_code, 1, (some .int))
def y_Model_about : mj_Y := (⟨"GalleryWatchModel", "about", "(II)I"⟩, prog_10_method_33_code, 4, (some .int))
def y_Model_coded : mj_Y := (⟨"GalleryWatchModel", "coded", "(II)I"⟩, prog_10_method_32_code, 2, (some .int))
def y_Model_isOf : mj_Y := (⟨"GalleryWatchModel", "isOf", "(II)I"⟩, prog_10_method_34_code, 5, (some .int))
def y_Model_sees : mj_Y := (⟨"GalleryWatchModel", "sees", "(II)I"⟩, prog_10_method_38_code, 3, (some .int))
def y_Model_look : mj_Y := (⟨"GalleryWatchModel", "look", "()V"⟩, prog_10_method_37_code, 3, none)
def y_Model_letsSee : mj_Y := (⟨"GalleryWatchModel", "letsSee", "(II)Z"⟩, prog_10_method_36_code, 6, (some .boolean))
def y_Model_looks : mj_Y := (⟨"GalleryWatchModel", "looks", "(III)Z"⟩, prog_10_method_35_code, 10, (some .boolean))
def y_Model_region : mj_Y := (⟨"GalleryWatchModel", "region", "(I)I"⟩, prog_10_method_39_code, 2, (some .int))
def y_Model_seen : mj_Y := (⟨"GalleryWatchModel", "seen", "(I)I"⟩, prog_10_method_44_code, 4, (some .int))
def y_Model_isSet : mj_Y := (⟨"GalleryWatchModel", "isSet", "(I)Z"⟩, prog_10_method_41_code, 2, (some .boolean))
def y_Model_watchers : mj_Y := (⟨"GalleryWatchModel", "watchers", "(I)I"⟩, prog_10_method_40_code, 2, (some .int))
def y_Model_blind : mj_Y := (⟨"GalleryWatchModel", "blind", "(I)I"⟩, prog_10_method_43_code, 3, (some .int))
def y_Model_unseenBy : mj_Y := (⟨"GalleryWatchModel", "unseenBy", "(I)I"⟩, prog_10_method_42_code, 3, (some .int))
def y_Model_spare : mj_Y := (⟨"GalleryWatchModel", "spare", "(I)I"⟩, prog_10_method_45_code, 5, (some .int))
def y_Model_fewest : mj_Y := (⟨"GalleryWatchModel", "fewest", "()I"⟩, prog_10_method_49_code, 1, (some .int))
def y_Model_seek : mj_Y := (⟨"GalleryWatchModel", "seek", "()V"⟩, prog_10_method_48_code, 4, none)
def y_Model_manyOf : mj_Y := (⟨"GalleryWatchModel", "manyOf", "(I)I"⟩, prog_10_method_46_code, 3, (some .int))
def y_Model_isFirst : mj_Y := (⟨"GalleryWatchModel", "isFirst", "(II)Z"⟩, prog_10_method_47_code, 3, (some .boolean))
def y_Model_choose : mj_Y := (⟨"GalleryWatchModel", "choose", "()I"⟩, prog_10_method_50_code, 1, (some .int))
def y_Model_many : mj_Y := (⟨"GalleryWatchModel", "many", "()I"⟩, prog_10_method_51_code, 1, (some .int))
def y_Model_only : mj_Y := (⟨"GalleryWatchModel", "only", "()I"⟩, prog_10_method_52_code, 4, (some .int))
def y_Model_sneak : mj_Y := (⟨"GalleryWatchModel", "sneak", "(II)I"⟩, prog_10_method_56_code, 3, (some .int))
def y_Model_walk : mj_Y := (⟨"GalleryWatchModel", "walk", "(I)V"⟩, prog_10_method_55_code, 6, none)
def y_Model_isUnseen : mj_Y := (⟨"GalleryWatchModel", "isUnseen", "(I)Z"⟩, prog_10_method_53_code, 2, (some .boolean))
def y_Model_areNeighbours : mj_Y := (⟨"GalleryWatchModel", "areNeighbours", "(II)Z"⟩, prog_10_method_54_code, 5, (some .boolean))
def y_Model_way : mj_Y := (⟨"GalleryWatchModel", "way", "(III)I"⟩, prog_10_method_57_code, 7, (some .int))
def y_Model_hides : mj_Y := (⟨"GalleryWatchModel", "hides", "()I"⟩, prog_10_method_58_code, 4, (some .int))
def y_Model_tree : mj_Y := (⟨"GalleryWatchModel", "tree", "(I)I"⟩, prog_10_method_60_code, 3, (some .int))
def y_Model_make : mj_Y := (⟨"GalleryWatchModel", "make", "(IIII)V"⟩, prog_10_method_59_code, 7, none)
def y_Model_row : mj_Y := (⟨"GalleryWatchModel", "row", "(II)I"⟩, prog_10_method_62_code, 3, (some .int))
def y_Model_below : mj_Y := (⟨"GalleryWatchModel", "below", "(I)I"⟩, prog_10_method_61_code, 4, (some .int))
def y_Model_forge : mj_Y := (⟨"GalleryWatchModel", "forge", "(II)I"⟩, prog_10_method_63_code, 4, (some .int))
def y_Model_check : mj_Y := (⟨"GalleryWatchModel", "check", "()I"⟩, prog_10_method_66_code, 2, (some .int))
def y_Model_isRight : mj_Y := (⟨"GalleryWatchModel", "isRight", "(I)Z"⟩, prog_10_method_65_code, 3, (some .boolean))
def y_Model_postsBelow : mj_Y := (⟨"GalleryWatchModel", "postsBelow", "(I)I"⟩, prog_10_method_64_code, 4, (some .int))
def y_Model_count : mj_Y := (⟨"GalleryWatchModel", "count", "(I)I"⟩, prog_10_method_67_code, 4, (some .int))
def y_Law_law : mj_Y := (x, code, 4, ret)
end
section
/-! THE SMALL MACHINE: a run of the program's methods over cells that are numbered as they are made.
A cell: an array (0 int, 1 long, 2 boolean, 3 of Post, 4 of Room; length, contents) or an object (class, fields).
'.ref k' is the k-th cell, '.float 0' the static array KINDS_OF, '.float 1' the script. -/
abbrev mj_C : Type := Option ((Nat × vp_A) ⊕ (Nat × List Value))
abbrev mj_H : Type := (Nat → mj_C) × Nat × Nat
abbrev mj_L : Type := List (Option Value)
abbrev mj_R : Type := Option Value × mj_H
abbrev mj_P : Type := mj_Y → Nat → mj_L → List Value → mj_H → mj_R → Prop
abbrev mj_X : Type := Nat × (Nat → Int32)
abbrev mj_O (ci : Nat) (fs : List Value) : mj_C := some (.inr (ci, fs))
abbrev mj_AI (n : Nat) (g : Nat → Int32) : mj_C := some (.inl (0, n, .inl g))
abbrev mj_AZ (n : Nat) (g : Nat → Int32) : mj_C := some (.inl (2, n, .inl g))
abbrev mj_AJ (n : Nat) (g : Nat → Int64) : mj_C := some (.inl (1, n, .inr (.inl g)))
abbrev mj_AR (t n : Nat) (g : Nat → Option Nat) : mj_C := some (.inl (t, n, .inr (.inr (.inr (.inr g)))))
def mj_al : List Value → mj_L
  | [] => []
  | v :: r => if v.category = 2 then some v :: none :: mj_al r else some v :: mj_al r
def mj_en (y : mj_Y) (as : List Value) : mj_L := mj_al as ++ List.replicate (y.2.2.1 - (mj_al as).length) none
/-- kinds of values: 0 int, 1 long, 2 reference -/
def mj_cat : Nat → Value → Bool
  | 0, .int _ => true
  | 1, .long _ => true
  | 2, .ref _ => true
  | 2, .null => true
  | 2, .float _ => true
  | _, _ => false
def mj_set (ls : mj_L) (i : Nat) (v : Value) : mj_L := if v.category = 2 then (ls.set i (some v)).set (i + 1) none else ls.set i (some v)
def mj_isL : Option (Option Value) → Bool
  | some (some v) => v.category == 2
  | _ => false
def mj_ok (ls : mj_L) (i c : Nat) : Bool := (if c = 1 then decide (i + 1 < ls.length) else decide (i < ls.length)) && (i == 0 || !mj_isL ls[i - 1]?)
/-- the classes of the arrays of references: their tag, the class of what they hold -/
def mj_ct : Nat → Nat
  | 3 => 2
  | _ => 4
def mj_kd : Nat → Int32
  | 0 => 1
  | 1 => 3
  | 2 => 5
  | 3 => 13
  | _ => 19
def mj_cs (st : List Value) : Nat := (st.map fun v => v.category).sum
def mj_nmC (ci : Nat) : String := (mj_cl.getD ci ("", mj_T0, 0)).1
def mj_fld (ci k : Nat) : String × String × String × Bool := (mj_cl.getD ci ("", mj_T0, 0)).2.1 k
def mj_nf (ci : Nat) : Nat := (mj_cl.getD ci ("", mj_T0, 0)).2.2
/-! what stands at a place of a method, with what the tables say of it -/
def mj_Kc (y : mj_Y) (pc len : Nat) (v : Value) : Prop :=
  (∃ n, decode y.2.1 pc = .ok (.iconst n, 1) ∧ len = 1 ∧ v = .int (Int32.ofInt n)) ∨
  (∃ n, decode y.2.1 pc = .ok (.bipush n, 2) ∧ len = 2 ∧ v = .int (Int8.ofInt n).toInt32) ∨
  (∃ n, decode y.2.1 pc = .ok (.sipush n, 3) ∧ len = 3 ∧ v = .int (Int16.ofInt n).toInt32) ∨
  (∃ i k, decode y.2.1 pc = .ok (.ldc i, 2) ∧ len = 2 ∧ v = .int k ∧ Cond.constant y.1.cls i k ∈ mj_tb) ∨
  (∃ i k, decode y.2.1 pc = .ok (.ldc_w i, 3) ∧ len = 3 ∧ v = .int k ∧ Cond.constant y.1.cls i k ∈ mj_tb) ∨
  (∃ n : Fin 2, decode y.2.1 pc = .ok (.lconst n, 1) ∧ len = 1 ∧ v = .long (Int64.ofNat n)) ∨
  (∃ i k, decode y.2.1 pc = .ok (.ldc2_w i, 3) ∧ len = 3 ∧ v = .long k ∧ Cond.constantLong y.1.cls i k ∈ mj_tb) ∨
  (decode y.2.1 pc = .ok (.aconst_null, 1) ∧ len = 1 ∧ v = .null)
def mj_Ld (y : mj_Y) (pc len i c : Nat) : Prop :=
  (c = 0 ∧ ((len = 2 ∧ decode y.2.1 pc = .ok (.iload i, 2)) ∨ (len = 1 ∧ ∃ k : Fin 4, (k : Nat) = i ∧ decode y.2.1 pc = .ok (.iload_n k, 1)))) ∨
  (c = 1 ∧ ((len = 2 ∧ decode y.2.1 pc = .ok (.lload i, 2)) ∨ (len = 1 ∧ ∃ k : Fin 4, (k : Nat) = i ∧ decode y.2.1 pc = .ok (.lload_n k, 1)))) ∨
  (c = 2 ∧ ((len = 2 ∧ decode y.2.1 pc = .ok (.aload i, 2)) ∨ (len = 1 ∧ ∃ k : Fin 4, (k : Nat) = i ∧ decode y.2.1 pc = .ok (.aload_n k, 1))))
def mj_St (y : mj_Y) (pc len i c : Nat) : Prop :=
  (c = 0 ∧ ((len = 2 ∧ decode y.2.1 pc = .ok (.istore i, 2)) ∨ (len = 1 ∧ ∃ k : Fin 4, (k : Nat) = i ∧ decode y.2.1 pc = .ok (.istore_n k, 1)))) ∨
  (c = 1 ∧ ((len = 2 ∧ decode y.2.1 pc = .ok (.lstore i, 2)) ∨ (len = 1 ∧ ∃ k : Fin 4, (k : Nat) = i ∧ decode y.2.1 pc = .ok (.lstore_n k, 1)))) ∨
  (c = 2 ∧ ((len = 2 ∧ decode y.2.1 pc = .ok (.astore i, 2)) ∨ (len = 1 ∧ ∃ k : Fin 4, (k : Nat) = i ∧ decode y.2.1 pc = .ok (.astore_n k, 1))))
def mj_In (y : mj_Y) (pc i : Nat) (n : Int32) : Prop := ∃ k, decode y.2.1 pc = .ok (.iinc i k, 3) ∧ n = Int32.ofInt k
def mj_B2 (y : mj_Y) (pc : Nat) (op : Int32 → Int32 → Int32) : Prop :=
  (decode y.2.1 pc = .ok (.iadd, 1) ∧ op = fun a b => a + b) ∨
  (decode y.2.1 pc = .ok (.isub, 1) ∧ op = fun a b => a - b) ∨
  (decode y.2.1 pc = .ok (.imul, 1) ∧ op = fun a b => a * b) ∨
  (decode y.2.1 pc = .ok (.iand, 1) ∧ op = fun a b => a &&& b) ∨
  (decode y.2.1 pc = .ok (.ior, 1) ∧ op = fun a b => a ||| b) ∨
  (decode y.2.1 pc = .ok (.ixor, 1) ∧ op = fun a b => a ^^^ b) ∨
  (decode y.2.1 pc = .ok (.ishl, 1) ∧ op = fun (a b : Int32) => a <<< (b &&& 31)) ∨
  (decode y.2.1 pc = .ok (.ishr, 1) ∧ op = fun (a b : Int32) => a >>> (b &&& 31)) ∨
  (decode y.2.1 pc = .ok (.iushr, 1) ∧ op = fun a b => (a.toUInt32 >>> (b.toUInt32 &&& Int32.toUInt32 31)).toInt32)
def mj_D2 (y : mj_Y) (pc : Nat) (op : Int32 → Int32 → Int32) : Prop :=
  (decode y.2.1 pc = .ok (.idiv, 1) ∧ op = fun a b => a / b) ∨
  (decode y.2.1 pc = .ok (.irem, 1) ∧ op = fun a b => a - a / b * b)
def mj_BL (y : mj_Y) (pc : Nat) (op : Int64 → Int64 → Int64) : Prop :=
  (decode y.2.1 pc = .ok (.lor, 1) ∧ op = fun a b => a ||| b) ∨
  (decode y.2.1 pc = .ok (.land, 1) ∧ op = fun a b => a &&& b) ∨
  (decode y.2.1 pc = .ok (.lxor, 1) ∧ op = fun a b => a ^^^ b)
def mj_If (y : mj_Y) (pc tgt : Nat) (cn : Int32 → Prop) : Prop := ∃ off : Int, (pc : Int) + off = (tgt : Int) ∧ (
  (decode y.2.1 pc = .ok (.ifCond .eq off, 3) ∧ cn = fun a => a = 0) ∨
  (decode y.2.1 pc = .ok (.ifCond .ne off, 3) ∧ cn = fun a => ¬ a = 0) ∨
  (decode y.2.1 pc = .ok (.ifCond .lt off, 3) ∧ cn = fun a => a < 0) ∨
  (decode y.2.1 pc = .ok (.ifCond .ge off, 3) ∧ cn = fun a => 0 ≤ a) ∨
  (decode y.2.1 pc = .ok (.ifCond .gt off, 3) ∧ cn = fun a => 0 < a) ∨
  (decode y.2.1 pc = .ok (.ifCond .le off, 3) ∧ cn = fun a => a ≤ 0))
def mj_Ic (y : mj_Y) (pc tgt : Nat) (cn : Int32 → Int32 → Prop) : Prop := ∃ off : Int, (pc : Int) + off = (tgt : Int) ∧ (
  (decode y.2.1 pc = .ok (.if_icmp .eq off, 3) ∧ cn = fun a b => a = b) ∨
  (decode y.2.1 pc = .ok (.if_icmp .ne off, 3) ∧ cn = fun a b => ¬ a = b) ∨
  (decode y.2.1 pc = .ok (.if_icmp .lt off, 3) ∧ cn = fun a b => a < b) ∨
  (decode y.2.1 pc = .ok (.if_icmp .ge off, 3) ∧ cn = fun a b => b ≤ a) ∨
  (decode y.2.1 pc = .ok (.if_icmp .gt off, 3) ∧ cn = fun a b => b < a) ∨
  (decode y.2.1 pc = .ok (.if_icmp .le off, 3) ∧ cn = fun a b => a ≤ b))
def mj_Go (y : mj_Y) (pc tgt : Nat) : Prop := ∃ off : Int, (pc : Int) + off = (tgt : Int) ∧ decode y.2.1 pc = .ok (.goto off, 3)
/-- ifnull (b true), ifnonnull (b false) -/
def mj_Nu (y : mj_Y) (pc tgt : Nat) (b : Bool) : Prop := ∃ off : Int, (pc : Int) + off = (tgt : Int) ∧ ((b = true ∧ decode y.2.1 pc = .ok (.ifnull off, 3)) ∨ (b = false ∧ decode y.2.1 pc = .ok (.ifnonnull off, 3)))
def mj_Sw (y : mj_Y) (pc : Nat) (k : Int32) (tgt : Nat) : Prop := ∃ (dflt lo hi : Int) (offs : Array Int) (len : Nat), decode y.2.1 pc = .ok (.tableswitch dflt lo hi offs, len) ∧
  (((k.toInt < lo ∨ hi < k.toInt) ∧ (pc : Int) + dflt = (tgt : Int)) ∨ (¬ k.toInt < lo ∧ ¬ hi < k.toInt ∧ ∃ off : Int, offs[(k.toInt - lo).toNat]? = some off ∧ (pc : Int) + off = (tgt : Int)))
def mj_Gf (y : mj_Y) (pc ci k : Nat) : Prop := ci < 9 ∧ k < mj_nf ci ∧ ∃ i, decode y.2.1 pc = .ok (.getfield i, 3) ∧
  (Cond.fieldLink y.1.cls i (mj_nmC ci) (mj_fld ci k).2.1 (mj_fld ci k).2.2.1 ∈ mj_tb ∨ ∃ h, Cond.fieldLinkNest y.1.cls i (mj_nmC ci) (mj_fld ci k).2.1 (mj_fld ci k).2.2.1 h ∈ mj_tb)
def mj_Pf (y : mj_Y) (pc ci k : Nat) (ty : FieldType) : Prop := ci < 9 ∧ k < mj_nf ci ∧ ∃ i, decode y.2.1 pc = .ok (.putfield i, 3) ∧
  Cond.fieldLink y.1.cls i (mj_nmC ci) (mj_fld ci k).2.1 (mj_fld ci k).2.2.1 ∈ mj_tb ∧ parseFieldDescriptor (mj_fld ci k).2.2.1 = some ty ∧
  ((mj_fld ci k).2.2.2 = false ∨ ((mj_fld ci k).2.2.2 = true ∧ y.1.name = "<init>" ∧ mj_nmC ci = y.1.cls))
def mj_Gs (y : mj_Y) (pc : Nat) : Prop := ∃ i, decode y.2.1 pc = .ok (.getstatic i, 3) ∧ Cond.fieldLink y.1.cls i "GalleryWatch" "KINDS_OF" "[I" ∈ mj_tb
def mj_Nw (y : mj_Y) (pc ci : Nat) : Prop := ci < 9 ∧ ∃ i, decode y.2.1 pc = .ok (.new i, 3) ∧ Cond.classLink y.1.cls i (mj_nmC ci) ∈ mj_tb ∧ Cond.instantiable (mj_nmC ci) (mj_nf ci) ∈ mj_tb ∧ Cond.initialized (mj_nmC ci) ∈ mj_tb
/-- newarray of ints, longs, booleans -/
def mj_Na (y : mj_Y) (pc t : Nat) : Prop :=
  (t = 0 ∧ decode y.2.1 pc = .ok (.newarray .int, 2)) ∨ (t = 1 ∧ decode y.2.1 pc = .ok (.newarray .long, 2)) ∨ (t = 2 ∧ decode y.2.1 pc = .ok (.newarray .boolean, 2))
def mj_Nq (y : mj_Y) (pc t : Nat) : Prop := (t = 3 ∨ t = 4) ∧ ∃ i, decode y.2.1 pc = .ok (.anewarray i, 3) ∧ Cond.classLink y.1.cls i (mj_nmC (mj_ct t)) ∈ mj_tb
def mj_Oi (y : mj_Y) (pc : Nat) : Prop := ∃ i, decode y.2.1 pc = .ok (.invokespecial i, 3) ∧ Cond.methodLink y.1.cls i objectInit ∈ mj_tb
def mj_Ac (y : mj_Y) (pc : Nat) : Prop := ∃ i, decode y.2.1 pc = .ok (.invokestatic i, 3) ∧ Cond.methodLink y.1.cls i arraycopyName ∈ mj_tb
/-- a method of the tables that may be called, of n arguments (the object itself not counted) -/
def mj_Mt (z : mj_Y) (n : Nat) : Prop := Cond.code z.1 z.2.1 z.2.2.1 z.2.2.2 ∈ mj_tb ∧ Cond.initialized z.1.cls ∈ mj_tb ∧ plainName z.1.cls = true ∧ (z.1.cls ≠ "java/lang/invoke/MethodHandle" ∧ z.1.cls ≠ "java/lang/invoke/VarHandle" ∧ (parseMethodDescriptor z.1.desc).map (fun d => d.parameters.length) = some n) ∧ z.2.2.1 ≤ 45
def mj_Cv (y : mj_Y) (pc : Nat) (z : mj_Y) (ci n : Nat) : Prop := ci < 9 ∧ mj_nmC ci = z.1.cls ∧ mj_Mt z n ∧ ∃ i, decode y.2.1 pc = .ok (.invokevirtual i, 3) ∧ Cond.methodLink y.1.cls i z.1 ∈ mj_tb ∧ Cond.instanceMethod z.1 ∈ mj_tb ∧ Cond.selects z.1.cls z.1 z.1 ∈ mj_tb
def mj_Cs (y : mj_Y) (pc : Nat) (z : mj_Y) (n : Nat) : Prop := mj_Mt z n ∧ ∃ i, decode y.2.1 pc = .ok (.invokestatic i, 3) ∧ Cond.static z.1 ∈ mj_tb ∧ (Cond.methodLink y.1.cls i z.1 ∈ mj_tb ∨ ∃ h, Cond.methodLinkNest y.1.cls i z.1 h ∈ mj_tb)
def mj_Ci (y : mj_Y) (pc : Nat) (z : mj_Y) (n : Nat) : Prop := mj_Mt z n ∧ z.1.name = "<init>" ∧ z.2.2.2 = none ∧ ∃ i, decode y.2.1 pc = .ok (.invokespecial i, 3) ∧ Cond.instanceMethod z.1 ∈ mj_tb ∧ (Cond.methodLink y.1.cls i z.1 ∈ mj_tb ∨ ∃ h, Cond.methodLinkNest y.1.cls i z.1 h ∈ mj_tb)
def mj_Rt (y : mj_Y) (pc : Nat) (v : Option Value) : Prop :=
  (∃ k ty, v = some (.int k) ∧ decode y.2.1 pc = .ok (.ireturn, 1) ∧ y.2.2.2 = some ty ∧ narrow ty (.int k) = .int k) ∨
  (∃ k, v = some (.long k) ∧ decode y.2.1 pc = .ok (.lreturn, 1) ∧ y.2.2.2 = some .long) ∨
  (∃ r n, v = some (va_rf r) ∧ decode y.2.1 pc = .ok (.areturn, 1) ∧ y.2.2.2 = some (.object n)) ∨
  (v = none ∧ decode y.2.1 pc = .ok (.return_, 1) ∧ y.2.2.2 = none)
/-! the rules: what a run is closed under -/
def mj_c (X : mj_X) (CR : mj_Y → List Value → mj_H → mj_R → Prop) (P : mj_P) : Nat → Prop
  | 0 => ∀ y pc len v ls st σ r, mj_Kc y pc len v → P y (pc + len) ls (v :: st) σ r → P y pc ls st σ r
  | 1 => ∀ y pc len i c v ls st σ r, mj_Ld y pc len i c → ls[i]? = some (some v) → mj_cat c v = true → P y (pc + len) ls (v :: st) σ r → P y pc ls st σ r
  | 2 => ∀ y pc len i c v ls st σ r, mj_St y pc len i c → mj_cat c v = true → mj_ok ls i c = true → P y (pc + len) (mj_set ls i v) st σ r → P y pc ls (v :: st) σ r
  | 3 => ∀ y pc i n v ls st σ r, mj_In y pc i n → ls[i]? = some (some (.int v)) → mj_ok ls i 0 = true → P y (pc + 3) (ls.set i (some (.int (v + n)))) st σ r → P y pc ls st σ r
  | 4 => ∀ y pc op a b ls st σ r, mj_B2 y pc op → P y (pc + 1) ls (.int (op a b) :: st) σ r → P y pc ls (.int b :: .int a :: st) σ r
  | 5 => ∀ y pc op a b ls st σ r, mj_D2 y pc op → ¬ b = 0 → P y (pc + 1) ls (.int (op a b) :: st) σ r → P y pc ls (.int b :: .int a :: st) σ r
  | 6 => ∀ y pc a ls st σ r, decode y.2.1 pc = .ok (.ineg, 1) → P y (pc + 1) ls (.int (-a) :: st) σ r → P y pc ls (.int a :: st) σ r
  | 7 => ∀ y pc op a b ls st σ r, mj_BL y pc op → P y (pc + 1) ls (.long (op a b) :: st) σ r → P y pc ls (.long b :: .long a :: st) σ r
  | 8 => ∀ y pc (a : Int64) (b : Int32) ls st σ r, decode y.2.1 pc = .ok (.lshl, 1) → P y (pc + 1) ls (.long (a <<< (b.toInt64 &&& 63)) :: st) σ r → P y pc ls (.int b :: .long a :: st) σ r
  | 9 => ∀ y pc a b ls st σ r, decode y.2.1 pc = .ok (.lcmp, 1) → P y (pc + 1) ls (.int (lg_cmp a b) :: st) σ r → P y pc ls (.long b :: .long a :: st) σ r
  | 10 => ∀ y pc (v : Value) ls st σ r, decode y.2.1 pc = .ok (.dup, 1) → v.category = 1 → P y (pc + 1) ls (v :: v :: st) σ r → P y pc ls (v :: st) σ r
  | 11 => ∀ y pc (v w : Value) ls st σ r, decode y.2.1 pc = .ok (.dup2, 1) → v.category = 1 → w.category = 1 → P y (pc + 1) ls (v :: w :: v :: w :: st) σ r → P y pc ls (v :: w :: st) σ r
  | 12 => ∀ y pc tgt cn (a : Int32) ls st σ r, mj_If y pc tgt cn → cn a → P y tgt ls st σ r → P y pc ls (.int a :: st) σ r
  | 13 => ∀ y pc tgt cn (a : Int32) ls st σ r, mj_If y pc tgt cn → ¬ cn a → P y (pc + 3) ls st σ r → P y pc ls (.int a :: st) σ r
  | 14 => ∀ y pc tgt cn (a b : Int32) ls st σ r, mj_Ic y pc tgt cn → cn a b → P y tgt ls st σ r → P y pc ls (.int b :: .int a :: st) σ r
  | 15 => ∀ y pc tgt cn (a b : Int32) ls st σ r, mj_Ic y pc tgt cn → ¬ cn a b → P y (pc + 3) ls st σ r → P y pc ls (.int b :: .int a :: st) σ r
  | 16 => ∀ y pc tgt ls st σ r, mj_Go y pc tgt → P y tgt ls st σ r → P y pc ls st σ r
  | 17 => ∀ y pc tgt b (a : Option Nat) ls st σ r, mj_Nu y pc tgt b → P y (if a.isNone = b then tgt else pc + 3) ls st σ r → P y pc ls (va_rf a :: st) σ r
  | 18 => ∀ y pc k tgt ls st σ r, mj_Sw y pc k tgt → P y tgt ls st σ r → P y pc ls (.int k :: st) σ r
  | 19 => ∀ y pc ci k a fs v ls st (σ : mj_H) r, mj_Gf y pc ci k → σ.1 a = mj_O ci fs → fs[k]? = some v → P y (pc + 3) ls (v :: st) σ r → P y pc ls (.ref a :: st) σ r
  | 20 => ∀ y pc ci k ty a fs v ls st (σ : mj_H) r, mj_Pf y pc ci k ty → σ.1 a = mj_O ci fs → k < fs.length → narrow ty v = v → fits ty v = true → (∀ z, v ≠ .float z) → P y (pc + 3) ls st (va_up σ.1 a (mj_O ci (fs.set k v)), σ.2) r → P y pc ls (v :: .ref a :: st) σ r
  | 21 => ∀ y pc a n g (i : Int32) ls st (σ : mj_H) r, decode y.2.1 pc = .ok (.iaload, 1) → σ.1 a = mj_AI n g → vp_in i n → P y (pc + 1) ls (.int (g i.toNatClampNeg) :: st) σ r → P y pc ls (.int i :: .ref a :: st) σ r
  | 22 => ∀ y pc a n g (i w : Int32) ls st (σ : mj_H) r, decode y.2.1 pc = .ok (.iastore, 1) → σ.1 a = mj_AI n g → vp_in i n → P y (pc + 1) ls st (va_up σ.1 a (mj_AI n (upd g i.toNatClampNeg w)), σ.2) r → P y pc ls (.int w :: .int i :: .ref a :: st) σ r
  | 23 => ∀ y pc a n g (i : Int32) ls st (σ : mj_H) r, decode y.2.1 pc = .ok (.baload, 1) → σ.1 a = mj_AZ n g → vp_in i n → P y (pc + 1) ls (.int (g i.toNatClampNeg) :: st) σ r → P y pc ls (.int i :: .ref a :: st) σ r
  | 24 => ∀ y pc a n g (i w : Int32) ls st (σ : mj_H) r, decode y.2.1 pc = .ok (.bastore, 1) → σ.1 a = mj_AZ n g → vp_in i n → vp_nar .boolean w = w → P y (pc + 1) ls st (va_up σ.1 a (mj_AZ n (upd g i.toNatClampNeg w)), σ.2) r → P y pc ls (.int w :: .int i :: .ref a :: st) σ r
  | 25 => ∀ y pc a n g (i : Int32) ls st (σ : mj_H) r, decode y.2.1 pc = .ok (.laload, 1) → σ.1 a = mj_AJ n g → vp_in i n → P y (pc + 1) ls (.long (g i.toNatClampNeg) :: st) σ r → P y pc ls (.int i :: .ref a :: st) σ r
  | 26 => ∀ y pc a n g (i : Int32) (w : Int64) ls st (σ : mj_H) r, decode y.2.1 pc = .ok (.lastore, 1) → σ.1 a = mj_AJ n g → vp_in i n → P y (pc + 1) ls st (va_up σ.1 a (mj_AJ n (vp_updL g i.toNatClampNeg w)), σ.2) r → P y pc ls (.long w :: .int i :: .ref a :: st) σ r
  | 27 => ∀ y pc a t n g (i : Int32) ls st (σ : mj_H) r, decode y.2.1 pc = .ok (.aaload, 1) → (t = 3 ∨ t = 4) → σ.1 a = mj_AR t n g → vp_in i n → P y (pc + 1) ls (va_rf (g i.toNatClampNeg) :: st) σ r → P y pc ls (.int i :: .ref a :: st) σ r
  | 28 => ∀ y pc a t n g (i : Int32) (w : Option Nat) ls st (σ : mj_H) r, decode y.2.1 pc = .ok (.aastore, 1) → (t = 3 ∨ t = 4) → σ.1 a = mj_AR t n g → vp_in i n → (∀ k, w = some k → ∃ fs, σ.1 k = mj_O (mj_ct t) fs) → P y (pc + 1) ls st (va_up σ.1 a (mj_AR t n (va_up g i.toNatClampNeg w)), σ.2) r → P y pc ls (va_rf w :: .int i :: .ref a :: st) σ r
  | 29 => ∀ y pc a t (x : vp_A) ls st (σ : mj_H) r, decode y.2.1 pc = .ok (.arraylength, 1) → t < 5 → σ.1 a = some (.inl (t, x)) → P y (pc + 1) ls (.int (Int32.ofNat x.1) :: st) σ r → P y pc ls (.ref a :: st) σ r
  | 30 => ∀ y pc ci ls st (σ : mj_H) r, mj_Nw y pc ci → P y (pc + 3) ls (.ref σ.2.1 :: st) (va_up σ.1 σ.2.1 (mj_O ci (mj_df.getD ci [])), σ.2.1 + 1, σ.2.2 + mj_nf ci) r → P y pc ls st σ r
  | 31 => ∀ y pc t (n : Int32) ls st (σ : mj_H) r, mj_Na y pc t → ¬ n < 0 → n.toNatClampNeg ≤ 10000 → P y (pc + 2) ls (.ref σ.2.1 :: st) (va_up σ.1 σ.2.1 (some (.inl (t, n.toNatClampNeg, if t = 1 then .inr (.inl fun _ => 0) else .inl fun _ => 0))), σ.2.1 + 1, σ.2.2 + n.toNatClampNeg) r → P y pc ls (.int n :: st) σ r
  | 32 => ∀ y pc t (n : Int32) ls st (σ : mj_H) r, mj_Nq y pc t → ¬ n < 0 → n.toNatClampNeg ≤ 10000 → P y (pc + 3) ls (.ref σ.2.1 :: st) (va_up σ.1 σ.2.1 (mj_AR t n.toNatClampNeg fun _ => none), σ.2.1 + 1, σ.2.2 + n.toNatClampNeg) r → P y pc ls (.int n :: st) σ r
  | 33 => ∀ y pc ls st σ r, mj_Gs y pc → P y (pc + 3) ls (.float 0 :: st) σ r → P y pc ls st σ r
  | 34 => ∀ y pc (i : Int32) ls st σ r, decode y.2.1 pc = .ok (.iaload, 1) → vp_in i 5 → P y (pc + 1) ls (.int (mj_kd i.toNatClampNeg) :: st) σ r → P y pc ls (.int i :: .float 0 :: st) σ r
  | 35 => ∀ y pc ls st σ r, decode y.2.1 pc = .ok (.arraylength, 1) → P y (pc + 1) ls (.int 5 :: st) σ r → P y pc ls (.float 0 :: st) σ r
  | 36 => ∀ y pc (i : Int32) ls st σ r, decode y.2.1 pc = .ok (.iaload, 1) → vp_in i X.1 → P y (pc + 1) ls (.int (X.2 i.toNatClampNeg) :: st) σ r → P y pc ls (.int i :: .float 1 :: st) σ r
  | 37 => ∀ y pc ls st σ r, decode y.2.1 pc = .ok (.arraylength, 1) → P y (pc + 1) ls (.int (Int32.ofNat X.1) :: st) σ r → P y pc ls (.float 1 :: st) σ r
  | 38 => ∀ y pc a ls st σ r, mj_Oi y pc → mj_cs st ≤ 8 → P y (pc + 3) ls st σ r → P y pc ls (.ref a :: st) σ r
  | 39 => ∀ y pc a0 a n0 n1 f g (sp dp n : Int32) ls st (σ : mj_H) r, mj_Ac y pc → mj_cs st ≤ 8 → σ.1 a0 = mj_AI n0 f → σ.1 a = mj_AI n1 g → ¬ sp < 0 → ¬ dp < 0 → ¬ n < 0 → sp.toNatClampNeg + n.toNatClampNeg ≤ n0 → dp.toNatClampNeg + n.toNatClampNeg ≤ n1 →
      P y (pc + 3) ls st (va_up σ.1 a (mj_AI n1 (va_cpy f g sp.toNatClampNeg dp.toNatClampNeg n.toNatClampNeg)), σ.2) r → P y pc ls (.int n :: .int dp :: .ref a :: .int sp :: .ref a0 :: st) σ r
  | 40 => ∀ y pc a0 a t n0 n1 f g (sp dp n : Int32) ls st (σ : mj_H) r, mj_Ac y pc → mj_cs st ≤ 8 → (t = 3 ∨ t = 4) → σ.1 a0 = mj_AR t n0 f → σ.1 a = mj_AR t n1 g → ¬ sp < 0 → ¬ dp < 0 → ¬ n < 0 → sp.toNatClampNeg + n.toNatClampNeg ≤ n0 → dp.toNatClampNeg + n.toNatClampNeg ≤ n1 →
      (∀ i : Nat, i < n.toNatClampNeg → ∀ k : Nat, f (sp.toNatClampNeg + i) = some k → ∃ fs, σ.1 k = mj_O (mj_ct t) fs) → P y (pc + 3) ls st (va_up σ.1 a (mj_AR t n1 (va_cpy f g sp.toNatClampNeg dp.toNatClampNeg n.toNatClampNeg)), σ.2) r → P y pc ls (.int n :: .int dp :: .ref a :: .int sp :: .ref a0 :: st) σ r
  | 41 => ∀ y pc ls (v : Option Value) σ, mj_Rt y pc v → P y pc ls v.toList σ (v, σ)
  | 42 => ∀ y pc z ci n a fs as ls st rest (σ σ' : mj_H) v r, mj_Cv y pc z ci n → σ.1 a = mj_O ci fs → as.length = n → st = as.reverse ++ .ref a :: rest → mj_cs rest ≤ 8 → (mj_al (.ref a :: as)).length ≤ z.2.2.1 → CR z (.ref a :: as) σ (v, σ') → P y (pc + 3) ls (v.toList ++ rest) σ' r → P y pc ls st σ r
  | 43 => ∀ y pc z n as ls st rest (σ σ' : mj_H) v r, mj_Cs y pc z n → as.length = n → st = as.reverse ++ rest → mj_cs rest ≤ 8 → (mj_al as).length ≤ z.2.2.1 → CR z as σ (v, σ') → P y (pc + 3) ls (v.toList ++ rest) σ' r → P y pc ls st σ r
  | 44 => ∀ y pc z n a as ls st rest (σ σ' : mj_H) v r, mj_Ci y pc z n → as.length = n → st = as.reverse ++ .ref a :: rest → mj_cs rest ≤ 8 → (mj_al (.ref a :: as)).length ≤ z.2.2.1 → CR z (.ref a :: as) σ (v, σ') → P y (pc + 3) ls (v.toList ++ rest) σ' r → P y pc ls st σ r
  | _ => True
def mj_Run (X : mj_X) : Nat → mj_P
  | 0 => fun y pc ls st σ r => ∀ P : mj_P, (∀ t, mj_c X (fun _ _ _ _ => False) P t) → P y pc ls st σ r
  | d + 1 => fun y pc ls st σ r => ∀ P : mj_P, (∀ t, mj_c X (fun z as σ r => mj_Run X d z 0 (mj_en z as) [] σ r) P t) → P y pc ls st σ r
end
section
/-! WHAT A RUN OF THE SMALL MACHINE SAYS OF THE MACHINE -/
/-- where the cells lie: from b on; KINDS_OF, the script; the classes' numbers; the arrays' classes; the script's ints -/
abbrev mj_G : Type := Nat × Nat × Nat × va_G × (Nat → ClassId) × mj_X
def mj_cv (G : mj_G) : Value → Value
  | .ref k => .ref (G.1 + k)
  | .float z => if z = 0 then .ref G.2.1 else .ref G.2.2.1
  | v => v
def mj_cA (G : mj_G) (a : vp_A) : vp_A := match a with
  | (n, .inr (.inr (.inr (.inr g)))) => (n, .inr (.inr (.inr (.inr fun i => (g i).map (G.1 + ·)))))
  | a => a
def mj_ce (G : mj_G) : mj_C → va_E
  | none => .inr (0, [])
  | some (.inl (t, a)) => .inl (G.2.2.2.2.1 t, mj_cA G a)
  | some (.inr (ci, fs)) => .inr (ci, fs.map (mj_cv G))
def mj_ws (G : mj_G) (σ : mj_H) : va_W := (List.range σ.2.1).map fun k => (G.1 + k, mj_ce G (σ.1 k))
def mj_A (G : mj_G) : Nat → Prop := fun q => G.1 ≤ q
def mj_at : Nat → FieldType
  | 0 => .int
  | 1 => .long
  | 2 => .boolean
  | 3 => .object "GalleryWatch$Post"
  | _ => .object "GalleryWatch$Room"
def mj_tys (G : mj_G) : List (ClassId × FieldType) := (List.range 5).map fun t => (G.2.2.2.2.1 t, mj_at t)
def mj_Nn (U : State) : Prop := (∀ w ∈ mj_tb, mj_nest w = true → va_Nw w U) ∧ va_AO "GalleryWatch$Post" U ∧ va_AO "GalleryWatch$Room" U
def mj_Am (G : mj_G) (U : State) : Prop := va_K G.2.2.2.1 mj_cl (mj_tys G) U ∧ va_Z "GalleryWatch" "KINDS_OF" "[I" (.ref G.2.1) (mj_A G) U U.heap ∧
  va_T .int G.2.1 5 (fun j => .int (mj_kd j)) (mj_A G) U U.heap ∧ va_X G.2.2.1 G.2.2.2.2.2.1 G.2.2.2.2.2.2 U U.heap ∧ G.2.2.1 < G.1 ∧ mj_Nn U
def mj_lv (G : mj_G) (lsR : Array Slot) (nL : Nat) (ls : mj_L) : Prop := lsR.size = nL ∧ lv_wf lsR ∧ ls.length ≤ nL ∧ ∀ (i : Nat) (v : Value), ls[i]? = some (some v) → lsR[i]? = some (.val (mj_cv G v))
def mj_w (σ : mj_H) : Prop := ∀ k, σ.2.1 ≤ k → σ.1 k = none
def mj_Cx (G : mj_G) (y : mj_Y) (d : Nat) (p : Program) (R : Room) (s : State) (m : MethodId) (args : Array Value) (meth : Method) (c : Code) (n0 : Nat) : Prop :=
  p.tables.exec = Jvm.exec ∧ c.code = y.2.1 ∧ meth.sig.returnType = y.2.2.2 ∧ c.maxLocals = y.2.2.1 ∧ s.vm.findClass y.1.cls = some m.cls ∧ (∀ w ∈ mj_tb, w.before args s = true) ∧
  (y.1.name = "<init>" → meth.name = "<init>") ∧ meth.locks = false ∧ mj_Am G s ∧ s.heap.size = G.1 + n0 ∧ d + 1 ≤ R.frames ∧ 64 * d + 200 ≤ R.locals
abbrev mj_WW (l : Launch) (p : Program) (e : Env) (R : Room) (s : State) (m : MethodId) (args : Array Value) (below : List Frame) (meth : Method) (c : Code) (Q : State → Prop) (n0 q0 : Nat) (H : Heap) (locs : List Loc) (σ : mj_H) (g : JFrame) : Prop :=
  W p l e R s m args below meth c H locs (σ.2.1 - n0) (σ.2.2 - q0) Q g
def mj_So (l : Launch) (G : mj_G) (d : Nat) : mj_P := fun y pc ls st σ r =>
  (mj_w σ → σ.2.1 ≤ r.2.2.1 ∧ σ.2.2 ≤ r.2.2.2 ∧ mj_w r.2) ∧
  ∀ (p : Program) (e : Env) (R : Room) (s : State) (m : MethodId) (args : Array Value) (below : List Frame) (meth : Method) (c : Code) (Q : State → Prop) (n0 q0 : Nat),
    mj_Cx G y d p R s m args meth c n0 → mj_w σ → n0 ≤ σ.2.1 → q0 ≤ σ.2.2 → (r.2.2.1 - n0 ≤ R.cells ∧ r.2.2.2 - q0 ≤ R.slots) →
    (∀ (pcr : Nat) (lsR : Array Slot) (H : Heap) (locs : List Loc), mj_Rt y pcr r.1 → va_P G.2.2.2.1 mj_cl (mj_ws G r.2) H → va_S (mj_A G) s.heap H locs →
      mj_WW l p e R s m args below meth c Q n0 q0 H locs r.2 (F0 m pcr lsR (r.1.toList.map (mj_cv G)))) →
    ∀ (H : Heap) (locs : List Loc) (lsR : Array Slot), mj_lv G lsR y.2.2.1 ls → va_P G.2.2.2.1 mj_cl (mj_ws G σ) H → va_S (mj_A G) s.heap H locs →
      mj_WW l p e R s m args below meth c Q n0 q0 H locs σ (F0 m pc lsR (st.map (mj_cv G)))
/-! small facts -/
theorem mj_ws_at (G : mj_G) {σ : mj_H} (hw : mj_w σ) {k : Nat} {c : ((Nat × vp_A) ⊕ (Nat × List Value))} (h : σ.1 k = some c) : (mj_ws G σ)[k]? = some (G.1 + k, mj_ce G (some c)) := by
  have hk : k < σ.2.1 := by
    rcases Nat.lt_or_ge k σ.2.1 with q | q
    · exact q
    · rw [hw k q] at h; cases h
  simp [mj_ws, List.getElem?_map, List.getElem?_range hk, h]
theorem mj_ws_D (G : mj_G) (σ : mj_H) : va_D (mj_A G) (mj_ws G σ) := by
  have key : ∀ (k : Nat) (q : Nat × va_E), (mj_ws G σ)[k]? = some q → q.1 = G.1 + k := by
    intro k q hk
    simp only [mj_ws, List.getElem?_map] at hk
    rcases Nat.lt_or_ge k σ.2.1 with h | h
    · rw [List.getElem?_range h] at hk
      cases hk
      rfl
    · rw [List.getElem?_eq_none (by simpa using h)] at hk
      cases hk
  refine ⟨fun i j x y hi hj hxy => ?_, fun k q hk => ?_⟩
  · have h1 := key i x hi
    have h2 := key j y hj
    omega
  · show G.1 ≤ q.1
    rw [key k q hk]
    omega
theorem mj_ws_len (G : mj_G) (σ : mj_H) : (mj_ws G σ).length = σ.2.1 := by simp [mj_ws]
theorem mj_ws_set (G : mj_G) {σ : mj_H} {a : Nat} (c : mj_C) : mj_ws G (va_up σ.1 a c, σ.2) = (mj_ws G σ).set a (G.1 + a, mj_ce G c) := by
  apply List.ext_getElem?
  intro i
  simp only [mj_ws, List.getElem?_map, List.getElem?_set, List.length_map, List.length_range]
  rcases Nat.lt_or_ge i σ.2.1 with h | h
  · rw [List.getElem?_range h]
    by_cases e : a = i
    · subst e
      simp [h, va_up]
    · rw [if_neg e]
      have e2 : ¬ i = a := fun q => e q.symm
      simp [va_up, e2]
  · rw [List.getElem?_eq_none (by simpa using h)]
    by_cases e : a = i
    · subst e
      simp; omega
    · rw [if_neg e]; rfl
theorem mj_ws_push (G : mj_G) {σ : mj_H} (c : mj_C) (q : Nat) : mj_ws G (va_up σ.1 σ.2.1 c, σ.2.1 + 1, q) = mj_ws G σ ++ [(G.1 + σ.2.1, mj_ce G c)] := by
  simp only [mj_ws, List.range_succ, List.map_append, List.map_cons, List.map_nil]
  congr 1
  · apply List.map_congr_left
    intro k hk
    have : k ≠ σ.2.1 := Nat.ne_of_lt (List.mem_range.mp hk)
    simp [va_up, this]
  · simp [va_up]
theorem mj_w_set {σ : mj_H} (hw : mj_w σ) {a : Nat} {c0 : ((Nat × vp_A) ⊕ (Nat × List Value))} (h : σ.1 a = some c0) (c : mj_C) : mj_w (va_up σ.1 a c, σ.2) := by
  intro k hk
  have hne : k ≠ a := fun e => by subst e; rw [hw k hk] at h; cases h
  show va_up σ.1 a c k = none
  rw [va_up_ne _ _ hne]
  exact hw k hk
theorem mj_w_push {σ : mj_H} (hw : mj_w σ) (c : mj_C) (q : Nat) : mj_w (va_up σ.1 σ.2.1 c, σ.2.1 + 1, q) := by
  intro k hk
  have hk : σ.2.1 + 1 ≤ k := hk
  show va_up σ.1 σ.2.1 c k = none
  rw [va_up_ne _ _ (by omega)]
  exact hw k (by omega)
theorem mj_cv_cat (G : mj_G) (v : Value) : (mj_cv G v).category = v.category := by
  cases v with
  | float z =>
    show (if z = 0 then Value.ref G.2.1 else Value.ref G.2.2.1).category = 1
    split <;> rfl
  | _ => rfl
theorem mj_cs_map (G : mj_G) (st : List Value) : ((st.map (mj_cv G)).map fun v => v.category).sum = mj_cs st := by
  simp only [mj_cs, List.map_map]
  congr 1
  apply List.map_congr_left
  intro v _
  exact mj_cv_cat G v
theorem mj_cv_rf (G : mj_G) (r : Option Nat) : mj_cv G (va_rf r) = va_rf (r.map (G.1 + ·)) := by
  cases r <;> rfl
theorem mj_size {p : Program} {l : Launch} {e : Env} {R : Room} {s : State} {m : MethodId} {args : Array Value} {below : List Frame} {meth : Method} {c : Code} {H : Heap} {locs : List Loc} {cells slots : Nat} {Q : State → Prop} {g : JFrame}
    (h : H.size ≤ s.heap.size + cells → W p l e R s m args below meth c H locs cells slots Q g) : W p l e R s m args below meth c H locs cells slots Q g := by
  intro T hT X
  exact h (by have := X.same.2.2.1; rw [← hT]; exact this) T hT X
theorem mj_size_eq {G : mj_G} {σ : mj_H} {H H0 : Heap} {locs : List Loc} {n0 cells : Nat} (hP : va_P G.2.2.2.1 mj_cl (mj_ws G σ) H) (hS : va_S (mj_A G) H0 H locs) (h0 : H0.size = G.1 + n0) (hn : n0 ≤ σ.2.1) (hc : cells = σ.2.1 - n0) (h : H.size ≤ H0.size + cells) : H.size = G.1 + σ.2.1 := by
  rcases Nat.eq_zero_or_pos σ.2.1 with q | q
  · have := hS.1
    omega
  · have hl : σ.2.1 - 1 < σ.2.1 := by omega
    have hk : (mj_ws G σ)[σ.2.1 - 1]? = some (G.1 + (σ.2.1 - 1), mj_ce G (σ.1 (σ.2.1 - 1))) := by
      simp [mj_ws, List.getElem?_map, List.getElem?_range hl]
    have := (hP _ _ hk).lt
    have h2 : G.1 + (σ.2.1 - 1) < H.size := this
    omega
theorem mj_Nn_warm {s U : State} (hW : s.WarmedH U.vm) (h : mj_Nn s) : mj_Nn U := by
  refine ⟨fun w hw hn => ?_, h.2.1.moved hW.alike, h.2.2.moved hW.alike⟩
  have h1 := h.1 w hw hn
  cases w <;> first | exact va_Nw.warmF hW h1 | exact va_Nw.warmM hW h1 | (simp [mj_nest] at hn)
theorem mj_Nn_same {s U : State} (hW : s.vm = U.vm) (h : mj_Nn s) : mj_Nn U := by
  refine ⟨fun w hw hn => ?_, h.2.1.moved (by rw [hW]; exact Vm.Alike.refl _), h.2.2.moved (by rw [hW]; exact Vm.Alike.refl _)⟩
  have h1 := h.1 w hw hn
  cases w <;> first | exact va_Nw.same rfl hW h1 | (simp [mj_nest] at hn)
theorem mj_Am_moved {G : mj_G} {s U : State} {locs : List Loc} (h : mj_Am G s) (hvm : s.vm.Alike U.vm) (hN : mj_Nn U) (hS : va_S (mj_A G) s.heap U.heap locs) : mj_Am G U := by
  obtain ⟨h1, h2, h3, h4, h5, -⟩ := h
  have hb : G.2.2.1 < s.heap.size := by
    obtain ⟨scr, q, -⟩ := h4
    exact (Array.getElem?_eq_some_iff.mp q).1
  exact ⟨h1.moved hvm, (h2.moved hvm).kept hS.2.1, (h3.moved hvm).kept hS.2.1, (h4.moved hvm).kept (hS.2.1 _ hb (by show ¬ G.1 ≤ _; omega)), h5, hN⟩
/-- a step that changes the stack alone -/
theorem mj_up {l : Launch} {G : mj_G} {d : Nat} {y : mj_Y} {pc pc' : Nat} {ls : mj_L} {st st' : List Value} {σ : mj_H} {r : mj_R}
    (h : ∀ (p : Program) (e : Env) (R : Room) (s : State) (m : MethodId) (args : Array Value) (below : List Frame) (meth : Method) (c : Code) (Q : State → Prop) (n0 : Nat) (cells slots : Nat) (H : Heap) (locs : List Loc) (lsR : Array Slot),
      mj_Cx G y d p R s m args meth c n0 → mj_w σ → mj_lv G lsR y.2.2.1 ls → va_P G.2.2.2.1 mj_cl (mj_ws G σ) H → va_S (mj_A G) s.heap H locs →
      W p l e R s m args below meth c H locs cells slots Q (F0 m pc' lsR (st'.map (mj_cv G))) → W p l e R s m args below meth c H locs cells slots Q (F0 m pc lsR (st.map (mj_cv G))))
    (k : mj_So l G d y pc' ls st' σ r) : mj_So l G d y pc ls st σ r :=
  ⟨k.1, fun p e R s m args below meth c Q n0 q0 hc hw h1 h2 h3 hret H locs lsR hl hP hS => h p e R s m args below meth c Q n0 _ _ H locs lsR hc hw hl hP hS (k.2 p e R s m args below meth c Q n0 q0 hc hw h1 h2 h3 hret H locs lsR hl hP hS)⟩
end
section
/-! the rules of the stack, the locals and the ways, one by one -/
section MS1
variable {l : Launch} {G : mj_G} {d : Nat}
theorem mj_cat0 {v : Value} (h : mj_cat 0 v = true) : ∃ k, v = .int k := by cases v <;> simp [mj_cat] at h ⊢
theorem mj_cat1 {v : Value} (h : mj_cat 1 v = true) : ∃ k, v = .long k := by cases v <;> simp [mj_cat] at h ⊢
theorem mj_cat2 (G : mj_G) {v : Value} (h : mj_cat 2 v = true) : mj_cv G v = .null ∨ ∃ a, mj_cv G v = .ref a := by
  cases v with
  | null => exact .inl rfl
  | ref a => exact .inr ⟨_, rfl⟩
  | float z =>
    refine .inr ?_
    by_cases e : z = 0
    · exact ⟨G.2.1, by simp [mj_cv, e]⟩
    · exact ⟨G.2.2.1, by simp [mj_cv, e]⟩
  | int _ => simp [mj_cat] at h
  | long _ => simp [mj_cat] at h
  | double _ => simp [mj_cat] at h
  | retAddr _ => simp [mj_cat] at h
theorem mj_cat2c {v : Value} (h : mj_cat 2 v = true) : v.category = 1 := by
  cases v <;> first | rfl | simp [mj_cat] at h
theorem mj_s0 : ∀ y pc len v ls st σ r, mj_Kc y pc len v → mj_So l G d y (pc + len) ls (v :: st) σ r → mj_So l G d y pc ls st σ r := by
  intro y pc len v ls st σ r hk k
  refine mj_up (fun p e R s m args below meth c Q n0 cells slots H locs lsR hc hw hl hP hS w => ?_) k
  obtain ⟨hx, hb, hr, hml, hown, hts, -⟩ := hc
  rcases hk with ⟨n, hd, rfl, rfl⟩ | ⟨n, hd, rfl, rfl⟩ | ⟨n, hd, rfl, rfl⟩ | ⟨i, n, hd, rfl, rfl, hm⟩ | ⟨i, n, hd, rfl, rfl, hm⟩ | ⟨n, hd, rfl, rfl⟩ | ⟨i, n, hd, rfl, rfl, hm⟩ | ⟨hd, rfl, rfl⟩
  · exact lv_iconst hx hb hd rfl w
  · exact lv_bipush hx hb hd rfl w
  · exact lv_sipush hx hb hd rfl w
  · exact lv_ldc hx hb hown (hts _ hm) hd w
  · exact lv_ldcw hx hb hown (hts _ hm) hd w
  · exact lv_lconst hx hb hd rfl w
  · exact lv_ldc2 hx hb hown (hts _ hm) hd w
  · exact lv_null hx hb hd w
theorem mj_s1 : ∀ y pc len i c v ls st σ r, mj_Ld y pc len i c → ls[i]? = some (some v) → mj_cat c v = true → mj_So l G d y (pc + len) ls (v :: st) σ r → mj_So l G d y pc ls st σ r := by
  intro y pc len i ct v ls st σ r hk hi hcat k
  refine mj_up (fun p e R s m args below meth c Q n0 cells slots H locs lsR hc hw hl hP hS w => ?_) k
  obtain ⟨hx, hb, -⟩ := hc
  have hv := hl.2.2.2 i v hi
  have w : W p l e R s m args below meth c H locs cells slots Q (F0 m (pc + len) lsR (mj_cv G v :: st.map (mj_cv G))) := w
  rcases hk with ⟨rfl, hk⟩ | ⟨rfl, hk⟩ | ⟨rfl, hk⟩
  · obtain ⟨z, rfl⟩ := mj_cat0 hcat
    rcases hk with ⟨rfl, hd⟩ | ⟨rfl, f, hf, hd⟩
    · exact lv_iload hx hb hd hv w
    · exact lv_iload_n hx hb hd hf hv w
  · obtain ⟨z, rfl⟩ := mj_cat1 hcat
    rcases hk with ⟨rfl, hd⟩ | ⟨rfl, f, hf, hd⟩
    · exact lv_lload hx hb hd hv w
    · exact lv_lload_n hx hb hd hf hv w
  · rcases mj_cat2 G hcat with q | ⟨a, q⟩
    · rw [q] at hv w
      rcases hk with ⟨rfl, hd⟩ | ⟨rfl, f, hf, hd⟩
      · exact lv_aloadN hx hb hd hv w
      · exact lv_aload_nN hx hb hd hf hv w
    · rw [q] at hv w
      rcases hk with ⟨rfl, hd⟩ | ⟨rfl, f, hf, hd⟩
      · exact lv_aload hx hb hd hv w
      · exact lv_aload_n hx hb hd hf hv w
def mj_ll (G : mj_G) (ls : mj_L) : List (Nat × Value) := (List.range ls.length).filterMap fun i => (ls.getD i none).map fun v => (i, mj_cv G v)
theorem mj_ll_mem {ls : mj_L} {q : Nat × Value} : q ∈ mj_ll G ls ↔ ∃ v, ls[q.1]? = some (some v) ∧ q.2 = mj_cv G v := by
  obtain ⟨i, u⟩ := q
  simp only [mj_ll, List.mem_filterMap, List.mem_range]
  constructor
  · rintro ⟨j, hj, h⟩
    cases hg : ls.getD j none with
    | none => rw [hg] at h; cases h
    | some v =>
      rw [hg] at h
      cases h
      refine ⟨v, ?_, rfl⟩
      rw [List.getD_eq_getElem?_getD, List.getElem?_eq_getElem hj] at hg
      rw [List.getElem?_eq_getElem hj]
      exact congrArg some hg
  · rintro ⟨v, h, e⟩
    have hj := (List.getElem?_eq_some_iff.mp h).1
    refine ⟨i, hj, ?_⟩
    rw [List.getD_eq_getElem?_getD, h]
    simp only [Option.getD_some, Option.map_some]
    rw [← e]
theorem mj_lv_has {lsR : Array Slot} {nL : Nat} {ls : mj_L} (h : mj_lv G lsR nL ls) : lv_has lsR nL (mj_ll G ls) := by
  refine ⟨h.1, h.2.1, fun q hq => ?_⟩
  obtain ⟨v, h1, h2⟩ := mj_ll_mem.mp hq
  rw [h2]
  exact h.2.2.2 q.1 v h1
theorem mj_ok_lt {ls : mj_L} {i c : Nat} (h : mj_ok ls i c = true) : i < ls.length ∧ (c = 1 → i + 1 < ls.length) ∧ ∀ j v, j + 1 = i → ls[j]? = some (some v) → ¬ v.category = 2 := by
  simp only [mj_ok, Bool.and_eq_true, Bool.or_eq_true, beq_iff_eq, Bool.not_eq_true'] at h
  obtain ⟨h1, h2⟩ := h
  refine ⟨?_, ?_, ?_⟩
  · split at h1 <;> simp at h1 <;> omega
  · intro e
    rw [if_pos e] at h1
    simpa using h1
  · intro j v hj hv hcat
    rcases h2 with h2 | h2
    · omega
    · rw [show i - 1 = j by omega, hv] at h2
      simp [mj_isL, hcat] at h2
theorem mj_lv_st1 {lsR ls' : Array Slot} {nL i c : Nat} {v : Value} {ls : mj_L} (h : mj_lv G lsR nL ls) (ho : mj_ok ls i c = true) (hcat : v.category = 1)
    (h2 : lv_has ls' nL ((i, mj_cv G v) :: (mj_ll G ls).filter (fun q => !(q.1 == i) && !(q.1 + 1 == i && q.2.category == 2)))) : mj_lv G ls' nL (mj_set ls i v) := by
  obtain ⟨o1, o2, o3⟩ := mj_ok_lt ho
  have e : mj_set ls i v = ls.set i (some v) := by rw [mj_set, if_neg (by omega)]
  rw [e]
  refine ⟨h2.1, h2.2.1, by rw [List.length_set]; exact h.2.2.1, fun j u hj => ?_⟩
  by_cases q : i = j
  · subst q
    rw [List.getElem?_set_self o1] at hj
    cases hj
    exact h2.2.2 (i, mj_cv G v) List.mem_cons_self
  · rw [List.getElem?_set_ne q] at hj
    refine h2.2.2 (j, mj_cv G u) (List.mem_cons_of_mem _ (List.mem_filter.mpr ⟨mj_ll_mem.mpr ⟨u, hj, rfl⟩, ?_⟩))
    have q2 : ¬ j = i := fun z => q z.symm
    by_cases e1 : j + 1 = i
    · have := o3 j u e1 hj
      simp [q2, e1, mj_cv_cat, this]
    · simp [q2, e1]
theorem mj_lv_st2 {lsR ls' : Array Slot} {nL i : Nat} {v : Value} {ls : mj_L} (h : mj_lv G lsR nL ls) (ho : mj_ok ls i 1 = true) (hcat : v.category = 2)
    (h2 : lv_has ls' nL ((i, mj_cv G v) :: (mj_ll G ls).filter (fun q => !(q.1 == i) && (!(q.1 == i + 1) && !(q.1 + 1 == i && q.2.category == 2))))) : mj_lv G ls' nL (mj_set ls i v) := by
  obtain ⟨o1, o2, o3⟩ := mj_ok_lt ho
  have e : mj_set ls i v = (ls.set i (some v)).set (i + 1) none := by rw [mj_set, if_pos hcat]
  rw [e]
  refine ⟨h2.1, h2.2.1, by rw [List.length_set, List.length_set]; exact h.2.2.1, fun j u hj => ?_⟩
  by_cases q1 : i + 1 = j
  · subst q1
    rw [List.getElem?_set_self (by rw [List.length_set]; exact o2 rfl)] at hj
    cases hj
  · rw [List.getElem?_set_ne q1] at hj
    by_cases q : i = j
    · subst q
      rw [List.getElem?_set_self o1] at hj
      cases hj
      exact h2.2.2 (i, mj_cv G v) List.mem_cons_self
    · rw [List.getElem?_set_ne q] at hj
      refine h2.2.2 (j, mj_cv G u) (List.mem_cons_of_mem _ (List.mem_filter.mpr ⟨mj_ll_mem.mpr ⟨u, hj, rfl⟩, ?_⟩))
      have q2 : ¬ j = i := fun z => q z.symm
      have q3 : ¬ j = i + 1 := fun z => q1 z.symm
      by_cases e1 : j + 1 = i
      · have := o3 j u e1 hj
        simp [q2, q3, e1, mj_cv_cat, this]
      · simp [q2, q3, e1]
theorem mj_s2 : ∀ y pc len i c v ls st σ r, mj_St y pc len i c → mj_cat c v = true → mj_ok ls i c = true → mj_So l G d y (pc + len) (mj_set ls i v) st σ r → mj_So l G d y pc ls (v :: st) σ r := by
  intro y pc len i ct v ls st σ r hk hcat ho k
  refine ⟨k.1, fun p e R s m args below meth c Q n0 q0 hc hw h1 h2 h3 hret H locs lsR hl hP hS => ?_⟩
  have k2 : ∀ lsN : Array Slot, mj_lv G lsN y.2.2.1 (mj_set ls i v) → mj_WW l p e R s m args below meth c Q n0 q0 H locs σ (F0 m (pc + len) lsN (st.map (mj_cv G))) := fun lsN hN => k.2 p e R s m args below meth c Q n0 q0 hc hw h1 h2 h3 hret H locs lsN hN hP hS
  obtain ⟨hx, hb, -⟩ := hc
  have hh := mj_lv_has hl
  have hlt : i < y.2.2.1 := Nat.lt_of_lt_of_le (mj_ok_lt ho).1 hl.2.2.1
  show W p l e R s m args below meth c H locs _ _ Q (F0 m pc lsR (mj_cv G v :: st.map (mj_cv G)))
  rcases hk with ⟨rfl, hk⟩ | ⟨rfl, hk⟩ | ⟨rfl, hk⟩
  · obtain ⟨z, rfl⟩ := mj_cat0 hcat
    rcases hk with ⟨rfl, hd⟩ | ⟨rfl, f, hf, hd⟩
    · exact lv_istore hx hb hd hh hlt rfl (fun lsN hN => k2 lsN (mj_lv_st1 hl ho rfl hN))
    · exact lv_istore_n hx hb hd hf hh hlt rfl (fun lsN hN => k2 lsN (mj_lv_st1 hl ho rfl hN))
  · obtain ⟨z, rfl⟩ := mj_cat1 hcat
    have hlt2 : i + 1 < y.2.2.1 := Nat.lt_of_lt_of_le ((mj_ok_lt ho).2.1 rfl) hl.2.2.1
    rcases hk with ⟨rfl, hd⟩ | ⟨rfl, f, hf, hd⟩
    · exact lv_lstore hx hb hd hh hlt2 rfl (fun lsN hN => k2 lsN (mj_lv_st2 hl ho rfl hN))
    · exact lv_lstore_n hx hb hd hf hh hlt2 rfl (fun lsN hN => k2 lsN (mj_lv_st2 hl ho rfl hN))
  · have hc1 := mj_cat2c hcat
    rcases mj_cat2 G hcat with q | ⟨a, q⟩
    · rw [q]
      have k3 : ∀ lsN : Array Slot, lv_has lsN y.2.2.1 ((i, Value.null) :: (mj_ll G ls).filter (fun q => !(q.1 == i) && !(q.1 + 1 == i && q.2.category == 2))) → mj_WW l p e R s m args below meth c Q n0 q0 H locs σ (F0 m (pc + len) lsN (st.map (mj_cv G))) := fun lsN hN => k2 lsN (mj_lv_st1 hl ho hc1 (by rw [q]; exact hN))
      rcases hk with ⟨rfl, hd⟩ | ⟨rfl, f, hf, hd⟩
      · exact lv_astoreN hx hb hd hh hlt rfl k3
      · exact lv_astore_nN hx hb hd hf hh hlt rfl k3
    · rw [q]
      have k3 : ∀ lsN : Array Slot, lv_has lsN y.2.2.1 ((i, Value.ref a) :: (mj_ll G ls).filter (fun q => !(q.1 == i) && !(q.1 + 1 == i && q.2.category == 2))) → mj_WW l p e R s m args below meth c Q n0 q0 H locs σ (F0 m (pc + len) lsN (st.map (mj_cv G))) := fun lsN hN => k2 lsN (mj_lv_st1 hl ho hc1 (by rw [q]; exact hN))
      rcases hk with ⟨rfl, hd⟩ | ⟨rfl, f, hf, hd⟩
      · exact lv_astore hx hb hd hh hlt rfl k3
      · exact lv_astore_n hx hb hd hf hh hlt rfl k3
theorem mj_s3 : ∀ y pc i n v ls st σ r, mj_In y pc i n → ls[i]? = some (some (.int v)) → mj_ok ls i 0 = true → mj_So l G d y (pc + 3) (ls.set i (some (.int (v + n)))) st σ r → mj_So l G d y pc ls st σ r := by
  rintro y pc i n v ls st σ r ⟨j, hd, rfl⟩ hi ho k
  refine ⟨k.1, fun p e R s m args below meth c Q n0 q0 hc hw h1 h2 h3 hret H locs lsR hl hP hS => ?_⟩
  have k2 := fun lsN hN => k.2 p e R s m args below meth c Q n0 q0 hc hw h1 h2 h3 hret H locs lsN hN hP hS
  obtain ⟨hx, hb, -⟩ := hc
  have hh := mj_lv_has hl
  have hlt : i < y.2.2.1 := Nat.lt_of_lt_of_le (mj_ok_lt ho).1 hl.2.2.1
  obtain ⟨q, hq⟩ := List.getElem?_of_mem (mj_ll_mem (G := G) (ls := ls) (q := (i, .int v)) |>.mpr ⟨.int v, hi, rfl⟩)
  exact lv_iinc hx hb hd hh hq rfl hlt rfl (fun lsN hN => k2 lsN (mj_lv_st1 (v := .int (v + Int32.ofInt j)) hl ho rfl hN))
theorem mj_s4 : ∀ y pc op a b ls st σ r, mj_B2 y pc op → mj_So l G d y (pc + 1) ls (.int (op a b) :: st) σ r → mj_So l G d y pc ls (.int b :: .int a :: st) σ r := by
  intro y pc op a b ls st σ r hk k
  refine mj_up (fun p e R s m args below meth c Q n0 cells slots H locs lsR hc hw hl hP hS w => ?_) k
  obtain ⟨hx, hb, -⟩ := hc
  rcases hk with ⟨hd, rfl⟩ | ⟨hd, rfl⟩ | ⟨hd, rfl⟩ | ⟨hd, rfl⟩ | ⟨hd, rfl⟩ | ⟨hd, rfl⟩ | ⟨hd, rfl⟩ | ⟨hd, rfl⟩ | ⟨hd, rfl⟩
  · exact lv_iadd hx hb hd w
  · exact lv_isub hx hb hd w
  · exact lv_imul hx hb hd w
  · exact lv_iand hx hb hd w
  · exact lv_ior hx hb hd w
  · exact lv_ixor hx hb hd w
  · exact lv_ishl hx hb hd w
  · exact lv_ishr hx hb hd w
  · exact lv_iushr hx hb hd rfl w
theorem mj_s5 : ∀ y pc op a b ls st σ r, mj_D2 y pc op → ¬ b = 0 → mj_So l G d y (pc + 1) ls (.int (op a b) :: st) σ r → mj_So l G d y pc ls (.int b :: .int a :: st) σ r := by
  intro y pc op a b ls st σ r hk hne k
  refine mj_up (fun p e R s m args below meth c Q n0 cells slots H locs lsR hc hw hl hP hS w => ?_) k
  obtain ⟨hx, hb, -⟩ := hc
  rcases hk with ⟨hd, rfl⟩ | ⟨hd, rfl⟩
  · exact lv_idiv hx hb hd hne w
  · exact lv_irem hx hb hd hne w
theorem mj_s6 : ∀ y pc a ls st σ r, decode y.2.1 pc = .ok (.ineg, 1) → mj_So l G d y (pc + 1) ls (.int (-a) :: st) σ r → mj_So l G d y pc ls (.int a :: st) σ r := by
  intro y pc a ls st σ r hd k
  refine mj_up (fun p e R s m args below meth c Q n0 cells slots H locs lsR hc hw hl hP hS w => ?_) k
  exact lv_ineg hc.1 hc.2.1 hd w
theorem mj_s7 : ∀ y pc op a b ls st σ r, mj_BL y pc op → mj_So l G d y (pc + 1) ls (.long (op a b) :: st) σ r → mj_So l G d y pc ls (.long b :: .long a :: st) σ r := by
  intro y pc op a b ls st σ r hk k
  refine mj_up (fun p e R s m args below meth c Q n0 cells slots H locs lsR hc hw hl hP hS w => ?_) k
  rcases hk with ⟨hd, rfl⟩ | ⟨hd, rfl⟩ | ⟨hd, rfl⟩
  · exact lv_lor hc.1 hc.2.1 hd w
  · exact lv_land hc.1 hc.2.1 hd w
  · exact lv_lxor hc.1 hc.2.1 hd w
theorem mj_s8 : ∀ y pc (a : Int64) (b : Int32) ls st σ r, decode y.2.1 pc = .ok (.lshl, 1) → mj_So l G d y (pc + 1) ls (.long (a <<< (b.toInt64 &&& 63)) :: st) σ r → mj_So l G d y pc ls (.int b :: .long a :: st) σ r := by
  intro y pc a b ls st σ r hd k
  refine mj_up (fun p e R s m args below meth c Q n0 cells slots H locs lsR hc hw hl hP hS w => ?_) k
  exact lv_lshl hc.1 hc.2.1 hd rfl w
theorem mj_s9 : ∀ y pc a b ls st σ r, decode y.2.1 pc = .ok (.lcmp, 1) → mj_So l G d y (pc + 1) ls (.int (lg_cmp a b) :: st) σ r → mj_So l G d y pc ls (.long b :: .long a :: st) σ r := by
  intro y pc a b ls st σ r hd k
  refine mj_up (fun p e R s m args below meth c Q n0 cells slots H locs lsR hc hw hl hP hS w => ?_) k
  exact W.lcmp hc.1 hc.2.1 hd w
theorem mj_s10 : ∀ y pc (v : Value) ls st σ r, decode y.2.1 pc = .ok (.dup, 1) → v.category = 1 → mj_So l G d y (pc + 1) ls (v :: v :: st) σ r → mj_So l G d y pc ls (v :: st) σ r := by
  intro y pc v ls st σ r hd hv k
  refine mj_up (fun p e R s m args below meth c Q n0 cells slots H locs lsR hc hw hl hP hS w => ?_) k
  exact lv_dup hc.1 hc.2.1 hd (by rw [mj_cv_cat]; exact hv) w
theorem mj_s11 : ∀ y pc (v w : Value) ls st σ r, decode y.2.1 pc = .ok (.dup2, 1) → v.category = 1 → w.category = 1 → mj_So l G d y (pc + 1) ls (v :: w :: v :: w :: st) σ r → mj_So l G d y pc ls (v :: w :: st) σ r := by
  intro y pc v w ls st σ r hd hv hw2 k
  refine mj_up (fun p e R s m args below meth c Q n0 cells slots H locs lsR hc hw hl hP hS w => ?_) k
  exact lv_dup2_11 hc.1 hc.2.1 hd (by rw [mj_cv_cat]; exact hv) (by rw [mj_cv_cat]; exact hw2) w
theorem mj_s12 : ∀ y pc tgt cn (a : Int32) ls st σ r, mj_If y pc tgt cn → cn a → mj_So l G d y tgt ls st σ r → mj_So l G d y pc ls (.int a :: st) σ r := by
  rintro y pc tgt cn a ls st σ r ⟨off, ho, hk⟩ ha k
  refine mj_up (fun p e R s m args below meth c Q n0 cells slots H locs lsR hc hw hl hP hS w => ?_) k
  rcases hk with ⟨hd, rfl⟩ | ⟨hd, rfl⟩ | ⟨hd, rfl⟩ | ⟨hd, rfl⟩ | ⟨hd, rfl⟩ | ⟨hd, rfl⟩
  · exact lv_if_eq hc.1 hc.2.1 hd ho (fun _ => w) (fun q => absurd ha q)
  · exact lv_if_ne hc.1 hc.2.1 hd ho (fun _ => w) (fun q => absurd q ha)
  · exact lv_if_lt hc.1 hc.2.1 hd ho (fun _ => w) (fun q => absurd ha q)
  · exact lv_if_ge hc.1 hc.2.1 hd ho (fun _ => w) (fun q => absurd ha q)
  · exact lv_if_gt hc.1 hc.2.1 hd ho (fun _ => w) (fun q => absurd ha q)
  · exact lv_if_le hc.1 hc.2.1 hd ho (fun _ => w) (fun q => absurd ha q)
theorem mj_s13 : ∀ y pc tgt cn (a : Int32) ls st σ r, mj_If y pc tgt cn → ¬ cn a → mj_So l G d y (pc + 3) ls st σ r → mj_So l G d y pc ls (.int a :: st) σ r := by
  rintro y pc tgt cn a ls st σ r ⟨off, ho, hk⟩ ha k
  refine mj_up (fun p e R s m args below meth c Q n0 cells slots H locs lsR hc hw hl hP hS w => ?_) k
  rcases hk with ⟨hd, rfl⟩ | ⟨hd, rfl⟩ | ⟨hd, rfl⟩ | ⟨hd, rfl⟩ | ⟨hd, rfl⟩ | ⟨hd, rfl⟩
  · exact lv_if_eq hc.1 hc.2.1 hd ho (fun q => absurd q ha) (fun _ => w)
  · exact lv_if_ne hc.1 hc.2.1 hd ho (fun q => absurd q ha) (fun _ => w)
  · exact lv_if_lt hc.1 hc.2.1 hd ho (fun q => absurd q ha) (fun _ => w)
  · exact lv_if_ge hc.1 hc.2.1 hd ho (fun q => absurd q ha) (fun _ => w)
  · exact lv_if_gt hc.1 hc.2.1 hd ho (fun q => absurd q ha) (fun _ => w)
  · exact lv_if_le hc.1 hc.2.1 hd ho (fun q => absurd q ha) (fun _ => w)
theorem mj_s14 : ∀ y pc tgt cn (a b : Int32) ls st σ r, mj_Ic y pc tgt cn → cn a b → mj_So l G d y tgt ls st σ r → mj_So l G d y pc ls (.int b :: .int a :: st) σ r := by
  rintro y pc tgt cn a b ls st σ r ⟨off, ho, hk⟩ ha k
  refine mj_up (fun p e R s m args below meth c Q n0 cells slots H locs lsR hc hw hl hP hS w => ?_) k
  rcases hk with ⟨hd, rfl⟩ | ⟨hd, rfl⟩ | ⟨hd, rfl⟩ | ⟨hd, rfl⟩ | ⟨hd, rfl⟩ | ⟨hd, rfl⟩
  · exact lv_icmp_eq hc.1 hc.2.1 hd ho (fun _ => w) (fun q => absurd ha q)
  · exact lv_icmp_ne hc.1 hc.2.1 hd ho (fun _ => w) (fun q => absurd q ha)
  · exact lv_icmp_lt hc.1 hc.2.1 hd ho (fun _ => w) (fun q => absurd ha q)
  · exact lv_icmp_ge hc.1 hc.2.1 hd ho (fun _ => w) (fun q => absurd ha q)
  · exact lv_icmp_gt hc.1 hc.2.1 hd ho (fun _ => w) (fun q => absurd ha q)
  · exact lv_icmp_le hc.1 hc.2.1 hd ho (fun _ => w) (fun q => absurd ha q)
theorem mj_s15 : ∀ y pc tgt cn (a b : Int32) ls st σ r, mj_Ic y pc tgt cn → ¬ cn a b → mj_So l G d y (pc + 3) ls st σ r → mj_So l G d y pc ls (.int b :: .int a :: st) σ r := by
  rintro y pc tgt cn a b ls st σ r ⟨off, ho, hk⟩ ha k
  refine mj_up (fun p e R s m args below meth c Q n0 cells slots H locs lsR hc hw hl hP hS w => ?_) k
  rcases hk with ⟨hd, rfl⟩ | ⟨hd, rfl⟩ | ⟨hd, rfl⟩ | ⟨hd, rfl⟩ | ⟨hd, rfl⟩ | ⟨hd, rfl⟩
  · exact lv_icmp_eq hc.1 hc.2.1 hd ho (fun q => absurd q ha) (fun _ => w)
  · exact lv_icmp_ne hc.1 hc.2.1 hd ho (fun q => absurd q ha) (fun _ => w)
  · exact lv_icmp_lt hc.1 hc.2.1 hd ho (fun q => absurd q ha) (fun _ => w)
  · exact lv_icmp_ge hc.1 hc.2.1 hd ho (fun q => absurd q ha) (fun _ => w)
  · exact lv_icmp_gt hc.1 hc.2.1 hd ho (fun q => absurd q ha) (fun _ => w)
  · exact lv_icmp_le hc.1 hc.2.1 hd ho (fun q => absurd q ha) (fun _ => w)
theorem mj_s16 : ∀ y pc tgt ls st σ r, mj_Go y pc tgt → mj_So l G d y tgt ls st σ r → mj_So l G d y pc ls st σ r := by
  rintro y pc tgt ls st σ r ⟨off, ho, hd⟩ k
  refine mj_up (fun p e R s m args below meth c Q n0 cells slots H locs lsR hc hw hl hP hS w => ?_) k
  exact lv_goto hc.1 hc.2.1 hd ho w
theorem mj_s17 : ∀ y pc tgt b (a : Option Nat) ls st σ r, mj_Nu y pc tgt b → mj_So l G d y (if a.isNone = b then tgt else pc + 3) ls st σ r → mj_So l G d y pc ls (va_rf a :: st) σ r := by
  rintro y pc tgt b a ls st σ r ⟨off, ho, hk⟩ k
  refine mj_up (fun p e R s m args below meth c Q n0 cells slots H locs lsR hc hw hl hP hS w => ?_) k
  rcases hk with ⟨rfl, hd⟩ | ⟨rfl, hd⟩ <;> cases a
  · exact lv_ifnullN hc.1 hc.2.1 hd ho w
  · exact lv_ifnull hc.1 hc.2.1 hd w
  · exact lv_ifnonnullN hc.1 hc.2.1 hd w
  · exact lv_ifnonnull hc.1 hc.2.1 hd ho w
theorem mj_s18 : ∀ y pc k tgt ls st σ r, mj_Sw y pc k tgt → mj_So l G d y tgt ls st σ r → mj_So l G d y pc ls (.int k :: st) σ r := by
  rintro y pc q tgt ls st σ r ⟨dflt, lo, hi, offs, len, hd, hk⟩ k
  refine mj_up (fun p e R s m args below meth c Q n0 cells slots H locs lsR hc hw hl hP hS w => ?_) k
  rcases hk with ⟨h1, h2⟩ | ⟨h1, h2, off, h3, h4⟩
  · exact lv_tableOut hc.1 hc.2.1 hd h1 h2 w
  · exact lv_tableIn hc.1 hc.2.1 hd h1 h2 h3 h4 w
end MS1
end
section
/-! the rules of the heap, one by one -/
theorem mj_cls {ci : Nat} (h : ci < 9) : ∃ (T : u_T) (N : Nat) (ty : Nat → FieldType), mj_cl[ci]? = some (mj_nmC ci, T, N) ∧ N = mj_nf ci ∧ (∀ k, T k = mj_fld ci k) ∧ (∀ w ∈ u_ws (mj_nmC ci) T N, w ∈ mj_tb) ∧ (∀ k, k < N → parseFieldDescriptor (T k).2.2.1 = some (ty k)) ∧
    (∀ a, a < N → ∀ b, b < N → a ≠ b → (T a).2.1 ≠ (T b).2.1) ∧ (∀ k, k < N → (T k).1 = mj_nmC ci) ∧ (∀ j, j < N → defaultValue (ty j) = vp_V (mj_df.getD ci []) j) ∧ ∀ v ∈ mj_df.getD ci [], v = .int 0 ∨ v = .long 0 ∨ v = .null := by
  match ci, h with
  | 0, _ => exact ⟨mj_T0, _, mj_t0, rfl, rfl, fun _ => rfl, mj_in0, mj_ty0, mj_nm0, mj_ow0, by decide +kernel, by decide +kernel⟩
  | 1, _ => exact ⟨mj_T1, _, mj_t1, rfl, rfl, fun _ => rfl, mj_in1, mj_ty1, mj_nm1, mj_ow1, by decide +kernel, by decide +kernel⟩
  | 2, _ => exact ⟨mj_T2, _, mj_t2, rfl, rfl, fun _ => rfl, mj_in2, mj_ty2, mj_nm2, mj_ow2, by decide +kernel, by decide +kernel⟩
  | 3, _ => exact ⟨mj_T3, _, mj_t3, rfl, rfl, fun _ => rfl, mj_in3, mj_ty3, mj_nm3, mj_ow3, by decide +kernel, by decide +kernel⟩
  | 4, _ => exact ⟨mj_T4, _, mj_t4, rfl, rfl, fun _ => rfl, mj_in4, mj_ty4, mj_nm4, mj_ow4, by decide +kernel, by decide +kernel⟩
  | 5, _ => exact ⟨mj_T5, _, mj_t5, rfl, rfl, fun _ => rfl, mj_in5, mj_ty5, mj_nm5, mj_ow5, by decide +kernel, by decide +kernel⟩
  | 6, _ => exact ⟨mj_T6, _, mj_t6, rfl, rfl, fun _ => rfl, mj_in6, mj_ty6, mj_nm6, mj_ow6, by decide +kernel, by decide +kernel⟩
  | 7, _ => exact ⟨mj_T7, _, mj_t7, rfl, rfl, fun _ => rfl, mj_in7, mj_ty7, mj_nm7, mj_ow7, by decide +kernel, by decide +kernel⟩
  | 8, _ => exact ⟨mj_T8, _, mj_t8, rfl, rfl, fun _ => rfl, mj_in8, mj_ty8, mj_nm8, mj_ow8, by decide +kernel, by decide +kernel⟩
theorem mj_narrow (G : mj_G) {ty : FieldType} {v : Value} (h : narrow ty v = v) (hf : ∀ z, v ≠ .float z) : narrow ty (mj_cv G v) = mj_cv G v := by
  cases v with
  | ref a => show narrow ty (.ref (G.1 + a)) = .ref (G.1 + a); cases ty <;> rfl
  | float z => exact absurd rfl (hf z)
  | _ => exact h
theorem mj_fits (G : mj_G) {ty : FieldType} {v : Value} (h : fits ty v = true) (hf : ∀ z, v ≠ .float z) : fits ty (mj_cv G v) = true := by
  cases v with
  | ref a => show fits ty (.ref (G.1 + a)) = true; cases ty <;> first | rfl | exact h
  | float z => exact absurd rfl (hf z)
  | _ => exact h
theorem mj_cA1 (G : mj_G) (a : vp_A) : (mj_cA G a).1 = a.1 := by
  obtain ⟨n, f⟩ := a
  rcases f with f | f | f | f | f <;> rfl
section MS2
variable {l : Launch} {G : mj_G} {d : Nat}
theorem mj_s19 : ∀ y pc ci k a fs v ls st (σ : mj_H) r, mj_Gf y pc ci k → σ.1 a = mj_O ci fs → fs[k]? = some v → mj_So l G d y (pc + 3) ls (v :: st) σ r → mj_So l G d y pc ls (.ref a :: st) σ r := by
  rintro y pc ci k a fs v ls st σ r ⟨hci, hk, i, hd, hw1⟩ hcell hv kk
  refine mj_up (fun p e R s m args below meth c Q n0 cells slots H locs lsR hc hw hl hP hS w => ?_) kk
  obtain ⟨hx, hb, hr, hml, hown, hts, hin, hlk, hAm, -⟩ := hc
  obtain ⟨T, N, ty, c1, rfl, c3, c4, c5, c6, c7, -⟩ := mj_cls hci
  have hat := mj_ws_at G hw hcell
  have hv2 : (fs.map (mj_cv G))[k]? = some (mj_cv G v) := by rw [List.getElem?_map, hv]; rfl
  have hsame : ∀ z, s.fieldFound? (T k).1 (T k).2.1 (T k).2.2.1 = some z → s.fieldFound? (mj_nmC ci) (T k).2.1 (T k).2.2.1 = some z := fun z h => by rw [c7 k hk] at h; exact h
  rw [← c3 k] at hw1
  rcases hw1 with hw1 | ⟨hh, hw1⟩
  · exact va_get hx hb hts c4 hown hAm.1 hP a hat c1 k hk (hts _ hw1) hsame hv2 hd w
  · exact va_getN hx hb hts c4 hown hAm.1 hP a hat c1 k hk (hts _ hw1) hsame hv2 hd w
theorem mj_s20 : ∀ y pc ci k ty a fs v ls st (σ : mj_H) r, mj_Pf y pc ci k ty → σ.1 a = mj_O ci fs → k < fs.length → narrow ty v = v → fits ty v = true → (∀ z, v ≠ .float z) → mj_So l G d y (pc + 3) ls st (va_up σ.1 a (mj_O ci (fs.set k v)), σ.2) r → mj_So l G d y pc ls (v :: .ref a :: st) σ r := by
  rintro y pc ci k ty a fs v ls st σ r ⟨hci, hk, i, hd, hw1, hty, hfin⟩ hcell hlen hn hf hnf kk
  refine ⟨fun hw => kk.1 (mj_w_set hw hcell _), fun p e R s m args below meth c Q n0 q0 hc hw h1 h2 h3 hret H locs lsR hl hP hS => ?_⟩
  have k2 := fun H locs hP hS => kk.2 p e R s m args below meth c Q n0 q0 hc (mj_w_set hw hcell _) h1 h2 h3 hret H locs lsR hl hP hS
  rw [mj_ws_set] at k2
  obtain ⟨hx, hb, hr, hml, hown, hts, hin, hlk, hAm, -⟩ := hc
  obtain ⟨T, N, ty0, c1, rfl, c3, c4, c5, c6, c7, -⟩ := mj_cls hci
  have hat := mj_ws_at G hw hcell
  have hsame : ∀ z, s.fieldFound? (T k).1 (T k).2.1 (T k).2.2.1 = some z → s.fieldFound? (mj_nmC ci) (T k).2.1 (T k).2.2.1 = some z := fun z h => by rw [c7 k hk] at h; exact h
  rw [← c3 k] at hw1 hty hfin
  have k3 : ∀ (H1 : Heap) (locs1 : List Loc), va_P G.2.2.2.1 mj_cl ((mj_ws G σ).set a (G.1 + a, .inr (ci, (fs.map (mj_cv G)).set k (mj_cv G v)))) H1 → va_D (mj_A G) ((mj_ws G σ).set a (G.1 + a, .inr (ci, (fs.map (mj_cv G)).set k (mj_cv G v)))) → va_S (mj_A G) s.heap H1 locs1 → mj_WW l p e R s m args below meth c Q n0 q0 H1 locs1 σ (F0 m (pc + 3) lsR (st.map (mj_cv G))) := by
    intro H1 locs1 hP1 _ hS1
    refine k2 H1 locs1 ?_ hS1
    show va_P _ _ ((mj_ws G σ).set a (G.1 + a, .inr (ci, (fs.set k v).map (mj_cv G)))) H1
    rw [List.map_set]
    exact hP1
  rcases hfin with hfin | ⟨hfin, hi1, hi2⟩
  · exact va_put hx hb hts c4 ty0 c5 c6 hown hAm.1 hP (mj_ws_D G σ) hS a hat c1 k hk (hts _ hw1) hsame hfin hty (mj_narrow G hn hnf) (mj_fits G hf hnf) (by rw [List.length_map]; exact hlen) hd k3
  · exact va_putF hx hb hts c4 ty0 c5 c6 hown hAm.1 hP (mj_ws_D G σ) hS a hat c1 k hk (hts _ hw1) hsame hfin (hin hi1) ((c7 k hk).trans hi2) hty (mj_narrow G hn hnf) (mj_fits G hf hnf) (by rw [List.length_map]; exact hlen) hd k3
theorem mj_s21 : ∀ y pc a n g (i : Int32) ls st (σ : mj_H) r, decode y.2.1 pc = .ok (.iaload, 1) → σ.1 a = mj_AI n g → vp_in i n → mj_So l G d y (pc + 1) ls (.int (g i.toNatClampNeg) :: st) σ r → mj_So l G d y pc ls (.int i :: .ref a :: st) σ r := by
  intro y pc a n g i ls st σ r hd hcell hin kk
  refine mj_up (fun p e R s m args below meth c Q n0 cells slots H locs lsR hc hw hl hP hS w => ?_) kk
  obtain ⟨hx, hb, hr, hml, hown, hts, -, hlk, hAm, -⟩ := hc
  exact va_iald hx hb hAm.1 hP a 0 (mj_ws_at G hw hcell) rfl hin hd w
theorem mj_s22 : ∀ y pc a n g (i w : Int32) ls st (σ : mj_H) r, decode y.2.1 pc = .ok (.iastore, 1) → σ.1 a = mj_AI n g → vp_in i n → mj_So l G d y (pc + 1) ls st (va_up σ.1 a (mj_AI n (upd g i.toNatClampNeg w)), σ.2) r → mj_So l G d y pc ls (.int w :: .int i :: .ref a :: st) σ r := by
  intro y pc a n g i w ls st σ r hd hcell hin kk
  refine ⟨fun hw => kk.1 (mj_w_set hw hcell _), fun p e R s m args below meth c Q n0 q0 hc hw h1 h2 h3 hret H locs lsR hl hP hS => ?_⟩
  have k2 := fun H locs hP hS => kk.2 p e R s m args below meth c Q n0 q0 hc (mj_w_set hw hcell _) h1 h2 h3 hret H locs lsR hl hP hS
  rw [mj_ws_set] at k2
  obtain ⟨hx, hb, hr, hml, hown, hts, -, hlk, hAm, -⟩ := hc
  exact va_iast hx hb hAm.1 hP (mj_ws_D G σ) hS a 0 (mj_ws_at G hw hcell) rfl hin hd (fun H1 locs1 hP1 _ hS1 => k2 H1 locs1 hP1 hS1)
theorem mj_s23 : ∀ y pc a n g (i : Int32) ls st (σ : mj_H) r, decode y.2.1 pc = .ok (.baload, 1) → σ.1 a = mj_AZ n g → vp_in i n → mj_So l G d y (pc + 1) ls (.int (g i.toNatClampNeg) :: st) σ r → mj_So l G d y pc ls (.int i :: .ref a :: st) σ r := by
  intro y pc a n g i ls st σ r hd hcell hin kk
  refine mj_up (fun p e R s m args below meth c Q n0 cells slots H locs lsR hc hw hl hP hS w => ?_) kk
  obtain ⟨hx, hb, hr, hml, hown, hts, -, hlk, hAm, -⟩ := hc
  exact va_zald hx hb hAm.1 hP a 2 (mj_ws_at G hw hcell) rfl hin hd w
theorem mj_s24 : ∀ y pc a n g (i w : Int32) ls st (σ : mj_H) r, decode y.2.1 pc = .ok (.bastore, 1) → σ.1 a = mj_AZ n g → vp_in i n → vp_nar .boolean w = w → mj_So l G d y (pc + 1) ls st (va_up σ.1 a (mj_AZ n (upd g i.toNatClampNeg w)), σ.2) r → mj_So l G d y pc ls (.int w :: .int i :: .ref a :: st) σ r := by
  intro y pc a n g i w ls st σ r hd hcell hin hnar kk
  refine ⟨fun hw => kk.1 (mj_w_set hw hcell _), fun p e R s m args below meth c Q n0 q0 hc hw h1 h2 h3 hret H locs lsR hl hP hS => ?_⟩
  have k2 := fun H locs hP hS => kk.2 p e R s m args below meth c Q n0 q0 hc (mj_w_set hw hcell _) h1 h2 h3 hret H locs lsR hl hP hS
  rw [mj_ws_set] at k2
  obtain ⟨hx, hb, hr, hml, hown, hts, -, hlk, hAm, -⟩ := hc
  exact va_zast hx hb hAm.1 hP (mj_ws_D G σ) hS a 2 (mj_ws_at G hw hcell) rfl hin hd (fun H1 locs1 hP1 _ hS1 => k2 H1 locs1 (by rw [hnar] at hP1; exact hP1) hS1)
theorem mj_s25 : ∀ y pc a n g (i : Int32) ls st (σ : mj_H) r, decode y.2.1 pc = .ok (.laload, 1) → σ.1 a = mj_AJ n g → vp_in i n → mj_So l G d y (pc + 1) ls (.long (g i.toNatClampNeg) :: st) σ r → mj_So l G d y pc ls (.int i :: .ref a :: st) σ r := by
  intro y pc a n g i ls st σ r hd hcell hin kk
  refine mj_up (fun p e R s m args below meth c Q n0 cells slots H locs lsR hc hw hl hP hS w => ?_) kk
  obtain ⟨hx, hb, hr, hml, hown, hts, -, hlk, hAm, -⟩ := hc
  exact va_lald hx hb hAm.1 hP a 1 (mj_ws_at G hw hcell) rfl hin hd w
theorem mj_s26 : ∀ y pc a n g (i : Int32) (w : Int64) ls st (σ : mj_H) r, decode y.2.1 pc = .ok (.lastore, 1) → σ.1 a = mj_AJ n g → vp_in i n → mj_So l G d y (pc + 1) ls st (va_up σ.1 a (mj_AJ n (vp_updL g i.toNatClampNeg w)), σ.2) r → mj_So l G d y pc ls (.long w :: .int i :: .ref a :: st) σ r := by
  intro y pc a n g i w ls st σ r hd hcell hin kk
  refine ⟨fun hw => kk.1 (mj_w_set hw hcell _), fun p e R s m args below meth c Q n0 q0 hc hw h1 h2 h3 hret H locs lsR hl hP hS => ?_⟩
  have k2 := fun H locs hP hS => kk.2 p e R s m args below meth c Q n0 q0 hc (mj_w_set hw hcell _) h1 h2 h3 hret H locs lsR hl hP hS
  rw [mj_ws_set] at k2
  obtain ⟨hx, hb, hr, hml, hown, hts, -, hlk, hAm, -⟩ := hc
  exact va_last hx hb hAm.1 hP (mj_ws_D G σ) hS a 1 (mj_ws_at G hw hcell) rfl hin hd (fun H1 locs1 hP1 _ hS1 => k2 H1 locs1 hP1 hS1)
theorem mj_s27 : ∀ y pc a t n g (i : Int32) ls st (σ : mj_H) r, decode y.2.1 pc = .ok (.aaload, 1) → (t = 3 ∨ t = 4) → σ.1 a = mj_AR t n g → vp_in i n → mj_So l G d y (pc + 1) ls (va_rf (g i.toNatClampNeg) :: st) σ r → mj_So l G d y pc ls (.int i :: .ref a :: st) σ r := by
  intro y pc a t n g i ls st σ r hd ht hcell hin kk
  refine mj_up (fun p e R s m args below meth c Q n0 cells slots H locs lsR hc hw hl hP hS w => ?_) kk
  obtain ⟨hx, hb, hr, hml, hown, hts, -, hlk, hAm, -⟩ := hc
  have w : W p l e R s m args below meth c H locs cells slots Q (F0 m (pc + 1) lsR (mj_cv G (va_rf (g i.toNatClampNeg)) :: st.map (mj_cv G))) := w
  rw [mj_cv_rf] at w
  rcases ht with rfl | rfl
  · exact va_aldq hx hb hAm.1 hP a 3 (mj_ws_at G hw hcell) rfl hin hd w
  · exact va_aldq hx hb hAm.1 hP a 4 (mj_ws_at G hw hcell) rfl hin hd w
theorem mj_upmap {g : Nat → Option Nat} {b i : Nat} {w : Option Nat} : (fun j => (va_up g i w j).map (b + ·)) = va_up (fun j => (g j).map (b + ·)) i (w.map (b + ·)) := by
  funext j
  by_cases e : j = i
  · subst e; simp [va_up]
  · simp [va_up, e]
theorem mj_s28 : ∀ y pc a t n g (i : Int32) (w : Option Nat) ls st (σ : mj_H) r, decode y.2.1 pc = .ok (.aastore, 1) → (t = 3 ∨ t = 4) → σ.1 a = mj_AR t n g → vp_in i n → (∀ k, w = some k → ∃ fs, σ.1 k = mj_O (mj_ct t) fs) → mj_So l G d y (pc + 1) ls st (va_up σ.1 a (mj_AR t n (va_up g i.toNatClampNeg w)), σ.2) r → mj_So l G d y pc ls (va_rf w :: .int i :: .ref a :: st) σ r := by
  intro y pc a t n g i w ls st σ r hd ht hcell hin hv kk
  refine ⟨fun hw => kk.1 (mj_w_set hw hcell _), fun p e R s m args below meth c Q n0 q0 hc hw h1 h2 h3 hret H locs lsR hl hP hS => ?_⟩
  have k2 := fun H locs hP hS => kk.2 p e R s m args below meth c Q n0 q0 hc (mj_w_set hw hcell _) h1 h2 h3 hret H locs lsR hl hP hS
  rw [mj_ws_set] at k2
  have k3 : ∀ (H1 : Heap) (locs1 : List Loc), va_P G.2.2.2.1 mj_cl ((mj_ws G σ).set a (G.1 + a, .inl (G.2.2.2.2.1 t, n, .inr (.inr (.inr (.inr (va_up (fun j => (g j).map (G.1 + ·)) i.toNatClampNeg (w.map (G.1 + ·))))))))) H1 → va_S (mj_A G) s.heap H1 locs1 → mj_WW l p e R s m args below meth c Q n0 q0 H1 locs1 σ (F0 m (pc + 1) lsR (st.map (mj_cv G))) := by
    intro H1 locs1 hP1 hS1
    refine k2 H1 locs1 ?_ hS1
    show va_P _ _ ((mj_ws G σ).set a (G.1 + a, .inl (G.2.2.2.2.1 t, n, .inr (.inr (.inr (.inr fun j => (va_up g i.toNatClampNeg w j).map (G.1 + ·))))))) H1
    rw [mj_upmap]
    exact hP1
  obtain ⟨hx, hb, hr, hml, hown, hts, -, hlk, hAm, -⟩ := hc
  cases w with
  | none =>
    rcases ht with rfl | rfl
    · exact va_astqN hx hb hAm.1 hP (mj_ws_D G σ) hS a 3 (mj_ws_at G hw hcell) rfl hin hd (fun H1 locs1 hP1 _ hS1 => k3 H1 locs1 hP1 hS1)
    · exact va_astqN hx hb hAm.1 hP (mj_ws_D G σ) hS a 4 (mj_ws_at G hw hcell) rfl hin hd (fun H1 locs1 hP1 _ hS1 => k3 H1 locs1 hP1 hS1)
  | some q =>
    obtain ⟨fs, hq⟩ := hv q rfl
    rcases ht with rfl | rfl
    · exact va_astq hx hb hAm.1 hP (mj_ws_D G σ) hS a 3 q 2 (r := ("GalleryWatch$Post", mj_T2, 6)) (mj_ws_at G hw hcell) rfl (mj_ws_at G hw hq) rfl hin hd (fun H1 locs1 hP1 _ hS1 => k3 H1 locs1 hP1 hS1)
    · exact va_astq hx hb hAm.1 hP (mj_ws_D G σ) hS a 4 q 4 (r := ("GalleryWatch$Room", mj_T4, 5)) (mj_ws_at G hw hcell) rfl (mj_ws_at G hw hq) rfl hin hd (fun H1 locs1 hP1 _ hS1 => k3 H1 locs1 hP1 hS1)
theorem mj_s29 : ∀ y pc a t (x : vp_A) ls st (σ : mj_H) r, decode y.2.1 pc = .ok (.arraylength, 1) → t < 5 → σ.1 a = some (.inl (t, x)) → mj_So l G d y (pc + 1) ls (.int (Int32.ofNat x.1) :: st) σ r → mj_So l G d y pc ls (.ref a :: st) σ r := by
  intro y pc a t x ls st σ r hd ht hcell kk
  refine mj_up (fun p e R s m args below meth c Q n0 cells slots H locs lsR hc hw hl hP hS w => ?_) kk
  obtain ⟨hx, hb, hr, hml, hown, hts, -, hlk, hAm, -⟩ := hc
  have h5 : (mj_tys G)[t]? = some (G.2.2.2.2.1 t, mj_at t) := by simp [mj_tys, List.getElem?_map, List.getElem?_range ht]
  exact va_alen hx hb hAm.1 hP a t (mj_ws_at G hw hcell) h5 (by rw [mj_cA1]) hd w
end MS2
end
section
/-! the rules that make cells, that read KINDS_OF and the script, that copy, that return -/
theorem mj_cv_f0 (G : mj_G) : mj_cv G (.float 0) = .ref G.2.1 := by simp [mj_cv]
theorem mj_cv_f1 (G : mj_G) : mj_cv G (.float 1) = .ref G.2.2.1 := by simp [mj_cv]
theorem mj_new_at {G : mj_G} {σ : mj_H} {q n0 : Nat} {en : va_E} {H H0 H1 : Heap} {locs : List Loc} (hS : va_S (mj_A G) H0 H locs) (h0 : H0.size = G.1 + n0) (hn : n0 ≤ σ.2.1)
    (hP1 : va_P G.2.2.2.1 mj_cl (mj_ws G σ ++ [(q, en)]) H1) (hD1 : va_D (mj_A G) (mj_ws G σ ++ [(q, en)])) (hz : H1.size ≤ H0.size + (σ.2.1 - n0 + 1)) : q = G.1 + σ.2.1 := by
  have hl : (mj_ws G σ ++ [(q, en)])[σ.2.1]? = some (q, en) := by
    rw [List.getElem?_append_right (by rw [mj_ws_len]; exact Nat.le_refl _), mj_ws_len, Nat.sub_self]
    rfl
  have h1 : q < H1.size := (hP1 _ _ hl).lt
  have h2 : G.1 ≤ q := hD1.2 _ _ hl
  rcases Nat.lt_or_ge q (G.1 + σ.2.1) with h | h
  · have hk : q - G.1 < σ.2.1 := by omega
    have h3 : (mj_ws G σ ++ [(q, en)])[q - G.1]? = some (G.1 + (q - G.1), mj_ce G (σ.1 (q - G.1))) := by
      rw [List.getElem?_append_left (by rw [mj_ws_len]; exact hk)]
      simp [mj_ws, List.getElem?_map, List.getElem?_range hk]
    have := hD1.1 _ _ _ _ h3 hl (by show G.1 + (q - G.1) = q; omega)
    omega
  · omega
section MS3
variable {l : Launch} {G : mj_G} {d : Nat}
theorem mj_s30 : ∀ y pc ci ls st (σ : mj_H) r, mj_Nw y pc ci → mj_So l G d y (pc + 3) ls (.ref σ.2.1 :: st) (va_up σ.1 σ.2.1 (mj_O ci (mj_df.getD ci [])), σ.2.1 + 1, σ.2.2 + mj_nf ci) r → mj_So l G d y pc ls st σ r := by
  rintro y pc ci ls st σ r ⟨hci, i, hd, w1, w2, w3⟩ kk
  have hmono : mj_w σ → σ.2.1 + 1 ≤ r.2.2.1 ∧ σ.2.2 + mj_nf ci ≤ r.2.2.2 ∧ mj_w r.2 := fun hw => kk.1 (mj_w_push hw _ _)
  refine ⟨fun hw => ⟨by have := (hmono hw).1; omega, by have := (hmono hw).2.1; omega, (hmono hw).2.2⟩, fun p e R s m args below meth c Q n0 q0 hc hw h1 h2 h3 hret H locs lsR hl hP hS => ?_⟩
  have k2 := fun H locs hP hS => kk.2 p e R s m args below meth c Q n0 q0 hc (mj_w_push hw _ _) (Nat.le_succ_of_le h1) (Nat.le_add_right_of_le h2) h3 hret H locs lsR hl hP hS
  rw [mj_ws_push] at k2
  have hm := hmono hw
  obtain ⟨hx, hb, hr, hml, hown, hts, hin, hlk, hAm, hsz, -⟩ := hc
  obtain ⟨T, N, ty0, c1, rfl, c3, c4, c5, c6, c7, c8, c9⟩ := mj_cls hci
  have hdf : (mj_df.getD ci []).map (mj_cv G) = mj_df.getD ci [] := by
    refine (List.map_congr_left (g := id) fun v hv => ?_).trans (List.map_id _)
    rcases c9 v hv with rfl | rfl | rfl <;> rfl
  refine va_new (ci := ci) (fs := mj_df.getD ci []) hx hb hts c4 ty0 c5 hown (hts _ w1) (hts _ w2) (hts _ w3) hAm.1 hP (mj_ws_D G σ) hS (fun q hq => by show G.1 ≤ q; omega) c1 c8 (by omega) (by omega) hd (fun q H1 hP1 hD1 hS1 => ?_)
  refine mj_size fun hz => ?_
  have hq := mj_new_at hS hsz h1 hP1 hD1 hz
  subst hq
  have k3 := k2 H1 locs (by show va_P _ _ (mj_ws G σ ++ [(G.1 + σ.2.1, .inr (ci, (mj_df.getD ci []).map (mj_cv G)))]) H1; rw [hdf]; exact hP1) hS1
  refine W.cs ?_ ?_ k3
  · show σ.2.1 - n0 + 1 = σ.2.1 + 1 - n0
    omega
  · show σ.2.2 - q0 + mj_nf ci = σ.2.2 + mj_nf ci - q0
    omega
theorem mj_RA_inj {U : State} {c1 c2 : ClassId} {ty : FieldType} (h1 : va_RA U c1 ty) (h2 : va_RA U c2 ty) : c1 = c2 := by
  cases ty with
  | object C =>
    obtain ⟨_, _, _, _, _, b1⟩ := h1
    obtain ⟨_, _, _, _, _, b2⟩ := h2
    exact Option.some.inj (b1.symm.trans b2)
  | _ =>
    simp only [va_RA] at h1 h2
    exact Option.some.inj (h1.symm.trans h2)
theorem mj_RA_one {G : mj_G} {s : State} {cA : ClassId} {t : Nat} (ht : t < 5) (hK : va_K G.2.2.2.1 mj_cl (mj_tys G ++ [(cA, mj_at t)]) s) : cA = G.2.2.2.2.1 t := by
  have h5 : (mj_tys G ++ [(cA, mj_at t)])[t]? = some (G.2.2.2.2.1 t, mj_at t) := by
    rw [List.getElem?_append_left (by simp [mj_tys]; omega)]
    simp [mj_tys, List.getElem?_map, List.getElem?_range ht]
  have h6 : (mj_tys G ++ [(cA, mj_at t)])[5]? = some (cA, mj_at t) := by
    rw [List.getElem?_append_right (by simp [mj_tys])]
    simp [mj_tys]
  have a1 := (hK.2 _ _ h5).2
  have a2 := (hK.2 _ _ h6).2
  exact (mj_RA_inj a1 a2).symm
theorem mj_s31 : ∀ y pc t (n : Int32) ls st (σ : mj_H) r, mj_Na y pc t → ¬ n < 0 → n.toNatClampNeg ≤ 10000 → mj_So l G d y (pc + 2) ls (.ref σ.2.1 :: st) (va_up σ.1 σ.2.1 (some (.inl (t, n.toNatClampNeg, if t = 1 then .inr (.inl fun _ => 0) else .inl fun _ => 0))), σ.2.1 + 1, σ.2.2 + n.toNatClampNeg) r → mj_So l G d y pc ls (.int n :: st) σ r := by
  intro y pc t n ls st σ r hna hn hN kk
  have hmono : mj_w σ → σ.2.1 + 1 ≤ r.2.2.1 ∧ σ.2.2 + n.toNatClampNeg ≤ r.2.2.2 ∧ mj_w r.2 := fun hw => kk.1 (mj_w_push hw _ _)
  refine ⟨fun hw => ⟨by have := (hmono hw).1; omega, by have := (hmono hw).2.1; omega, (hmono hw).2.2⟩, fun p e R s m args below meth c Q n0 q0 hc hw h1 h2 h3 hret H locs lsR hl hP hS => ?_⟩
  have k2 := fun H locs hP hS => kk.2 p e R s m args below meth c Q n0 q0 hc (mj_w_push hw _ _) (Nat.le_succ_of_le h1) (Nat.le_add_right_of_le h2) h3 hret H locs lsR hl hP hS
  rw [mj_ws_push] at k2
  have hm := hmono hw
  obtain ⟨hx, hb, hr, hml, hown, hts, hin, hlk, hAm, hsz, -⟩ := hc
  have key : ∀ (at0 : ArrayType) (a0 : vp_A), decode y.2.1 pc = .ok (.newarray at0, 2) → Cond.arrayClass (newarray.typeOf at0) ∈ mj_tb → newarray.typeOf at0 = mj_at t → t < 5 → (∀ cA : ClassId, vp_cell cA a0 = arrV cA n.toNatClampNeg (fun _ => defaultValue (mj_at t))) → n.toNatClampNeg * componentBytes (mj_at t) ≤ 536870912 →
      mj_ce G (some (.inl (t, n.toNatClampNeg, if t = 1 then .inr (.inl fun _ => 0) else .inl fun _ => 0))) = .inl (G.2.2.2.2.1 t, a0) → mj_WW l p e R s m args below meth c Q n0 q0 H locs σ (F0 m pc lsR ((Value.int n :: st).map (mj_cv G))) := by
    intro at0 a0 hd hw1 hty ht ha hbytes hce
    rw [hce] at k2
    refine va_newa hx hb (hts _ hw1) hty hAm.1 hP (mj_ws_D G σ) hS (fun q hq => by show G.1 ≤ q; omega) ha hn rfl hbytes (by omega) (by omega) hd (fun q cA H1 hK1 hP1 hD1 hS1 => ?_)
    refine mj_size fun hz => ?_
    have hq := mj_new_at hS hsz h1 hP1 hD1 hz
    subst hq
    have hcA := mj_RA_one ht hK1
    subst hcA
    refine W.cs ?_ ?_ (k2 H1 locs hP1 hS1)
    · show σ.2.1 - n0 + 1 = σ.2.1 + 1 - n0
      omega
    · show σ.2.2 - q0 + n.toNatClampNeg = σ.2.2 + n.toNatClampNeg - q0
      omega
  rcases hna with ⟨rfl, hd⟩ | ⟨rfl, hd⟩ | ⟨rfl, hd⟩
  · exact key .int (n.toNatClampNeg, .inl fun _ => 0) hd (by decide +kernel) rfl (by decide) (fun cA => rfl) (by show _ * 4 ≤ _; omega) rfl
  · exact key .long (n.toNatClampNeg, .inr (.inl fun _ => 0)) hd (by decide +kernel) rfl (by decide) (fun cA => rfl) (by show _ * 8 ≤ _; omega) rfl
  · exact key .boolean (n.toNatClampNeg, .inl fun _ => 0) hd (by decide +kernel) rfl (by decide) (fun cA => rfl) (by show _ * 1 ≤ _; omega) rfl
theorem mj_s32 : ∀ y pc t (n : Int32) ls st (σ : mj_H) r, mj_Nq y pc t → ¬ n < 0 → n.toNatClampNeg ≤ 10000 → mj_So l G d y (pc + 3) ls (.ref σ.2.1 :: st) (va_up σ.1 σ.2.1 (mj_AR t n.toNatClampNeg fun _ => none), σ.2.1 + 1, σ.2.2 + n.toNatClampNeg) r → mj_So l G d y pc ls (.int n :: st) σ r := by
  rintro y pc t n ls st σ r ⟨ht, i, hd, hcl⟩ hn hN kk
  have hmono : mj_w σ → σ.2.1 + 1 ≤ r.2.2.1 ∧ σ.2.2 + n.toNatClampNeg ≤ r.2.2.2 ∧ mj_w r.2 := fun hw => kk.1 (mj_w_push hw _ _)
  refine ⟨fun hw => ⟨by have := (hmono hw).1; omega, by have := (hmono hw).2.1; omega, (hmono hw).2.2⟩, fun p e R s m args below meth c Q n0 q0 hc hw h1 h2 h3 hret H locs lsR hl hP hS => ?_⟩
  have k2 := fun H locs hP hS => kk.2 p e R s m args below meth c Q n0 q0 hc (mj_w_push hw _ _) (Nat.le_succ_of_le h1) (Nat.le_add_right_of_le h2) h3 hret H locs lsR hl hP hS
  rw [mj_ws_push] at k2
  have hm := hmono hw
  obtain ⟨hx, hb, hr, hml, hown, hts, hin, hlk, hAm, hsz, -⟩ := hc
  have key : ∀ (C : String), Cond.classLink y.1.cls i C ∈ mj_tb → Cond.arrayOver (.object C) ∈ mj_tb → mj_at t = .object C → t < 5 → mj_WW l p e R s m args below meth c Q n0 q0 H locs σ (F0 m pc lsR ((Value.int n :: st).map (mj_cv G))) := by
    intro C w1 w2 hat ht5
    refine va_newq hx hb hown (hts _ w1) (va_AO.moved (Vm.Alike.refl s.vm) (va_AO.of (hts _ w2))) hAm.1 hP (mj_ws_D G σ) hS (fun q hq => by show G.1 ≤ q; omega) hn rfl (by omega) (by omega) (by omega) hd (fun q cA H1 hK1 hP1 hD1 hS1 => ?_)
    refine mj_size fun hz => ?_
    have hq := mj_new_at hS hsz h1 hP1 hD1 hz
    subst hq
    rw [← hat] at hK1
    have hcA := mj_RA_one ht5 hK1
    subst hcA
    refine W.cs ?_ ?_ (k2 H1 locs hP1 hS1)
    · show σ.2.1 - n0 + 1 = σ.2.1 + 1 - n0
      omega
    · show σ.2.2 - q0 + n.toNatClampNeg = σ.2.2 + n.toNatClampNeg - q0
      omega
  rcases ht with rfl | rfl
  · exact key _ hcl (by decide +kernel) rfl (by decide)
  · exact key _ hcl (by decide +kernel) rfl (by decide)
theorem mj_s33 : ∀ y pc ls st σ r, mj_Gs y pc → mj_So l G d y (pc + 3) ls (.float 0 :: st) σ r → mj_So l G d y pc ls st σ r := by
  rintro y pc ls st σ r ⟨i, hd, w1⟩ kk
  refine mj_up (fun p e R s m args below meth c Q n0 cells slots H locs lsR hc hw hl hP hS w => ?_) kk
  obtain ⟨hx, hb, hr, hml, hown, hts, -, hlk, hAm, -⟩ := hc
  have w : W p l e R s m args below meth c H locs cells slots Q (F0 m (pc + 3) lsR (mj_cv G (.float 0) :: st.map (mj_cv G))) := w
  rw [mj_cv_f0] at w
  exact va_gets hx hb hAm.2.1 hS hown (hts _ w1) (fun z h => h) hd w
theorem mj_s34 : ∀ y pc (i : Int32) ls st σ r, decode y.2.1 pc = .ok (.iaload, 1) → vp_in i 5 → mj_So l G d y (pc + 1) ls (.int (mj_kd i.toNatClampNeg) :: st) σ r → mj_So l G d y pc ls (.int i :: .float 0 :: st) σ r := by
  intro y pc i ls st σ r hd hin kk
  refine mj_up (fun p e R s m args below meth c Q n0 cells slots H locs lsR hc hw hl hP hS w => ?_) kk
  obtain ⟨hx, hb, hr, hml, hown, hts, -, hlk, hAm, -⟩ := hc
  show W p l e R s m args below meth c H locs cells slots Q (F0 m pc lsR (.int i :: mj_cv G (.float 0) :: st.map (mj_cv G)))
  rw [mj_cv_f0]
  exact va_ti hx hb hAm.2.2.1 hS hin rfl hd w
theorem mj_s35 : ∀ y pc ls st σ r, decode y.2.1 pc = .ok (.arraylength, 1) → mj_So l G d y (pc + 1) ls (.int 5 :: st) σ r → mj_So l G d y pc ls (.float 0 :: st) σ r := by
  intro y pc ls st σ r hd kk
  refine mj_up (fun p e R s m args below meth c Q n0 cells slots H locs lsR hc hw hl hP hS w => ?_) kk
  obtain ⟨hx, hb, hr, hml, hown, hts, -, hlk, hAm, -⟩ := hc
  show W p l e R s m args below meth c H locs cells slots Q (F0 m pc lsR (mj_cv G (.float 0) :: st.map (mj_cv G)))
  rw [mj_cv_f0]
  exact va_tlen hx hb hAm.2.2.1 hS rfl hd w
theorem mj_s36 : ∀ y pc (i : Int32) ls st σ r, decode y.2.1 pc = .ok (.iaload, 1) → vp_in i G.2.2.2.2.2.1 → mj_So l G d y (pc + 1) ls (.int (G.2.2.2.2.2.2 i.toNatClampNeg) :: st) σ r → mj_So l G d y pc ls (.int i :: .float 1 :: st) σ r := by
  intro y pc i ls st σ r hd hin kk
  refine mj_up (fun p e R s m args below meth c Q n0 cells slots H locs lsR hc hw hl hP hS w => ?_) kk
  obtain ⟨hx, hb, hr, hml, hown, hts, -, hlk, hAm, hsz, -⟩ := hc
  show W p l e R s m args below meth c H locs cells slots Q (F0 m pc lsR (.int i :: mj_cv G (.float 1) :: st.map (mj_cv G)))
  rw [mj_cv_f1]
  have hA5 := hAm.2.2.2.2.1
  exact va_sld hx hb hAm.2.2.2.1 (by omega) (by show ¬ G.1 ≤ _; omega) hS hin hd w
theorem mj_s37 : ∀ y pc ls st σ r, decode y.2.1 pc = .ok (.arraylength, 1) → mj_So l G d y (pc + 1) ls (.int (Int32.ofNat G.2.2.2.2.2.1) :: st) σ r → mj_So l G d y pc ls (.float 1 :: st) σ r := by
  intro y pc ls st σ r hd kk
  refine mj_up (fun p e R s m args below meth c Q n0 cells slots H locs lsR hc hw hl hP hS w => ?_) kk
  obtain ⟨hx, hb, hr, hml, hown, hts, -, hlk, hAm, hsz, -⟩ := hc
  show W p l e R s m args below meth c H locs cells slots Q (F0 m pc lsR (mj_cv G (.float 1) :: st.map (mj_cv G)))
  rw [mj_cv_f1]
  have hA5 := hAm.2.2.2.2.1
  exact va_slen hx hb hAm.2.2.2.1 (by omega) (by show ¬ G.1 ≤ _; omega) hS hd w
theorem mj_s38 : ∀ y pc a ls st σ r, mj_Oi y pc → mj_cs st ≤ 8 → mj_So l G d y (pc + 3) ls st σ r → mj_So l G d y pc ls (.ref a :: st) σ r := by
  rintro y pc a ls st σ r ⟨i, hd, w1⟩ h8 kk
  refine mj_up (fun p e R s m args below meth c Q n0 cells slots H locs lsR hc hw hl hP hS w => ?_) kk
  obtain ⟨hx, hb, hr, hml, hown, hts, -, hlk, hAm, hsz, hf1, hf2⟩ := hc
  refine W.objInit hx hb hown (hts _ w1) (hts _ (by decide +kernel)) (hts _ (by decide +kernel)) rfl (hl.1.trans hml.symm) (a := G.1 + a) (rest := st.map (mj_cv G)) rfl hd (by omega) ?_ w
  have := lv_room (m := m) (pc := pc) (ls := lsR) (rest := []) (st := st.map (mj_cv G)) (by rw [mj_cs_map]; exact h8)
  refine Nat.le_trans (Nat.add_le_add_right this 12) (by omega)
theorem mj_s39 : ∀ y pc a0 a n0 n1 f g (sp dp n : Int32) ls st (σ : mj_H) r, mj_Ac y pc → mj_cs st ≤ 8 → σ.1 a0 = mj_AI n0 f → σ.1 a = mj_AI n1 g → ¬ sp < 0 → ¬ dp < 0 → ¬ n < 0 → sp.toNatClampNeg + n.toNatClampNeg ≤ n0 → dp.toNatClampNeg + n.toNatClampNeg ≤ n1 →
      mj_So l G d y (pc + 3) ls st (va_up σ.1 a (mj_AI n1 (va_cpy f g sp.toNatClampNeg dp.toNatClampNeg n.toNatClampNeg)), σ.2) r → mj_So l G d y pc ls (.int n :: .int dp :: .ref a :: .int sp :: .ref a0 :: st) σ r := by
  rintro y pc a0 a na nb f g sp dp n ls st σ r ⟨i, hd, w1⟩ h8 hc0 hcell g1 g2 g3 g4 g5 kk
  refine ⟨fun hw => kk.1 (mj_w_set hw hcell _), fun p e R s m args below meth c Q n0 q0 hc hw h1 h2 h3 hret H locs lsR hl hP hS => ?_⟩
  have k2 := fun H locs hP hS => kk.2 p e R s m args below meth c Q n0 q0 hc (mj_w_set hw hcell _) h1 h2 h3 hret H locs lsR hl hP hS
  rw [mj_ws_set] at k2
  obtain ⟨hx, hb, hr, hml, hown, hts, -, hlk, hAm, hsz, hf1, hf2⟩ := hc
  have hnf : nativeFrameWords "java/lang/System" "arraycopy" 5 ≤ 150 := by decide +kernel
  exact va_copyi hx hb (hml.trans hl.1.symm) hown (hts _ w1) (hts _ (by decide +kernel)) (hts _ (by decide +kernel)) (hts _ (by decide +kernel)) hAm.1 hP (mj_ws_D G σ) hS a0 a 0 0 (ty := .int) (mj_ws_at G hw hc0) (mj_ws_at G hw hcell) rfl rfl rfl g1 g2 g3 g4 g5 (fun j _ => rfl) (by omega) (by rw [mj_cs_map]; omega) hd (fun H1 locs1 hP1 _ hS1 => k2 H1 locs1 hP1 hS1)
theorem mj_s40 : ∀ y pc a0 a t n0 n1 f g (sp dp n : Int32) ls st (σ : mj_H) r, mj_Ac y pc → mj_cs st ≤ 8 → (t = 3 ∨ t = 4) → σ.1 a0 = mj_AR t n0 f → σ.1 a = mj_AR t n1 g → ¬ sp < 0 → ¬ dp < 0 → ¬ n < 0 → sp.toNatClampNeg + n.toNatClampNeg ≤ n0 → dp.toNatClampNeg + n.toNatClampNeg ≤ n1 →
      (∀ i : Nat, i < n.toNatClampNeg → ∀ k : Nat, f (sp.toNatClampNeg + i) = some k → ∃ fs, σ.1 k = mj_O (mj_ct t) fs) → mj_So l G d y (pc + 3) ls st (va_up σ.1 a (mj_AR t n1 (va_cpy f g sp.toNatClampNeg dp.toNatClampNeg n.toNatClampNeg)), σ.2) r → mj_So l G d y pc ls (.int n :: .int dp :: .ref a :: .int sp :: .ref a0 :: st) σ r := by
  rintro y pc a0 a t na nb f g sp dp n ls st σ r ⟨i, hd, w1⟩ h8 ht hc0 hcell g1 g2 g3 g4 g5 hel kk
  refine ⟨fun hw => kk.1 (mj_w_set hw hcell _), fun p e R s m args below meth c Q n0 q0 hc hw h1 h2 h3 hret H locs lsR hl hP hS => ?_⟩
  have k2 := fun H locs hP hS => kk.2 p e R s m args below meth c Q n0 q0 hc (mj_w_set hw hcell _) h1 h2 h3 hret H locs lsR hl hP hS
  rw [mj_ws_set] at k2
  obtain ⟨hx, hb, hr, hml, hown, hts, -, hlk, hAm, hsz, hf1, hf2⟩ := hc
  have hnf : nativeFrameWords "java/lang/System" "arraycopy" 5 ≤ 150 := by decide +kernel
  have hmap : (fun j => (va_cpy f g sp.toNatClampNeg dp.toNatClampNeg n.toNatClampNeg j).map (G.1 + ·)) = va_cpy (fun j => (f j).map (G.1 + ·)) (fun j => (g j).map (G.1 + ·)) sp.toNatClampNeg dp.toNatClampNeg n.toNatClampNeg := by
    funext j
    simp only [va_cpy]
    split <;> rfl
  have k3 : ∀ (H1 : Heap) (locs1 : List Loc), va_P G.2.2.2.1 mj_cl ((mj_ws G σ).set a (G.1 + a, .inl (G.2.2.2.2.1 t, nb, .inr (.inr (.inr (.inr (va_cpy (fun j => (f j).map (G.1 + ·)) (fun j => (g j).map (G.1 + ·)) sp.toNatClampNeg dp.toNatClampNeg n.toNatClampNeg))))))) H1 → va_S (mj_A G) s.heap H1 locs1 → mj_WW l p e R s m args below meth c Q n0 q0 H1 locs1 σ (F0 m (pc + 3) lsR (st.map (mj_cv G))) := by
    intro H1 locs1 hP1 hS1
    refine k2 H1 locs1 ?_ hS1
    show va_P _ _ ((mj_ws G σ).set a (G.1 + a, .inl (G.2.2.2.2.1 t, nb, .inr (.inr (.inr (.inr fun j => (va_cpy f g sp.toNatClampNeg dp.toNatClampNeg n.toNatClampNeg j).map (G.1 + ·))))))) H1
    rw [hmap]
    exact hP1
  have key : ∀ (C : String) (cc : vw_C), mj_at t = .object C → mj_cl[mj_ct t]? = some cc → cc.1 = C → (mj_tys G)[t]? = some (G.2.2.2.2.1 t, mj_at t) → mj_WW l p e R s m args below meth c Q n0 q0 H locs σ (F0 m pc lsR ((Value.int n :: .int dp :: .ref a :: .int sp :: .ref a0 :: st).map (mj_cv G))) := by
    intro C cc hat hcc hC hty
    rw [hat] at hty
    refine va_copyq hx hb (hml.trans hl.1.symm) hown (hts _ w1) (hts _ (by decide +kernel)) (hts _ (by decide +kernel)) (hts _ (by decide +kernel)) hAm.1 hP (mj_ws_D G σ) hS a0 a t t (C := C) (mj_ws_at G hw hc0) (mj_ws_at G hw hcell) hty hty g1 g2 g3 g4 g5 (fun j hj q hq => ?_) (fun comp c0 e1 e2 => ?_) (by omega) (by rw [mj_cs_map]; omega) hd (fun H1 locs1 hP1 _ hS1 => k3 H1 locs1 hP1 hS1)
    · cases hfj : f (sp.toNatClampNeg + j) with
      | none => rw [hfj] at hq; cases hq
      | some z =>
        rw [hfj] at hq
        cases hq
        obtain ⟨fs, hz⟩ := hel j hj z hfj
        have := va_recv hAm.1 hP hcc (mj_ws_at G hw hz)
        rw [hC] at this
        exact this
    · cases e1.symm.trans e2
      exact va_asg _ _
  rcases ht with rfl | rfl
  · exact key _ ("GalleryWatch$Post", mj_T2, 6) rfl rfl rfl rfl
  · exact key _ ("GalleryWatch$Room", mj_T4, 5) rfl rfl rfl rfl
theorem mj_s41 : ∀ y pc ls (v : Option Value) σ, mj_Rt y pc v → mj_So l G d y pc ls v.toList σ (v, σ) := by
  intro y pc ls v σ hR
  exact ⟨fun hw => ⟨Nat.le_refl _, Nat.le_refl _, hw⟩, fun p e R s m args below meth c Q n0 q0 hc hw h1 h2 h3 hret H locs lsR hl hP hS => hret pc lsR H locs hR hP hS⟩
end MS3
end
section
/-! calls, and the induction: a run of the small machine is a run of the machine -/
theorem mj_good {w : Cond} (h : w ∈ mj_tb) (hg : goodWord w = true) : w ∈ mj_tb ∧ ((w.onTables && w.keeps) = true ∨ ∃ ty, w = .arrayClass ty) := ⟨h, good_of_word hg⟩
theorem mj_goodC {z : mj_Y} {re : Option FieldType} (h : Cond.code z.1 z.2.1 z.2.2.1 re ∈ mj_tb) : GoodIn mj_tb (Cond.code z.1 z.2.1 z.2.2.1 re :: mj_gt) := by
  intro w hw
  rcases List.mem_cons.mp hw with rfl | q
  · exact mj_good h rfl
  · exact mj_good (List.mem_filter.mp q).1 (List.mem_filter.mp q).2
def mj_Qc (G : mj_G) (v : Option Value) (σ : mj_H) : Array Value → State → Outcome → State → Prop := fun _ st oc t => oc = .returned (v.map (mj_cv G)) ∧ va_P G.2.2.2.1 mj_cl (mj_ws G σ) t.heap ∧ va_F (mj_A G) st t
def mj_Pc (G : mj_G) (as : List Value) (σ : mj_H) : Array Value → State → Prop := va_Pc (as.map (mj_cv G)) (fun U => mj_Am G U ∧ U.heap.size = G.1 + σ.2.1 ∧ va_P G.2.2.2.1 mj_cl (mj_ws G σ) U.heap)
theorem mj_al_len (G : mj_G) : ∀ as : List Value, (lg_sl (as.map (mj_cv G))).length = (mj_al as).length
  | [] => rfl
  | v :: r => by
    have ih := mj_al_len G r
    simp only [lg_sl, List.map_cons, List.flatMap_cons, List.length_append, mj_cv_cat, mj_al] at ih ⊢
    rw [ih]
    split <;> simp <;> omega
theorem mj_al_at (G : mj_G) : ∀ (as : List Value) (j i : Nat) (v : Value), (mj_al as)[i]? = some (some v) → (j + i, mj_cv G v) ∈ lv_args j (as.map (mj_cv G))
  | [], j, i, v, h => by simp [mj_al] at h
  | u :: r, j, i, v, h => by
    simp only [mj_al] at h
    simp only [List.map_cons, lv_args, mj_cv_cat]
    by_cases e : u.category = 2
    · rw [if_pos e] at h ⊢
      match i, h with
      | 0, h => cases h; exact List.mem_cons_self
      | 1, h => cases h
      | i + 2, h =>
        have := mj_al_at G r (j + 2) i v (by simpa using h)
        rw [show j + (i + 2) = j + 2 + i by omega]
        exact List.mem_cons_of_mem _ this
    · rw [if_neg e] at h ⊢
      match i, h with
      | 0, h => cases h; exact List.mem_cons_self
      | i + 1, h =>
        have := mj_al_at G r (j + 1) i v (by simpa using h)
        rw [show j + (i + 1) = j + 1 + i by omega]
        exact List.mem_cons_of_mem _ this
theorem mj_en_lv (G : mj_G) {z : mj_Y} {as : List Value} (h : (mj_al as).length ≤ z.2.2.1) : mj_lv G ((lg_sl (as.map (mj_cv G)) ++ List.replicate (z.2.2.1 - (lg_sl (as.map (mj_cv G))).length) Slot.unset).toArray) z.2.2.1 (mj_en z as) := by
  have h2 : (lg_sl (as.map (mj_cv G))).length ≤ z.2.2.1 := by rw [mj_al_len]; exact h
  have hh := lv_entry (as.map (mj_cv G)) h2
  refine ⟨hh.1, hh.2.1, by simp [mj_en]; omega, fun i v hi => ?_⟩
  have hi2 : (mj_al as)[i]? = some (some v) := by
    rw [mj_en] at hi
    rcases Nat.lt_or_ge i (mj_al as).length with q | q
    · rwa [List.getElem?_append_left q] at hi
    · rw [List.getElem?_append_right q] at hi
      rcases Nat.lt_or_ge (i - (mj_al as).length) (z.2.2.1 - (mj_al as).length) with q2 | q2
      · rw [List.getElem?_replicate_of_lt q2] at hi; cases hi
      · rw [List.getElem?_eq_none (by simpa using q2)] at hi; cases hi
  have := hh.2.2 _ (mj_al_at G as 0 i v hi2)
  simpa using this
theorem mj_met {l : Launch} {G : mj_G} {d n : Nat} {z : mj_Y} {as : List Value} {σ σ' : mj_H} {v : Option Value} (hz : mj_Mt z n) (hal : (mj_al as).length ≤ z.2.2.1) (hw : mj_w σ) (h : mj_So l G d z 0 (mj_en z as) [] σ (v, σ')) :
    Met l z.1 (Cond.code z.1 z.2.1 z.2.2.1 z.2.2.2 :: mj_gt) ({ frames := d + 1, cells := σ'.2.1 - σ.2.1, slots := σ'.2.2 - σ.2.2, locals := 64 * d + 200 }) (mj_Pc G as σ) (mj_Qc G v σ') (σ'.2.1 - σ.2.1) (σ'.2.2 - σ.2.2) (mj_A G) := by
  refine Met.ofW (cc := z.2.1) (maxL := z.2.2.1) (ret := z.2.2.2) hz.2.2.1 rfl ?_
  intro p e s m args below meth c s₁ B hml hv
  obtain ⟨rfl, hAm, hsz, hP⟩ := hv
  have hts : ∀ w ∈ mj_tb, w.before (as.map (mj_cv G)).toArray s = true := by
    intro w hw'
    have hk := (List.mem_filter.mp hw').2
    by_cases hg : goodWord w = true
    · exact atoms_spec (ws := Cond.code z.1 z.2.1 z.2.2.1 z.2.2.2 :: mj_gt) B.pre w (List.mem_cons_of_mem _ (List.mem_filter.mpr ⟨hw', hg⟩))
    · by_cases hn : mj_nest w = true
      · have h1 := hAm.2.2.2.2.2.1 w hw' hn
        cases w <;> first | exact va_Nw.use rfl h1 | (simp [mj_nest] at hn)
      · have hv : mj_over w = true := by
          simp only [mj_kw, Bool.or_eq_true] at hk
          rcases hk with q | q | q
          · exact absurd q hg
          · exact absurd q hn
          · exact q
        have hall : ∀ w ∈ mj_tb, mj_over w = true → w = .arrayOver (.object "GalleryWatch$Post") ∨ w = .arrayOver (.object "GalleryWatch$Room") := by decide +kernel
        rcases hall w hw' hv with rfl | rfl
        · exact va_AO.use hAm.2.2.2.2.2.2.1
        · exact va_AO.use hAm.2.2.2.2.2.2.2
  have hown : s.vm.findClass z.1.cls = some m.cls := findClass_of_methodNamed B.named
  have hname : z.1.name = "<init>" → meth.name = "<init>" := fun e => ((name_of_methodNamed B.named B.method).1).trans e
  rw [lg_entry_eq]
  refine W.cs (Nat.sub_self σ.2.1).symm (Nat.sub_self σ.2.2).symm ?_
  refine h.2 p e _ s m _ below meth c _ σ.2.1 σ.2.2 ⟨B.exec, B.bytes, B.returns, hml, hown, hts, hname, B.notSynchronized, hAm, hsz, Nat.le_refl _, Nat.le_refl _⟩ hw (Nat.le_refl _) (Nat.le_refl _) ⟨Nat.le_refl _, Nat.le_refl _⟩ ?_ s.heap [] _ (mj_en_lv G hal) hP va_S.rf
  intro pcr lsR H locs hR hP1 hS1
  have hx := B.exec
  have hb := B.bytes
  have hr := B.returns
  have hlocks := B.notSynchronized
  rcases hR with ⟨k, ty, rfl, hd, e1, e2⟩ | ⟨k, rfl, hd, e1⟩ | ⟨k, nn, rfl, hd, e1⟩ | ⟨rfl, hd, e1⟩
  · exact W.zret hx hb (hr.trans e1) e2 (fun t ht _ => ⟨rfl, by rw [ht]; exact hP1, hS1.F ht⟩) (fun q hq => hS1.2.2 q hq) hd
  · exact W.lret hx hb (hr.trans e1) (fun t ht _ => ⟨rfl, by rw [ht]; exact hP1, hS1.F ht⟩) (fun q hq => hS1.2.2 q hq) hd
  · have hv2 : mj_cv G (va_rf k) = .null ∨ ∃ a, mj_cv G (va_rf k) = .ref a := by
      cases k with
      | none => exact .inl rfl
      | some a => exact .inr ⟨_, rfl⟩
    exact W.aret hx hb (hr.trans e1) (.inl ⟨nn, rfl⟩) hv2 (fun t ht _ => ⟨rfl, by rw [ht]; exact hP1, hS1.F ht⟩) (fun q hq => hS1.2.2 q hq) hd
  · exact W.vret hx hb (hr.trans e1) (fun t ht _ => ⟨rfl, by rw [ht]; exact hP1, hS1.F ht⟩) (fun q hq => hS1.2.2 q hq) hd
theorem mj_blind (G : mj_G) (as : List Value) (σ : mj_H) : FrameBlind (mj_Pc G as σ) := by
  intro a U g mk h
  obtain ⟨h0, h1, h2, h3⟩ := h
  exact ⟨h0, mj_Am_moved (U := U.calling g mk a) (locs := []) h1 (Vm.Alike.refl U.vm) (mj_Nn_same (s := U) (U := U.calling g mk a) rfl h1.2.2.2.2.2) va_S.rf, h2, h3⟩
theorem mj_call {p : Program} {l : Launch} {e : Env} {R : Room} {s : State} {m : MethodId} {args : Array Value} {below : List Frame} {meth : Method} {c : Code} {H : Heap} {locs : List Loc} {cells slots mc ms pc : Nat} {Q : State → Prop} {G : mj_G} {v : Option Value} {σ' : mj_H} {lsR : Array Slot} {st0 rest : List Value} {a : Array Value}
    (hr : va_Run p l e R s m args below meth c H locs cells slots mc ms (F0 m pc lsR st0) rest (mj_Qc G v σ' a) (mj_A G)) (hS : va_S (mj_A G) s.heap H locs)
    (kk : ∀ (H1 : Heap) (locs1 : List Loc), va_P G.2.2.2.1 mj_cl (mj_ws G σ') H1 → va_S (mj_A G) s.heap H1 locs1 → W p l e R s m args below meth c H1 locs1 (cells + mc) (slots + ms) Q (F0 m (pc + 3) lsR ((v.map (mj_cv G)).toList ++ rest))) : W p l e R s m args below meth c H locs cells slots Q (F0 m pc lsR st0) := by
  intro T hT X
  obtain ⟨v', st₀, t, T', L, h0, X', hL, e1, e2, ⟨hv, hp, hz, hk⟩, st⟩ := hr T hT X
  cases hv
  rw [h0] at hz hk
  obtain ⟨t2, a1, b1⟩ := kk T'.heap (locs ++ L) (by rw [e1]; exact hp)
    ⟨Nat.le_trans hS.1 (by rw [e1]; exact hz), fun q h1 h2 => by rw [e1, hk q (Nat.lt_of_lt_of_le h1 hS.1) h2]; exact hS.2.1 q h1 h2, fun q hq => by
      rcases List.mem_append.mp hq with h | h
      · exact hS.2.2 q h
      · exact hL q h⟩ T' rfl X'
  exact ⟨t2, st t2 a1, b1⟩
section MS4
variable {l : Launch} {G : mj_G} {d : Nat}
/-- what all kinds of calls share -/
theorem mj_calls {y z : mj_Y} {pc n : Nat} {as : List Value} {ls : mj_L} {st rest : List Value} {σ σ' : mj_H} {v : Option Value} {r : mj_R} (hz : mj_Mt z n) (hal : (mj_al as).length ≤ z.2.2.1) (h : mj_So l G d z 0 (mj_en z as) [] σ (v, σ')) (kk : mj_So l G (d + 1) y (pc + 3) ls (v.toList ++ rest) σ' r)
    (hrun : ∀ (p : Program) (e : Env) (R : Room) (s : State) (m : MethodId) (args : Array Value) (below : List Frame) (meth : Method) (c : Code) (n0 cells slots : Nat) (H : Heap) (locs : List Loc) (lsR : Array Slot) (rm : Room), mj_Cx G y (d + 1) p R s m args meth c n0 → mj_w σ → mj_lv G lsR y.2.2.1 ls → va_P G.2.2.2.1 mj_cl (mj_ws G σ) H → va_S (mj_A G) s.heap H locs → H.size = G.1 + σ.2.1 →
      rm = { frames := d + 1, cells := σ'.2.1 - σ.2.1, slots := σ'.2.2 - σ.2.2, locals := 64 * d + 200 } →
      Met l z.1 (Cond.code z.1 z.2.1 z.2.2.1 z.2.2.2 :: mj_gt) rm (mj_Pc G as σ) (mj_Qc G v σ') (σ'.2.1 - σ.2.1) (σ'.2.2 - σ.2.2) (mj_A G) → PreS s H (mj_Pc G as σ) (as.map (mj_cv G)) → (rm.frames + 1 ≤ R.frames ∧ 8 + (z.2.2.1 + 11) + rm.locals ≤ R.locals) → (cells + (σ'.2.1 - σ.2.1) ≤ R.cells ∧ slots + (σ'.2.2 - σ.2.2) ≤ R.slots) →
      ∃ a, va_Run p l e R s m args below meth c H locs cells slots (σ'.2.1 - σ.2.1) (σ'.2.2 - σ.2.2) (F0 m pc lsR (st.map (mj_cv G))) (rest.map (mj_cv G)) (mj_Qc G v σ' a) (mj_A G)) : mj_So l G (d + 1) y pc ls st σ r := by
  have hm1 := h.1
  have hm2 := kk.1
  refine ⟨fun hw => ?_, fun p e R s m args below meth c Q n0 q0 hc hw h1 h2 h3 hret H locs lsR hl hP hS => ?_⟩
  · obtain ⟨a1, a2, a3⟩ := hm1 hw
    obtain ⟨b1, b2, b3⟩ := hm2 a3
    exact ⟨Nat.le_trans a1 b1, Nat.le_trans a2 b2, b3⟩
  · obtain ⟨a1, a2, a3⟩ := hm1 hw
    obtain ⟨b1, b2, b3⟩ := hm2 a3
    have a1 : σ.2.1 ≤ σ'.2.1 := a1
    have a2 : σ.2.2 ≤ σ'.2.2 := a2
    refine mj_size fun hsz => ?_
    have hsz2 : H.size = G.1 + σ.2.1 := mj_size_eq hP hS hc.2.2.2.2.2.2.2.2.2.1 h1 rfl hsz
    have hAm := hc.2.2.2.2.2.2.2.2.1
    have hfr := hc.2.2.2.2.2.2.2.2.2.2.1
    have hlo := hc.2.2.2.2.2.2.2.2.2.2.2
    have h45 := hz.2.2.2.2
    obtain ⟨a, hr⟩ := hrun p e R s m args below meth c n0 (σ.2.1 - n0) (σ.2.2 - q0) H locs lsR _ hc hw hl hP hS hsz2 rfl (mj_met hz hal hw h)
      ⟨mj_blind G as σ, fun U hU hW => ⟨rfl, mj_Am_moved (locs := locs) hAm hW.alike (mj_Nn_warm hW hAm.2.2.2.2.2) (by rw [hU]; exact hS), by rw [hU]; exact hsz2, by rw [hU]; exact hP⟩⟩ ⟨hfr, by show 8 + (z.2.2.1 + 11) + (64 * d + 200) ≤ R.locals; omega⟩ ⟨by omega, by omega⟩
    refine mj_call hr hS fun H1 locs1 hP1 hS1 => ?_
    have k3 := kk.2 p e R s m args below meth c Q n0 q0 hc a3 (Nat.le_trans h1 a1) (Nat.le_trans h2 a2) h3 hret H1 locs1 lsR hl hP1 hS1
    have e3 : (v.map (mj_cv G)).toList ++ rest.map (mj_cv G) = (v.toList ++ rest).map (mj_cv G) := by cases v <;> simp
    rw [e3]
    refine W.cs ?_ ?_ k3 <;> omega
theorem mj_s42 (IH : ∀ (z : mj_Y) (as : List Value) (σ : mj_H) (r : mj_R), mj_Run G.2.2.2.2.2 d z 0 (mj_en z as) [] σ r → mj_So l G d z 0 (mj_en z as) [] σ r) : ∀ y pc z ci n a fs as ls st rest (σ σ' : mj_H) v r, mj_Cv y pc z ci n → σ.1 a = mj_O ci fs → as.length = n → st = as.reverse ++ .ref a :: rest → mj_cs rest ≤ 8 → (mj_al (.ref a :: as)).length ≤ z.2.2.1 → mj_Run G.2.2.2.2.2 d z 0 (mj_en z (.ref a :: as)) [] σ (v, σ') → mj_So l G (d + 1) y (pc + 3) ls (v.toList ++ rest) σ' r → mj_So l G (d + 1) y pc ls st σ r := by
  rintro y pc z ci n a fs as ls st rest σ σ' v r ⟨hci, hnm, hz, i, hd, w1, w2, w3⟩ hcell hlen rfl h8 hal hrun kk
  refine mj_calls hz hal (IH _ _ _ _ hrun) kk (fun p e R s m args below meth c n0 cells slots H locs lsR rm hc hw hl hP hS hsz hrm hM hpre hR hf => ?_)
  subst hrm
  obtain ⟨hx, hb, hr, hml, hown, hts, -, -, hAm, -⟩ := hc
  obtain ⟨T, N, ty0, c1, -⟩ := mj_cls hci
  refine ⟨_, va_runV (C := z.1.cls) (As := as.map (mj_cv G)) (b := G.1 + a) (rest := rest.map (mj_cv G)) ⟨hx, hb, hml, hown, hts⟩ hM ⟨callB_of n hts (mj_goodC hz.1) rfl rfl rfl (hts _ hz.2.1) (hts _ w1) hz.2.2.2.1 hR, hts _ w2, hts _ w3⟩ ⟨hpre.1, ?_, hpre.2⟩ rfl (by rw [List.length_map]; exact hlen) hl.1 ?_ (lv_room (by rw [mj_cs_map]; exact h8)) hd hf⟩
  · have := va_recv hAm.1 hP c1 (mj_ws_at G hw hcell)
    rw [← hnm]
    exact this
  · show (as.reverse ++ .ref a :: rest).map (mj_cv G) = _
    rw [List.map_append, List.map_reverse]
    rfl
theorem mj_s43 (IH : ∀ (z : mj_Y) (as : List Value) (σ : mj_H) (r : mj_R), mj_Run G.2.2.2.2.2 d z 0 (mj_en z as) [] σ r → mj_So l G d z 0 (mj_en z as) [] σ r) : ∀ y pc z n as ls st rest (σ σ' : mj_H) v r, mj_Cs y pc z n → as.length = n → st = as.reverse ++ rest → mj_cs rest ≤ 8 → (mj_al as).length ≤ z.2.2.1 → mj_Run G.2.2.2.2.2 d z 0 (mj_en z as) [] σ (v, σ') → mj_So l G (d + 1) y (pc + 3) ls (v.toList ++ rest) σ' r → mj_So l G (d + 1) y pc ls st σ r := by
  rintro y pc z n as ls st rest σ σ' v r ⟨hz, i, hd, w1, w2⟩ hlen rfl h8 hal hrun kk
  refine mj_calls hz hal (IH _ _ _ _ hrun) kk (fun p e R s m args below meth c n0 cells slots H locs lsR rm hc hw hl hP hS hsz hrm hM hpre hR hf => ?_)
  subst hrm
  obtain ⟨hx, hb, hr, hml, hown, hts, -⟩ := hc
  have hgood : GoodIn mj_tb (Cond.code z.1 z.2.1 z.2.2.1 z.2.2.2 :: mj_gt) := mj_goodC hz.1
  have hst : (as.reverse ++ rest).map (mj_cv G) = (as.map (mj_cv G)).reverse ++ rest.map (mj_cv G) := by
    rw [List.map_append, List.map_reverse]
  rcases w2 with w2 | ⟨hh, w2⟩
  · exact ⟨_, va_runS (As := as.map (mj_cv G)) (rest := rest.map (mj_cv G)) ⟨hx, hb, hml, hown, hts⟩ hM ⟨callB_of n hts hgood rfl rfl rfl (hts _ hz.2.1) (hts _ w2) hz.2.2.2.1 hR, hts _ w1⟩ hpre rfl (by rw [List.length_map]; exact hlen) hl.1 hst (lv_room (by rw [mj_cs_map]; exact h8)) hd hf⟩
  · exact ⟨_, va_runSN (As := as.map (mj_cv G)) (rest := rest.map (mj_cv G)) ⟨hx, hb, hml, hown, hts⟩ hM ⟨va_cnB n hts hgood rfl rfl rfl (va_Nw.of rfl (hts _ w2)) (hts _ hz.2.1) hz.2.2.2.1 hR, hts _ w1, trivial⟩ hpre rfl (by rw [List.length_map]; exact hlen) hl.1 hst (lv_room (by rw [mj_cs_map]; exact h8)) hd hf⟩
theorem mj_s44 (IH : ∀ (z : mj_Y) (as : List Value) (σ : mj_H) (r : mj_R), mj_Run G.2.2.2.2.2 d z 0 (mj_en z as) [] σ r → mj_So l G d z 0 (mj_en z as) [] σ r) : ∀ y pc z n a as ls st rest (σ σ' : mj_H) v r, mj_Ci y pc z n → as.length = n → st = as.reverse ++ .ref a :: rest → mj_cs rest ≤ 8 → (mj_al (.ref a :: as)).length ≤ z.2.2.1 → mj_Run G.2.2.2.2.2 d z 0 (mj_en z (.ref a :: as)) [] σ (v, σ') → mj_So l G (d + 1) y (pc + 3) ls (v.toList ++ rest) σ' r → mj_So l G (d + 1) y pc ls st σ r := by
  rintro y pc z n a as ls st rest σ σ' v r ⟨hz, hnm, hret, i, hd, w1, w2⟩ hlen rfl h8 hal hrun kk
  refine mj_calls hz hal (IH _ _ _ _ hrun) kk (fun p e R s m args below meth c n0 cells slots H locs lsR rm hc hw hl hP hS hsz hrm hM hpre hR hf => ?_)
  subst hrm
  obtain ⟨hx, hb, hr, hml, hown, hts, -⟩ := hc
  have hgood : GoodIn mj_tb (Cond.code z.1 z.2.1 z.2.2.1 none :: mj_gt) := mj_goodC (by rw [← hret]; exact hz.1)
  have hst : (as.reverse ++ .ref a :: rest).map (mj_cv G) = (as.map (mj_cv G)).reverse ++ .ref (G.1 + a) :: rest.map (mj_cv G) := by
    rw [List.map_append, List.map_reverse]
    rfl
  rw [hret] at hM
  rcases w2 with w2 | ⟨hh, w2⟩
  · exact ⟨_, va_runI (As := as.map (mj_cv G)) (b := G.1 + a) (rest := rest.map (mj_cv G)) ⟨hx, hb, hml, hown, hts⟩ hM ⟨callB_of n hts hgood rfl rfl rfl (hts _ hz.2.1) (hts _ w2) hz.2.2.2.1 hR, hnm, hts _ w1⟩ hpre rfl (by rw [List.length_map]; exact hlen) hl.1 hst (lv_room (by rw [mj_cs_map]; exact h8)) hd hf⟩
  · exact ⟨_, va_runIN (As := as.map (mj_cv G)) (b := G.1 + a) (rest := rest.map (mj_cv G)) ⟨hx, hb, hml, hown, hts⟩ hM ⟨va_cnB n hts hgood rfl rfl rfl (va_Nw.of rfl (hts _ w2)) (hts _ hz.2.1) hz.2.2.2.1 hR, hnm, hts _ w1⟩ hpre rfl (by rw [List.length_map]; exact hlen) hl.1 hst (lv_room (by rw [mj_cs_map]; exact h8)) hd hf⟩
end MS4
end
section
/-! THE SMALL MACHINE IS SOUND, and its rules as they are used -/
theorem mj_sound (l : Launch) (G : mj_G) : ∀ (d : Nat) (y : mj_Y) (pc : Nat) (ls : mj_L) (st : List Value) (σ : mj_H) (r : mj_R), mj_Run G.2.2.2.2.2 d y pc ls st σ r → mj_So l G d y pc ls st σ r
  | 0, y, pc, ls, st, σ, r, h => h (mj_So l G 0) (fun t => match t with
    | 0 => mj_s0
    | 1 => mj_s1
    | 2 => mj_s2
    | 3 => mj_s3
    | 4 => mj_s4
    | 5 => mj_s5
    | 6 => mj_s6
    | 7 => mj_s7
    | 8 => mj_s8
    | 9 => mj_s9
    | 10 => mj_s10
    | 11 => mj_s11
    | 12 => mj_s12
    | 13 => mj_s13
    | 14 => mj_s14
    | 15 => mj_s15
    | 16 => mj_s16
    | 17 => mj_s17
    | 18 => mj_s18
    | 19 => mj_s19
    | 20 => mj_s20
    | 21 => mj_s21
    | 22 => mj_s22
    | 23 => mj_s23
    | 24 => mj_s24
    | 25 => mj_s25
    | 26 => mj_s26
    | 27 => mj_s27
    | 28 => mj_s28
    | 29 => mj_s29
    | 30 => mj_s30
    | 31 => mj_s31
    | 32 => mj_s32
    | 33 => mj_s33
    | 34 => mj_s34
    | 35 => mj_s35
    | 36 => mj_s36
    | 37 => mj_s37
    | 38 => mj_s38
    | 39 => mj_s39
    | 40 => mj_s40
    | 41 => mj_s41
    | 42 => fun _ _ _ _ _ _ _ _ _ _ _ _ _ _ _ _ _ _ _ _ _ h _ => h.elim
    | 43 => fun _ _ _ _ _ _ _ _ _ _ _ _ _ _ _ _ _ h _ => h.elim
    | 44 => fun _ _ _ _ _ _ _ _ _ _ _ _ _ _ _ _ _ _ h _ => h.elim
    | _ + 45 => trivial)
  | d + 1, y, pc, ls, st, σ, r, h => h (mj_So l G (d + 1)) (fun t => match t with
    | 0 => mj_s0
    | 1 => mj_s1
    | 2 => mj_s2
    | 3 => mj_s3
    | 4 => mj_s4
    | 5 => mj_s5
    | 6 => mj_s6
    | 7 => mj_s7
    | 8 => mj_s8
    | 9 => mj_s9
    | 10 => mj_s10
    | 11 => mj_s11
    | 12 => mj_s12
    | 13 => mj_s13
    | 14 => mj_s14
    | 15 => mj_s15
    | 16 => mj_s16
    | 17 => mj_s17
    | 18 => mj_s18
    | 19 => mj_s19
    | 20 => mj_s20
    | 21 => mj_s21
    | 22 => mj_s22
    | 23 => mj_s23
    | 24 => mj_s24
    | 25 => mj_s25
    | 26 => mj_s26
    | 27 => mj_s27
    | 28 => mj_s28
    | 29 => mj_s29
    | 30 => mj_s30
    | 31 => mj_s31
    | 32 => mj_s32
    | 33 => mj_s33
    | 34 => mj_s34
    | 35 => mj_s35
    | 36 => mj_s36
    | 37 => mj_s37
    | 38 => mj_s38
    | 39 => mj_s39
    | 40 => mj_s40
    | 41 => mj_s41
    | 42 => mj_s42 (fun z as σ r h => mj_sound l G d z 0 (mj_en z as) [] σ r h)
    | 43 => mj_s43 (fun z as σ r h => mj_sound l G d z 0 (mj_en z as) [] σ r h)
    | 44 => mj_s44 (fun z as σ r h => mj_sound l G d z 0 (mj_en z as) [] σ r h)
    | _ + 45 => trivial)
end
section
/-- the law, run by the small machine -/
theorem mj_law (X : mj_X) (hL : X.1 ≤ 2048) : ∃ σ', mj_Run X 900 y_Law_law 0 (mj_en y_Law_law [.float 1]) [] (fun _ => none, 0, 0) (some (.int 1), σ') ∧ σ'.2.1 ≤ 600000 ∧ σ'.2.2 ≤ 7302250 := sorry
end
section
-- ===== end of PART A; then your names; then what follows =====
/-! THE CLAIM OUT OF ONE WALK OF THE LAW'S BODY. Your part is whole_start (and what it stands on); all else here is the same for every law, but numbers. -/
def R_law : String := "GalleryWatchLaw"
def lw_P (b : Addr) (xs : List Int32) (args : Array Value) (s : State) : Prop := args = #[.ref b] ∧ s.IntsAt b xs ∧ xs.length ≤ 2048 ∧ (Jvm.Cond.and given_1 narrow_1).before args s = true
def lw_Q (_ : Array Value) (s : State) (o : Outcome) (t : State) : Prop := o = .returned (some (.int 1)) ∧ Framed s o t [] 600000 7302250
def lw_Z (below : List Frame) (a : Array Value) (s : State) : State → Prop := fun t => ∃ o, t.status = .running ∧ Ended t below o ∧ lw_Q a s o t
/-- the law's own end, with 1 on the stack, nothing written that was there before, its room as the claim has it -/
theorem lw_ret {p : Program} {l : Launch} {e : Env} {s : State} {m : MethodId} {below : List Frame} {meth : Method} {c : Code} {b : Nat} (hx : p.tables.exec = Jvm.exec) (hb : c.code = code) (hr : meth.sig.returnType = ret) (hlocks : meth.locks = false) {pc : Nat} {H : Heap} {ls : Array Slot} (hdg : decode code pc = .ok (.ireturn, 1)) : W p l e room_1 s m #[Value.ref b] below meth c H [] 600000 7302250 (lw_Z below #[Value.ref b] s) (F0 m pc ls [.int 1]) := by
  intro T hT X
  obtain ⟨fs, hret, hrun, hended, hW, hframe⟩ := X.leave (v := some (.int 1)) (hlocks := hlocks) (fun h => by rw [hr] at h; cases h)
  have hmeth' : T.vm.method? m = some meth := X.method'
  refine ⟨T.setFrames fs, ?_, .returned (some (.int 1)), hrun, hended, rfl, ⟨_, rfl⟩, hW, hframe⟩
  jvm_step X.here [X.here.top, hx, hb, hdg, hmeth', hr, ret, narrow_b1]
  (try refine ⟨rfl, ?_⟩); (try refine ⟨rfl, ?_⟩)
  first | (intro acts; rw [hret _ acts rfl rfl rfl]) | rw [hret _ _ rfl rfl rfl]
  exact Steps.refl _
/-- what holds at the law's entry: the machine, the code, the tables' words (any of lw_tbl by 'hts w (by decide +kernel)'), the script of L ints xs at the cell b, what the Statement gives of the start (any of its parts by flat_of_before) -/
def lw_At (p : Program) (s : State) (m : MethodId) (meth : Method) (c : Code) (b L : Nat) (xs : Nat → Int32) : Prop :=
  p.tables.exec = Jvm.exec ∧ c.code = code ∧ meth.sig.returnType = ret ∧ c.maxLocals = 4 ∧ s.vm.findClass R_law = some m.cls ∧ (∀ w ∈ lw_tbl, w.before #[Value.ref b] s = true) ∧ va_X b L xs s s.heap ∧ b < s.heap.size ∧ meth.locks = false ∧ (Jvm.Cond.and given_1 narrow_1).before #[Value.ref b] s = true

theorem mj_arr_prim {s : State} {args : Array Value} {ty : FieldType} (hty : ∀ C, ty ≠ .object C) (h : (Cond.arrayClass ty).before args s = true) : ∃ cA, ArrOfT s cA ty ∧ va_RA s cA ty := by
  obtain ⟨c, k, comp, h1, h2, h3⟩ := Cond.arrayClass_spec h
  refine ⟨c, fun N z => ⟨(fun k h => by cases h), k, h2, comp, h3⟩, ?_⟩
  cases ty with
  | object C => exact absurd rfl (hty C)
  | _ => exact h1
theorem mj_arr_ref {s : State} {args : Array Value} {C : String} (h : (Cond.arrayOver (.object C)).before args s = true) : ∃ cA, ArrOfT s cA (.object C) ∧ va_RA s cA (.object C) := by
  obtain ⟨comp, c, k, h0, -, h2, h3, h1⟩ := Cond.arrayOver_spec h
  exact ⟨c, fun N z => ⟨(fun k h => by cases h), k, h2, comp, h3⟩, k, comp, h2, h3, h0, h1⟩
set_option maxHeartbeats 4000000 in
set_option maxRecDepth 100000 in
/-- THE LAW, from its entry -/
theorem whole_start {p : Program} {e : Env} {s : State} {m : MethodId} {below : List Frame} {meth : Method} {c : Code} (l : Launch) {b L : Nat} {xs : Nat → Int32} (hL : L ≤ 2048) (C0 : lw_At p s m meth c b L xs) : W p l e room_1 s m #[Value.ref b] below meth c s.heap [] 0 0 (lw_Z below #[Value.ref b] s) (entryFrame m ([Value.ref b] : List Value).toArray 4) := by
  obtain ⟨hx, hb, hr, hml, hown, hts0, hX, hbl, hlocks, hgv⟩ := id C0
  have hts : ∀ w ∈ mj_tb, w.before #[Value.ref b] s = true := fun w hw => hts0 w (List.mem_filter.mp hw).1
  obtain ⟨c0, i0, K0⟩ := u_known (C := "GalleryWatch$Choice") (T := mj_T0) (N := 11) (n := 11) hts mj_in0 (hts _ (by decide +kernel))
  obtain ⟨c1, i1, K1⟩ := u_known (C := "GalleryWatch$Past") (T := mj_T1) (N := 3) (n := 3) hts mj_in1 (hts _ (by decide +kernel))
  obtain ⟨c2, i2, K2⟩ := u_known (C := "GalleryWatch$Post") (T := mj_T2) (N := 6) (n := 6) hts mj_in2 (hts _ (by decide +kernel))
  obtain ⟨c3, i3, K3⟩ := u_known (C := "GalleryWatch$Proof") (T := mj_T3) (N := 8) (n := 8) hts mj_in3 (hts _ (by decide +kernel))
  obtain ⟨c4, i4, K4⟩ := u_known (C := "GalleryWatch$Room") (T := mj_T4) (N := 5) (n := 5) hts mj_in4 (hts _ (by decide +kernel))
  obtain ⟨c5, i5, K5⟩ := u_known (C := "GalleryWatch$Shade") (T := mj_T5) (N := 3) (n := 3) hts mj_in5 (hts _ (by decide +kernel))
  obtain ⟨c6, i6, K6⟩ := u_known (C := "GalleryWatch$View") (T := mj_T6) (N := 3) (n := 3) hts mj_in6 (hts _ (by decide +kernel))
  obtain ⟨c7, i7, K7⟩ := u_known (C := "GalleryWatch") (T := mj_T7) (N := 7) (n := 7) hts mj_in7 (hts _ (by decide +kernel))
  obtain ⟨c8, i8, K8⟩ := u_known (C := "GalleryWatchModel") (T := mj_T8) (N := 25) (n := 25) hts mj_in8 (hts _ (by decide +kernel))
  obtain ⟨a0, A0⟩ := mj_arr_prim (ty := .int) (fun C h => by cases h) (hts _ (by decide +kernel))
  obtain ⟨a1, A1⟩ := mj_arr_prim (ty := .long) (fun C h => by cases h) (hts _ (by decide +kernel))
  obtain ⟨a2, A2⟩ := mj_arr_prim (ty := .boolean) (fun C h => by cases h) (hts _ (by decide +kernel))
  obtain ⟨a3, A3⟩ := mj_arr_ref (C := "GalleryWatch$Post") (hts _ (by decide +kernel))
  obtain ⟨a4, A4⟩ := mj_arr_ref (C := "GalleryWatch$Room") (hts _ (by decide +kernel))
  have hs := flat_of_before _ hgv
  have hA : ∀ a : Nat, a < s.heap.size → ¬ (s.heap.size ≤ a) := fun a h => Nat.not_le.mpr h
  have helem : ∀ j : Nat, j < 5 → (Term.elem (.static "GalleryWatch" "KINDS_OF" "[I") (.int (Int32.ofNat j))).eval #[Value.ref b] s none [] s = some (.int (mj_kd j)) := by
    intro j hj
    match j, hj with
    | 0, _ => exact va_eqt (hs _ (by decide +kernel))
    | 1, _ => exact va_eqt (hs _ (by decide +kernel))
    | 2, _ => exact va_eqt (hs _ (by decide +kernel))
    | 3, _ => exact va_eqt (hs _ (by decide +kernel))
    | 4, _ => exact va_eqt (hs _ (by decide +kernel))
  obtain ⟨kA, hkA, hT⟩ := va_Tof (A := fun q => s.heap.size ≤ q) (tm := .static "GalleryWatch" "KINDS_OF" "[I") (ty := .int) (N := 5) (f := fun j => .int (mj_kd j)) (by decide) (hs _ (by decide +kernel)) (va_eqt (z := 5) (hs _ (by decide +kernel))) helem hA
  have hZ := va_Zof (A := fun q => s.heap.size ≤ q) (C := "GalleryWatch") (n := "KINDS_OF") (d := "[I") (hts0 _ (by decide +kernel)) (hts _ (by decide +kernel)) hkA hA
  obtain ⟨dC, hdC⟩ : ∃ dC : Nat → ClassId, dC 0 = c0 ∧ dC 1 = c1 ∧ dC 2 = c2 ∧ dC 3 = c3 ∧ dC 4 = c4 ∧ dC 5 = c5 ∧ dC 6 = c6 ∧ dC 7 = c7 ∧ dC 8 = c8 := ⟨fun k => match k with | 0 => c0 | 1 => c1 | 2 => c2 | 3 => c3 | 4 => c4 | 5 => c5 | 6 => c6 | 7 => c7 | _ => c8, rfl, rfl, rfl, rfl, rfl, rfl, rfl, rfl, rfl⟩
  obtain ⟨dI, hdI⟩ : ∃ dI : Nat → Nat → Nat, dI 0 = i0 ∧ dI 1 = i1 ∧ dI 2 = i2 ∧ dI 3 = i3 ∧ dI 4 = i4 ∧ dI 5 = i5 ∧ dI 6 = i6 ∧ dI 7 = i7 ∧ dI 8 = i8 := ⟨fun k => match k with | 0 => i0 | 1 => i1 | 2 => i2 | 3 => i3 | 4 => i4 | 5 => i5 | 6 => i6 | 7 => i7 | _ => i8, rfl, rfl, rfl, rfl, rfl, rfl, rfl, rfl, rfl⟩
  obtain ⟨cA, hcA⟩ : ∃ cA : Nat → ClassId, cA 0 = a0 ∧ cA 1 = a1 ∧ cA 2 = a2 ∧ cA 3 = a3 ∧ cA 4 = a4 := ⟨fun k => match k with | 0 => a0 | 1 => a1 | 2 => a2 | 3 => a3 | _ => a4, rfl, rfl, rfl, rfl, rfl⟩
  obtain ⟨d0, d1, d2, d3, d4, d5, d6, d7, d8⟩ := hdC
  obtain ⟨f0, f1, f2, f3, f4, f5, f6, f7, f8⟩ := hdI
  obtain ⟨g0, g1, g2, g3, g4⟩ := hcA
  obtain ⟨σ', hrun, hn, hq⟩ := mj_law (L, xs) hL
  have hso := mj_sound l (s.heap.size, kA, b, (dC, dI), cA, (L, xs)) 900 _ _ _ _ _ _ hrun
  have hK : va_K (dC, dI) mj_cl (mj_tys (s.heap.size, kA, b, (dC, dI), cA, (L, xs))) s := by
    refine ⟨fun k q h => ?_, fun k q h => ?_⟩
    · match k, h with
      | 0, h => cases h; show u_Kn s _ _ _ (dC 0) (dI 0); rw [d0, f0]; exact K0
      | 1, h => cases h; show u_Kn s _ _ _ (dC 1) (dI 1); rw [d1, f1]; exact K1
      | 2, h => cases h; show u_Kn s _ _ _ (dC 2) (dI 2); rw [d2, f2]; exact K2
      | 3, h => cases h; show u_Kn s _ _ _ (dC 3) (dI 3); rw [d3, f3]; exact K3
      | 4, h => cases h; show u_Kn s _ _ _ (dC 4) (dI 4); rw [d4, f4]; exact K4
      | 5, h => cases h; show u_Kn s _ _ _ (dC 5) (dI 5); rw [d5, f5]; exact K5
      | 6, h => cases h; show u_Kn s _ _ _ (dC 6) (dI 6); rw [d6, f6]; exact K6
      | 7, h => cases h; show u_Kn s _ _ _ (dC 7) (dI 7); rw [d7, f7]; exact K7
      | 8, h => cases h; show u_Kn s _ _ _ (dC 8) (dI 8); rw [d8, f8]; exact K8
      | k + 9, h => simp [mj_cl] at h
    · match k, h with
      | 0, h => cases h; show ArrOfT s (cA 0) .int ∧ va_RA s (cA 0) .int; rw [g0]; exact A0
      | 1, h => cases h; show ArrOfT s (cA 1) .long ∧ va_RA s (cA 1) .long; rw [g1]; exact A1
      | 2, h => cases h; show ArrOfT s (cA 2) .boolean ∧ va_RA s (cA 2) .boolean; rw [g2]; exact A2
      | 3, h => cases h; show ArrOfT s (cA 3) (.object "GalleryWatch$Post") ∧ va_RA s (cA 3) (.object "GalleryWatch$Post"); rw [g3]; exact A3
      | 4, h => cases h; show ArrOfT s (cA 4) (.object "GalleryWatch$Room") ∧ va_RA s (cA 4) (.object "GalleryWatch$Room"); rw [g4]; exact A4
      | k + 5, h => rw [List.getElem?_eq_none (by simp [mj_tys])] at h; cases h
  have hNn : mj_Nn s := by
    refine ⟨fun w hw hn => ?_, va_AO.moved (Vm.Alike.refl s.vm) (va_AO.of (A := #[Value.ref b]) (hts _ (by decide +kernel))), va_AO.moved (Vm.Alike.refl s.vm) (va_AO.of (A := #[Value.ref b]) (hts _ (by decide +kernel)))⟩
    have h1 := hts w hw
    cases w <;> first | exact va_Nw.of rfl h1 | (simp [mj_nest] at hn)
  have hw0 : mj_w ((fun _ => none, 0, 0) : mj_H) := fun _ _ => rfl
  have hent := mj_en_lv (s.heap.size, kA, b, (dC, dI), cA, (L, xs)) (z := y_Law_law) (as := [.float 1]) (by decide)
  have hmap : ([.float 1] : List Value).map (mj_cv (s.heap.size, kA, b, (dC, dI), cA, (L, xs))) = [.ref b] := by
    show [mj_cv _ (.float 1)] = _
    rw [mj_cv_f1]
  rw [hmap] at hent
  rw [lg_entry_eq]
  refine hso.2 p e room_1 s m #[Value.ref b] below meth c _ 0 0 ⟨hx, hb, hr, hml, hown, hts, fun h => absurd h (by decide), hlocks, ⟨hK, hZ, hT, hX, hbl, hNn⟩, rfl, by decide, by decide⟩ hw0 (Nat.le_refl _) (Nat.le_refl _) ⟨by show σ'.2.1 - 0 ≤ 600000; omega, by show σ'.2.2 - 0 ≤ 7302250; omega⟩ ?_ s.heap [] _ hent (fun k q h => by simp [mj_ws] at h) va_S.rf
  intro pcr lsR H locs hR hP hS
  rcases hR with ⟨k, ty, e1, hd, -⟩ | ⟨k, e1, -⟩ | ⟨k, nn, e1, -⟩ | ⟨e1, -⟩
  · refine va_forget (fun q hq => hS.2.2 q hq) ?_
    refine W.widen (k := 600000) (n := 7302250) (by show σ'.2.1 - 0 ≤ 600000; omega) (by show σ'.2.2 - 0 ≤ 7302250; omega) ?_
    exact lw_ret hx hb hr hlocks hd
  · cases e1
  · cases k <;> cases e1
  · cases e1
-- ===== YOUR PART ENDS =====
set_option maxHeartbeats 4000000 in
theorem lw_walk (l : Launch) (b : Addr) (xs : List Int32) : MetFree l x (headSpec (Jvm.Cond.code x code maxLocals ret :: tables_1) room_1) (lw_P b xs) (fun _ _ _ _ _ => True) lw_Q := by
  refine MetFree.of_bodyS (code := code) (maxLocals := maxLocals) (ret := ret) (by decide) ?_ ?_
  · intro args s m h hn
    obtain ⟨meth, c, h1, h2, h3, h4, h5, h6, -, -⟩ := Cond.code_spec hn (atoms_spec (ws := Jvm.Cond.code x code maxLocals ret :: tables_1) h _ List.mem_cons_self)
    exact ⟨meth, c, h1, h2, h3, h4, h5, h6⟩
  · intro p e s m args below meth c s₁ B hml0 hP _
    obtain ⟨rfl, hx, hbd, hgv⟩ := hP
    obtain ⟨scr, harrAt, hlist, hof, hsmall⟩ := hx
    obtain ⟨hcb, hkn, -, -⟩ := State.arrayAt?_spec harrAt
    have hown : s.vm.findClass R_law = some m.cls := findClass_of_methodNamed B.named
    have hts0 : ∀ c ∈ (Jvm.Cond.code x code maxLocals ret :: tables_1), c.before #[Value.ref b] s = true := atoms_spec (ws := Jvm.Cond.code x code maxLocals ret :: tables_1) B.pre
    have hts : ∀ w ∈ lw_tbl, w.before #[Value.ref b] s = true := k2_hts_sels lw_privs (fun w hw => hts0 w (List.mem_cons_of_mem _ hw)) lw_privs_ok
    have hml : c.maxLocals = 4 := B.maxLocals_eq (hts0 _ List.mem_cons_self)
    have X₀ : Stand p l e room_1 s m #[Value.ref b] below meth c s₁ [] 0 0 := Stand.of_body B
    have hh0 : s₁.heap = s.heap := by rw [B.state]; rfl
    have hsz : scr.slots.size = xs.length := by rw [← Array.length_toList, hlist, List.length_map]
    have hval : ∀ j : Nat, j < xs.length → scr.slots[j]? = some (.int (xs.getD j 0)) := fun j hj => by
      rw [← Array.getElem?_toList, hlist]
      simp [hj]
    have hbl : b < s.heap.size := (Array.getElem?_eq_some_iff.mp hcb).1
    have hX : va_X b xs.length (fun j => xs.getD j 0) s s.heap := ⟨scr, hcb, hof, hkn, hsz, hval⟩
    have K : W p l e room_1 s m #[Value.ref b] below meth c s₁.heap [] 0 0 (lw_Z below #[Value.ref b] s) (entryFrame m ([Value.ref b] : List Value).toArray 4) := by
      rw [hh0]
      exact whole_start l hbd ⟨B.exec, B.bytes, B.returns, hml, hown, hts, hX, hbl, B.notSynchronized, hgv⟩
    obtain ⟨t, a1, o, b1, b2, b3⟩ := K s₁ rfl X₀
    exact ⟨t, o, a1, b1, b2, b3⟩
theorem lw_pre_spec {args : Array Value} {s : State} (h : (Jvm.Cond.and given_1 narrow_1).before args s = true) (hr : rest_1_c.before args s = true) : ∃ (b : Addr) (xs : List Int32), lw_P b xs args s := by
  have hs := flat_of_before _ h
  have hq := flat_of_before _ hr
  have hc : (Cond.count 1).before args s = true := hs _ (by decide +kernel)
  have harr : (Cond.arrayOf (.arg 0) .int).before args s = true := hs _ (by decide +kernel)
  have hle : (Cond.le (.length (.arg 0)) (.int 2048)).before args s = true := hs _ (by decide +kernel)
  have hlen : (Cond.isInt (.length (.arg 0))).before args s = true := hq _ (by decide +kernel)
  have hall : (Cond.all (.arg 0) (.isInt (.elem (.arg 0) (.index 0)))).before args s = true := hq _ (by decide +kernel)
  obtain ⟨b, xs, hb, hx⟩ := State.ints_of_pre rfl harr hlen hall
  have hsm : xs.length < 2 ^ 31 := hx.choose_spec.2.2.2
  have hev : (Term.length (.arg 0)).eval args s none [] s = some (.int xs.length.toInt32) := hx.length_eval hb
  have hv := Cond.le_ints hev (show (Term.int 2048).eval args s none [] s = some (.int 2048) from rfl)
  have hd : xs.length.toInt32 ≤ 2048 := by
    simpa [Cond.before, Cond.holds, hv] using hle
  have hN : xs.length ≤ 2048 := (Int32.ofNat_le_ofNat hsm (by decide)).mp (show Int32.ofNat xs.length ≤ Int32.ofNat 2048 from hd)
  exact ⟨b, xs, Cond.one_arg hc (show args[0]? = some (.ref b) from hb), hx, hN, h⟩
theorem lw_comes (l : Launch) : Comes l x (Jvm.Cond.code x code maxLocals ret :: tables_1) room_1 (fun tb e args s => Calls_1 tb e args s ∧ rest_1 tb e args s ∧ Pre_1 tb e args s)
    (fun _ _ args s o t => lw_Q args s o t) := by
  intro p e ha hc hk s m args below hf hfit hheap happ hpre
  obtain ⟨b, xs, hP⟩ := lw_pre_spec hpre.2.2 hpre.2.1
  obtain ⟨k, o, h1, h2, h3, hQ⟩ := lw_walk l b xs p e ha hc hk s m args below hf ((Spec.applies_iff_loose hf).mp happ).1 hP trivial
  exact ⟨k, o, h1, h2, h3, hQ⟩
theorem lw_frame {s t : State} {o : Outcome} {args : Array Value} (h : Framed s o t [] 600000 7302250) :
    Framed s o t (fieldLocs frame_1_writes args s ++ arrayLocs frame_1_arrays args s ++ staticLocs frame_1_statics s) 600000 7302250 := h
theorem lw_limb (L : Cond) (hL : ∀ (args : Array Value) (s t : State), L.after args s (.returned (some (.int 1))) t = true) :
    ArmFor flags0 classFile x code maxLocals ret World_1 tables_1 room_1 Calls_1 rest_1 Pre_1
      (fun tb e a s o t => postC L tb e a s o t ∧ Framed s o t (fieldLocs frame_1_writes a s ++ arrayLocs frame_1_arrays a s ++ staticLocs frame_1_statics s) 600000 7302250) := by
  intro l _ _ _ p e ha hc hk s m args below hf hfit hheap happ hpre
  obtain ⟨k, o, h1, h2, h3, rfl, hF⟩ := lw_comes l p e ha hc hk s m args below hf hfit hheap happ hpre
  exact ⟨k, _, h1, h2, h3, hL args s _, lw_frame hF⟩
theorem i_vc : Claimed_1_1 ∧ Claimed_1_2 := ⟨lw_limb limb_1_1 (fun args s t => by simp [limb_1_1, Cond.after, Cond.holds, Cond.value]), lw_limb limb_1_2 (fun args s t => Cond.after_iff.mpr (by
  first | (rw [show limb_1_2 = Cond.eq .result (.int 1) from rfl, Cond.eq_ints (x := 1) (y := 1) rfl rfl]; simp; done) | (simp [limb_1_2, Cond.value, Term.eval]; done)))⟩
end
