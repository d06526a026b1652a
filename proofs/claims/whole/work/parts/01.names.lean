-- ===== PART A: goes FIRST, ahead of the names: the tables' words, and 'selects' of the private methods out of them =====
/-- a private method of a class that the tables say can be made, by its rows of tables_1 -/
def lw_okq (q : MethodName × Nat) : Prop := (q.1.cls ≠ "java/lang/invoke/MethodHandle" ∧ q.1.cls ≠ "java/lang/invoke/VarHandle") ∧ Cond.instantiable q.1.cls q.2 ∈ tables_1 ∧ Cond.privateMethod q.1 ∈ tables_1 ∧ Cond.instanceMethod q.1 ∈ tables_1
theorem lw_p0 : lw_okq (⟨"RingFrames$Ring", "putNewLink", "(II)V"⟩, 12) := ⟨⟨by decide +kernel, by decide +kernel⟩, List.mem_of_getElem? (i := 24) (by decide +kernel), List.mem_of_getElem? (i := 55) (by decide +kernel), List.mem_of_getElem? (i := 56) (by decide +kernel)⟩
theorem lw_p1 : lw_okq (⟨"RingFrames$Text", "stepOverFigures", "()V"⟩, 6) := ⟨⟨by decide +kernel, by decide +kernel⟩, List.mem_of_getElem? (i := 119) (by decide +kernel), List.mem_of_getElem? (i := 317) (by decide +kernel), List.mem_of_getElem? (i := 318) (by decide +kernel)⟩
theorem lw_p2 : lw_okq (⟨"RingFrames$Reader", "readsItem", "(LRingFrames$Ring;)Z"⟩, 2) := ⟨⟨by decide +kernel, by decide +kernel⟩, List.mem_of_getElem? (i := 148) (by decide +kernel), List.mem_of_getElem? (i := 324) (by decide +kernel), List.mem_of_getElem? (i := 325) (by decide +kernel)⟩
theorem lw_p3 : lw_okq (⟨"RingFrames$Reader", "readsDrive", "(LRingFrames$Ring;)Z"⟩, 2) := ⟨⟨by decide +kernel, by decide +kernel⟩, List.mem_of_getElem? (i := 148) (by decide +kernel), List.mem_of_getElem? (i := 328) (by decide +kernel), List.mem_of_getElem? (i := 329) (by decide +kernel)⟩
theorem lw_p4 : lw_okq (⟨"RingFrames$Reader", "takeNumber", "(II)I"⟩, 2) := ⟨⟨by decide +kernel, by decide +kernel⟩, List.mem_of_getElem? (i := 148) (by decide +kernel), List.mem_of_getElem? (i := 334) (by decide +kernel), List.mem_of_getElem? (i := 335) (by decide +kernel)⟩
theorem lw_p5 : lw_okq (⟨"RingFrames$Reader", "takesEnd", "()Z"⟩, 2) := ⟨⟨by decide +kernel, by decide +kernel⟩, List.mem_of_getElem? (i := 148) (by decide +kernel), List.mem_of_getElem? (i := 338) (by decide +kernel), List.mem_of_getElem? (i := 339) (by decide +kernel)⟩
theorem lw_p6 : lw_okq (⟨"RingFrames$Reader", "readsClosing", "(LRingFrames$Ring;)Z"⟩, 2) := ⟨⟨by decide +kernel, by decide +kernel⟩, List.mem_of_getElem? (i := 148) (by decide +kernel), List.mem_of_getElem? (i := 343) (by decide +kernel), List.mem_of_getElem? (i := 344) (by decide +kernel)⟩
theorem lw_p7 : lw_okq (⟨"RingFrames$Reader", "readsLimit", "(LRingFrames$Ring;)Z"⟩, 2) := ⟨⟨by decide +kernel, by decide +kernel⟩, List.mem_of_getElem? (i := 148) (by decide +kernel), List.mem_of_getElem? (i := 356) (by decide +kernel), List.mem_of_getElem? (i := 357) (by decide +kernel)⟩
theorem lw_p8 : lw_okq (⟨"RingFrames", "adoptDraft", "()V"⟩, 11) := ⟨⟨by decide +kernel, by decide +kernel⟩, List.mem_of_getElem? (i := 16) (by decide +kernel), List.mem_of_getElem? (i := 360) (by decide +kernel), List.mem_of_getElem? (i := 361) (by decide +kernel)⟩
theorem lw_p9 : lw_okq (⟨"RingFrames$Reader", "readsOrder", "(LRingFrames$Ring;)Z"⟩, 2) := ⟨⟨by decide +kernel, by decide +kernel⟩, List.mem_of_getElem? (i := 148) (by decide +kernel), List.mem_of_getElem? (i := 386) (by decide +kernel), List.mem_of_getElem? (i := 387) (by decide +kernel)⟩
theorem lw_p10 : lw_okq (⟨"RingFrames$Sender", "sendNothing", "(LRingFrames$Ring;)V"⟩, 3) := ⟨⟨by decide +kernel, by decide +kernel⟩, List.mem_of_getElem? (i := 161) (by decide +kernel), List.mem_of_getElem? (i := 436) (by decide +kernel), List.mem_of_getElem? (i := 437) (by decide +kernel)⟩
theorem lw_p11 : lw_okq (⟨"RingFrames$Sender", "pass", "(LRingFrames$Ring;ILRingFrames$Copy;)V"⟩, 3) := ⟨⟨by decide +kernel, by decide +kernel⟩, List.mem_of_getElem? (i := 161) (by decide +kernel), List.mem_of_getElem? (i := 463) (by decide +kernel), List.mem_of_getElem? (i := 464) (by decide +kernel)⟩
theorem lw_p12 : lw_okq (⟨"RingFrames$Sender", "joinedData", "(LRingFrames$Ring;I)I"⟩, 3) := ⟨⟨by decide +kernel, by decide +kernel⟩, List.mem_of_getElem? (i := 161) (by decide +kernel), List.mem_of_getElem? (i := 491) (by decide +kernel), List.mem_of_getElem? (i := 492) (by decide +kernel)⟩
theorem lw_p13 : lw_okq (⟨"RingFrames$Ring", "lengths", "(II)I"⟩, 12) := ⟨⟨by decide +kernel, by decide +kernel⟩, List.mem_of_getElem? (i := 24) (by decide +kernel), List.mem_of_getElem? (i := 504) (by decide +kernel), List.mem_of_getElem? (i := 505) (by decide +kernel)⟩
theorem lw_p14 : lw_okq (⟨"RingFrames", "sendTrial", "(I)V"⟩, 11) := ⟨⟨by decide +kernel, by decide +kernel⟩, List.mem_of_getElem? (i := 16) (by decide +kernel), List.mem_of_getElem? (i := 628) (by decide +kernel), List.mem_of_getElem? (i := 629) (by decide +kernel)⟩
theorem lw_p15 : lw_okq (⟨"RingFrames", "findSuspects", "()V"⟩, 11) := ⟨⟨by decide +kernel, by decide +kernel⟩, List.mem_of_getElem? (i := 16) (by decide +kernel), List.mem_of_getElem? (i := 659) (by decide +kernel), List.mem_of_getElem? (i := 660) (by decide +kernel)⟩
def lw_privs_1 : List (MethodName × Nat) := [(⟨"RingFrames$Ring", "putNewLink", "(II)V"⟩, 12), (⟨"RingFrames$Text", "stepOverFigures", "()V"⟩, 6), (⟨"RingFrames$Reader", "readsItem", "(LRingFrames$Ring;)Z"⟩, 2), (⟨"RingFrames$Reader", "readsDrive", "(LRingFrames$Ring;)Z"⟩, 2), (⟨"RingFrames$Reader", "takeNumber", "(II)I"⟩, 2), (⟨"RingFrames$Reader", "takesEnd", "()Z"⟩, 2), (⟨"RingFrames$Reader", "readsClosing", "(LRingFrames$Ring;)Z"⟩, 2), (⟨"RingFrames$Reader", "readsLimit", "(LRingFrames$Ring;)Z"⟩, 2), (⟨"RingFrames", "adoptDraft", "()V"⟩, 11), (⟨"RingFrames$Reader", "readsOrder", "(LRingFrames$Ring;)Z"⟩, 2), (⟨"RingFrames$Sender", "sendNothing", "(LRingFrames$Ring;)V"⟩, 3), (⟨"RingFrames$Sender", "pass", "(LRingFrames$Ring;ILRingFrames$Copy;)V"⟩, 3), (⟨"RingFrames$Sender", "joinedData", "(LRingFrames$Ring;I)I"⟩, 3), (⟨"RingFrames$Ring", "lengths", "(II)I"⟩, 12), (⟨"RingFrames", "sendTrial", "(I)V"⟩, 11), (⟨"RingFrames", "findSuspects", "()V"⟩, 11)]
theorem lw_r1 : ∀ q ∈ lw_privs_1, lw_okq q := List.forall_mem_cons.mpr ⟨lw_p0, List.forall_mem_cons.mpr ⟨lw_p1, List.forall_mem_cons.mpr ⟨lw_p2, List.forall_mem_cons.mpr ⟨lw_p3, List.forall_mem_cons.mpr ⟨lw_p4, List.forall_mem_cons.mpr ⟨lw_p5, List.forall_mem_cons.mpr ⟨lw_p6, List.forall_mem_cons.mpr ⟨lw_p7, List.forall_mem_cons.mpr ⟨lw_p8, List.forall_mem_cons.mpr ⟨lw_p9, List.forall_mem_cons.mpr ⟨lw_p10, List.forall_mem_cons.mpr ⟨lw_p11, List.forall_mem_cons.mpr ⟨lw_p12, List.forall_mem_cons.mpr ⟨lw_p13, List.forall_mem_cons.mpr ⟨lw_p14, List.forall_mem_cons.mpr ⟨lw_p15, fun _ h => absurd h List.not_mem_nil⟩⟩⟩⟩⟩⟩⟩⟩⟩⟩⟩⟩⟩⟩⟩⟩
theorem lw_p16 : lw_okq (⟨"RingFrames$Suspects", "mostAlike", "(I)I"⟩, 3) := ⟨⟨by decide +kernel, by decide +kernel⟩, List.mem_of_getElem? (i := 233) (by decide +kernel), List.mem_of_getElem? (i := 677) (by decide +kernel), List.mem_of_getElem? (i := 678) (by decide +kernel)⟩
theorem lw_p17 : lw_okq (⟨"RingFrames$Suspects", "alikeWith", "(II)I"⟩, 3) := ⟨⟨by decide +kernel, by decide +kernel⟩, List.mem_of_getElem? (i := 233) (by decide +kernel), List.mem_of_getElem? (i := 681) (by decide +kernel), List.mem_of_getElem? (i := 682) (by decide +kernel)⟩
theorem lw_p18 : lw_okq (⟨"RingFramesModel", "beginRead", "()V"⟩, 23) := ⟨⟨by decide +kernel, by decide +kernel⟩, List.mem_of_getElem? (i := 707) (by decide +kernel), List.mem_of_getElem? (i := 713) (by decide +kernel), List.mem_of_getElem? (i := 714) (by decide +kernel)⟩
theorem lw_p19 : lw_okq (⟨"RingFramesModel", "readWire", "()I"⟩, 23) := ⟨⟨by decide +kernel, by decide +kernel⟩, List.mem_of_getElem? (i := 707) (by decide +kernel), List.mem_of_getElem? (i := 805) (by decide +kernel), List.mem_of_getElem? (i := 806) (by decide +kernel)⟩
theorem lw_p20 : lw_okq (⟨"RingFramesModel", "scan", "()V"⟩, 23) := ⟨⟨by decide +kernel, by decide +kernel⟩, List.mem_of_getElem? (i := 707) (by decide +kernel), List.mem_of_getElem? (i := 809) (by decide +kernel), List.mem_of_getElem? (i := 810) (by decide +kernel)⟩
theorem lw_p21 : lw_okq (⟨"RingFramesModel", "readDrive", "()Z"⟩, 23) := ⟨⟨by decide +kernel, by decide +kernel⟩, List.mem_of_getElem? (i := 707) (by decide +kernel), List.mem_of_getElem? (i := 816) (by decide +kernel), List.mem_of_getElem? (i := 817) (by decide +kernel)⟩
theorem lw_p22 : lw_okq (⟨"RingFramesModel", "scanNumber", "(II)Z"⟩, 23) := ⟨⟨by decide +kernel, by decide +kernel⟩, List.mem_of_getElem? (i := 707) (by decide +kernel), List.mem_of_getElem? (i := 820) (by decide +kernel), List.mem_of_getElem? (i := 821) (by decide +kernel)⟩
theorem lw_p23 : lw_okq (⟨"RingFramesModel", "scanEnd", "()Z"⟩, 23) := ⟨⟨by decide +kernel, by decide +kernel⟩, List.mem_of_getElem? (i := 707) (by decide +kernel), List.mem_of_getElem? (i := 824) (by decide +kernel), List.mem_of_getElem? (i := 825) (by decide +kernel)⟩
theorem lw_p24 : lw_okq (⟨"RingFramesModel", "readLast", "()Z"⟩, 23) := ⟨⟨by decide +kernel, by decide +kernel⟩, List.mem_of_getElem? (i := 707) (by decide +kernel), List.mem_of_getElem? (i := 828) (by decide +kernel), List.mem_of_getElem? (i := 829) (by decide +kernel)⟩
theorem lw_p25 : lw_okq (⟨"RingFramesModel", "readLimit", "()Z"⟩, 23) := ⟨⟨by decide +kernel, by decide +kernel⟩, List.mem_of_getElem? (i := 707) (by decide +kernel), List.mem_of_getElem? (i := 832) (by decide +kernel), List.mem_of_getElem? (i := 833) (by decide +kernel)⟩
theorem lw_p26 : lw_okq (⟨"RingFramesModel", "note", "()V"⟩, 23) := ⟨⟨by decide +kernel, by decide +kernel⟩, List.mem_of_getElem? (i := 707) (by decide +kernel), List.mem_of_getElem? (i := 836) (by decide +kernel), List.mem_of_getElem? (i := 837) (by decide +kernel)⟩
theorem lw_p27 : lw_okq (⟨"RingFramesModel", "readFrame", "()I"⟩, 23) := ⟨⟨by decide +kernel, by decide +kernel⟩, List.mem_of_getElem? (i := 707) (by decide +kernel), List.mem_of_getElem? (i := 844) (by decide +kernel), List.mem_of_getElem? (i := 845) (by decide +kernel)⟩
theorem lw_p28 : lw_okq (⟨"RingFramesModel", "readOrder", "()Z"⟩, 23) := ⟨⟨by decide +kernel, by decide +kernel⟩, List.mem_of_getElem? (i := 707) (by decide +kernel), List.mem_of_getElem? (i := 848) (by decide +kernel), List.mem_of_getElem? (i := 849) (by decide +kernel)⟩
theorem lw_p29 : lw_okq (⟨"RingFramesModel", "isLink", "(I)Z"⟩, 23) := ⟨⟨by decide +kernel, by decide +kernel⟩, List.mem_of_getElem? (i := 707) (by decide +kernel), List.mem_of_getElem? (i := 860) (by decide +kernel), List.mem_of_getElem? (i := 861) (by decide +kernel)⟩
theorem lw_p30 : lw_okq (⟨"RingFramesModel", "links", "()I"⟩, 23) := ⟨⟨by decide +kernel, by decide +kernel⟩, List.mem_of_getElem? (i := 707) (by decide +kernel), List.mem_of_getElem? (i := 864) (by decide +kernel), List.mem_of_getElem? (i := 865) (by decide +kernel)⟩
theorem lw_p31 : lw_okq (⟨"RingFramesModel", "cycleOnce", "()V"⟩, 23) := ⟨⟨by decide +kernel, by decide +kernel⟩, List.mem_of_getElem? (i := 707) (by decide +kernel), List.mem_of_getElem? (i := 882) (by decide +kernel), List.mem_of_getElem? (i := 883) (by decide +kernel)⟩
def lw_privs_2 : List (MethodName × Nat) := [(⟨"RingFrames$Suspects", "mostAlike", "(I)I"⟩, 3), (⟨"RingFrames$Suspects", "alikeWith", "(II)I"⟩, 3), (⟨"RingFramesModel", "beginRead", "()V"⟩, 23), (⟨"RingFramesModel", "readWire", "()I"⟩, 23), (⟨"RingFramesModel", "scan", "()V"⟩, 23), (⟨"RingFramesModel", "readDrive", "()Z"⟩, 23), (⟨"RingFramesModel", "scanNumber", "(II)Z"⟩, 23), (⟨"RingFramesModel", "scanEnd", "()Z"⟩, 23), (⟨"RingFramesModel", "readLast", "()Z"⟩, 23), (⟨"RingFramesModel", "readLimit", "()Z"⟩, 23), (⟨"RingFramesModel", "note", "()V"⟩, 23), (⟨"RingFramesModel", "readFrame", "()I"⟩, 23), (⟨"RingFramesModel", "readOrder", "()Z"⟩, 23), (⟨"RingFramesModel", "isLink", "(I)Z"⟩, 23), (⟨"RingFramesModel", "links", "()I"⟩, 23), (⟨"RingFramesModel", "cycleOnce", "()V"⟩, 23)]
theorem lw_r2 : ∀ q ∈ lw_privs_2, lw_okq q := List.forall_mem_cons.mpr ⟨lw_p16, List.forall_mem_cons.mpr ⟨lw_p17, List.forall_mem_cons.mpr ⟨lw_p18, List.forall_mem_cons.mpr ⟨lw_p19, List.forall_mem_cons.mpr ⟨lw_p20, List.forall_mem_cons.mpr ⟨lw_p21, List.forall_mem_cons.mpr ⟨lw_p22, List.forall_mem_cons.mpr ⟨lw_p23, List.forall_mem_cons.mpr ⟨lw_p24, List.forall_mem_cons.mpr ⟨lw_p25, List.forall_mem_cons.mpr ⟨lw_p26, List.forall_mem_cons.mpr ⟨lw_p27, List.forall_mem_cons.mpr ⟨lw_p28, List.forall_mem_cons.mpr ⟨lw_p29, List.forall_mem_cons.mpr ⟨lw_p30, List.forall_mem_cons.mpr ⟨lw_p31, fun _ h => absurd h List.not_mem_nil⟩⟩⟩⟩⟩⟩⟩⟩⟩⟩⟩⟩⟩⟩⟩⟩
theorem lw_p32 : lw_okq (⟨"RingFramesModel", "beginCopies", "()V"⟩, 23) := ⟨⟨by decide +kernel, by decide +kernel⟩, List.mem_of_getElem? (i := 707) (by decide +kernel), List.mem_of_getElem? (i := 886) (by decide +kernel), List.mem_of_getElem? (i := 887) (by decide +kernel)⟩
theorem lw_p33 : lw_okq (⟨"RingFramesModel", "send", "(I)V"⟩, 23) := ⟨⟨by decide +kernel, by decide +kernel⟩, List.mem_of_getElem? (i := 707) (by decide +kernel), List.mem_of_getElem? (i := 890) (by decide +kernel), List.mem_of_getElem? (i := 891) (by decide +kernel)⟩
theorem lw_p34 : lw_okq (⟨"RingFramesModel", "lastOfA", "(I)I"⟩, 23) := ⟨⟨by decide +kernel, by decide +kernel⟩, List.mem_of_getElem? (i := 707) (by decide +kernel), List.mem_of_getElem? (i := 894) (by decide +kernel), List.mem_of_getElem? (i := 895) (by decide +kernel)⟩
theorem lw_p35 : lw_okq (⟨"RingFramesModel", "passThrough", "(III)V"⟩, 23) := ⟨⟨by decide +kernel, by decide +kernel⟩, List.mem_of_getElem? (i := 707) (by decide +kernel), List.mem_of_getElem? (i := 898) (by decide +kernel), List.mem_of_getElem? (i := 899) (by decide +kernel)⟩
theorem lw_p36 : lw_okq (⟨"RingFramesModel", "handle", "(III)V"⟩, 23) := ⟨⟨by decide +kernel, by decide +kernel⟩, List.mem_of_getElem? (i := 707) (by decide +kernel), List.mem_of_getElem? (i := 902) (by decide +kernel), List.mem_of_getElem? (i := 903) (by decide +kernel)⟩
theorem lw_p37 : lw_okq (⟨"RingFramesModel", "firstOfB", "(I)I"⟩, 23) := ⟨⟨by decide +kernel, by decide +kernel⟩, List.mem_of_getElem? (i := 707) (by decide +kernel), List.mem_of_getElem? (i := 906) (by decide +kernel), List.mem_of_getElem? (i := 907) (by decide +kernel)⟩
theorem lw_p38 : lw_okq (⟨"RingFramesModel", "timeOf", "(II)I"⟩, 23) := ⟨⟨by decide +kernel, by decide +kernel⟩, List.mem_of_getElem? (i := 707) (by decide +kernel), List.mem_of_getElem? (i := 910) (by decide +kernel), List.mem_of_getElem? (i := 911) (by decide +kernel)⟩
theorem lw_p39 : lw_okq (⟨"RingFramesModel", "isWhole", "(I)Z"⟩, 23) := ⟨⟨by decide +kernel, by decide +kernel⟩, List.mem_of_getElem? (i := 707) (by decide +kernel), List.mem_of_getElem? (i := 914) (by decide +kernel), List.mem_of_getElem? (i := 915) (by decide +kernel)⟩
theorem lw_p40 : lw_okq (⟨"RingFramesModel", "way", "(II)I"⟩, 23) := ⟨⟨by decide +kernel, by decide +kernel⟩, List.mem_of_getElem? (i := 707) (by decide +kernel), List.mem_of_getElem? (i := 918) (by decide +kernel), List.mem_of_getElem? (i := 919) (by decide +kernel)⟩
theorem lw_p41 : lw_okq (⟨"RingFramesModel", "countOf", "(I)I"⟩, 23) := ⟨⟨by decide +kernel, by decide +kernel⟩, List.mem_of_getElem? (i := 707) (by decide +kernel), List.mem_of_getElem? (i := 922) (by decide +kernel), List.mem_of_getElem? (i := 923) (by decide +kernel)⟩
theorem lw_p42 : lw_okq (⟨"RingFramesModel", "dataOf", "(I)I"⟩, 23) := ⟨⟨by decide +kernel, by decide +kernel⟩, List.mem_of_getElem? (i := 707) (by decide +kernel), List.mem_of_getElem? (i := 926) (by decide +kernel), List.mem_of_getElem? (i := 927) (by decide +kernel)⟩
theorem lw_p43 : lw_okq (⟨"RingFramesModel", "safeMany", "()I"⟩, 23) := ⟨⟨by decide +kernel, by decide +kernel⟩, List.mem_of_getElem? (i := 707) (by decide +kernel), List.mem_of_getElem? (i := 930) (by decide +kernel), List.mem_of_getElem? (i := 931) (by decide +kernel)⟩
theorem lw_p44 : lw_okq (⟨"RingFramesModel", "isDrive", "(I)Z"⟩, 23) := ⟨⟨by decide +kernel, by decide +kernel⟩, List.mem_of_getElem? (i := 707) (by decide +kernel), List.mem_of_getElem? (i := 938) (by decide +kernel), List.mem_of_getElem? (i := 939) (by decide +kernel)⟩
theorem lw_p45 : lw_okq (⟨"RingFramesModel", "offOf", "(I)I"⟩, 23) := ⟨⟨by decide +kernel, by decide +kernel⟩, List.mem_of_getElem? (i := 707) (by decide +kernel), List.mem_of_getElem? (i := 959) (by decide +kernel), List.mem_of_getElem? (i := 960) (by decide +kernel)⟩
theorem lw_p46 : lw_okq (⟨"RingFramesModel", "isOrder", "(I)Z"⟩, 23) := ⟨⟨by decide +kernel, by decide +kernel⟩, List.mem_of_getElem? (i := 707) (by decide +kernel), List.mem_of_getElem? (i := 971) (by decide +kernel), List.mem_of_getElem? (i := 972) (by decide +kernel)⟩
theorem lw_p47 : lw_okq (⟨"RingFramesModel", "findFacts", "(I)V"⟩, 23) := ⟨⟨by decide +kernel, by decide +kernel⟩, List.mem_of_getElem? (i := 707) (by decide +kernel), List.mem_of_getElem? (i := 991) (by decide +kernel), List.mem_of_getElem? (i := 992) (by decide +kernel)⟩
def lw_privs_3 : List (MethodName × Nat) := [(⟨"RingFramesModel", "beginCopies", "()V"⟩, 23), (⟨"RingFramesModel", "send", "(I)V"⟩, 23), (⟨"RingFramesModel", "lastOfA", "(I)I"⟩, 23), (⟨"RingFramesModel", "passThrough", "(III)V"⟩, 23), (⟨"RingFramesModel", "handle", "(III)V"⟩, 23), (⟨"RingFramesModel", "firstOfB", "(I)I"⟩, 23), (⟨"RingFramesModel", "timeOf", "(II)I"⟩, 23), (⟨"RingFramesModel", "isWhole", "(I)Z"⟩, 23), (⟨"RingFramesModel", "way", "(II)I"⟩, 23), (⟨"RingFramesModel", "countOf", "(I)I"⟩, 23), (⟨"RingFramesModel", "dataOf", "(I)I"⟩, 23), (⟨"RingFramesModel", "safeMany", "()I"⟩, 23), (⟨"RingFramesModel", "isDrive", "(I)Z"⟩, 23), (⟨"RingFramesModel", "offOf", "(I)I"⟩, 23), (⟨"RingFramesModel", "isOrder", "(I)Z"⟩, 23), (⟨"RingFramesModel", "findFacts", "(I)V"⟩, 23)]
theorem lw_r3 : ∀ q ∈ lw_privs_3, lw_okq q := List.forall_mem_cons.mpr ⟨lw_p32, List.forall_mem_cons.mpr ⟨lw_p33, List.forall_mem_cons.mpr ⟨lw_p34, List.forall_mem_cons.mpr ⟨lw_p35, List.forall_mem_cons.mpr ⟨lw_p36, List.forall_mem_cons.mpr ⟨lw_p37, List.forall_mem_cons.mpr ⟨lw_p38, List.forall_mem_cons.mpr ⟨lw_p39, List.forall_mem_cons.mpr ⟨lw_p40, List.forall_mem_cons.mpr ⟨lw_p41, List.forall_mem_cons.mpr ⟨lw_p42, List.forall_mem_cons.mpr ⟨lw_p43, List.forall_mem_cons.mpr ⟨lw_p44, List.forall_mem_cons.mpr ⟨lw_p45, List.forall_mem_cons.mpr ⟨lw_p46, List.forall_mem_cons.mpr ⟨lw_p47, fun _ h => absurd h List.not_mem_nil⟩⟩⟩⟩⟩⟩⟩⟩⟩⟩⟩⟩⟩⟩⟩⟩
theorem lw_p48 : lw_okq (⟨"RingFramesModel", "isSo", "(I)Z"⟩, 23) := ⟨⟨by decide +kernel, by decide +kernel⟩, List.mem_of_getElem? (i := 707) (by decide +kernel), List.mem_of_getElem? (i := 1007) (by decide +kernel), List.mem_of_getElem? (i := 1008) (by decide +kernel)⟩
theorem lw_p49 : lw_okq (⟨"RingFramesModel", "findLinks", "()I"⟩, 23) := ⟨⟨by decide +kernel, by decide +kernel⟩, List.mem_of_getElem? (i := 707) (by decide +kernel), List.mem_of_getElem? (i := 1011) (by decide +kernel), List.mem_of_getElem? (i := 1012) (by decide +kernel)⟩
theorem lw_p50 : lw_okq (⟨"RingFramesModel", "spread", "()I"⟩, 23) := ⟨⟨by decide +kernel, by decide +kernel⟩, List.mem_of_getElem? (i := 707) (by decide +kernel), List.mem_of_getElem? (i := 1031) (by decide +kernel), List.mem_of_getElem? (i := 1032) (by decide +kernel)⟩
def lw_privs_4 : List (MethodName × Nat) := [(⟨"RingFramesModel", "isSo", "(I)Z"⟩, 23), (⟨"RingFramesModel", "findLinks", "()I"⟩, 23), (⟨"RingFramesModel", "spread", "()I"⟩, 23)]
theorem lw_r4 : ∀ q ∈ lw_privs_4, lw_okq q := List.forall_mem_cons.mpr ⟨lw_p48, List.forall_mem_cons.mpr ⟨lw_p49, List.forall_mem_cons.mpr ⟨lw_p50, fun _ h => absurd h List.not_mem_nil⟩⟩⟩
def lw_privs : List (MethodName × Nat) := lw_privs_1 ++ (lw_privs_2 ++ (lw_privs_3 ++ (lw_privs_4)))
def lw_tbl : List Cond := k2_sels lw_privs ++ tables_1
theorem lw_privs_ok : ∀ q ∈ lw_privs, lw_okq q := by
  show ∀ q ∈ lw_privs_1 ++ (lw_privs_2 ++ (lw_privs_3 ++ (lw_privs_4))), lw_okq q
  exact List.forall_mem_append.mpr ⟨lw_r1, List.forall_mem_append.mpr ⟨lw_r2, List.forall_mem_append.mpr ⟨lw_r3, lw_r4⟩⟩⟩

def RX0 : String := "RingFrames$Copy"
def TX0 : u_T := fun k => match k with
  | 0 => ("RingFrames$Copy", "data", "[I", true)
  | 1 => ("RingFrames$Copy", "counts", "[I", true)
  | _ => ("RingFrames$Copy", "places", "[I", true)
def tyX0 : Nat → FieldType := fun k => match k with
  | 0 => .array .int
  | 1 => .array .int
  | _ => .array .int
theorem nmX0 : ∀ a, a < 3 → ∀ b, b < 3 → a ≠ b → (TX0 a).2.1 ≠ (TX0 b).2.1 := by decide +kernel
theorem tyX0_ok : ∀ k, k < 3 → parseFieldDescriptor (TX0 k).2.2.1 = some (tyX0 k) := by decide +kernel
abbrev cX0_init : ByteArray := prog_2_method_1_code
def yX0_init : MethodName := ⟨RX0, "<init>", "()V"⟩
abbrev cX0_start : ByteArray := prog_2_method_2_code
def yX0_start : MethodName := ⟨RX0, "start", "(LRingFrames$Ring;)V"⟩
abbrev cX0_comesFor : ByteArray := prog_2_method_3_code
def yX0_comesFor : MethodName := ⟨RX0, "comesFor", "(LRingFrames$Ring;II)Z"⟩
abbrev cX0_obey : ByteArray := prog_2_method_4_code
def yX0_obey : MethodName := ⟨RX0, "obey", "(LRingFrames$Ring;II)V"⟩
def RX1 : String := "RingFrames$History"
def TX1 : u_T := fun k => match k with
  | 0 => ("RingFrames$History", "rings", "[LRingFrames$Ring;", true)
  | 1 => ("RingFrames$History", "next", "I", false)
  | _ => ("RingFrames$History", "size", "I", false)
def tyX1 : Nat → FieldType := fun k => match k with
  | 0 => .array (.object "RingFrames$Ring")
  | 1 => .int
  | _ => .int
theorem nmX1 : ∀ a, a < 3 → ∀ b, b < 3 → a ≠ b → (TX1 a).2.1 ≠ (TX1 b).2.1 := by decide +kernel
theorem tyX1_ok : ∀ k, k < 3 → parseFieldDescriptor (TX1 k).2.2.1 = some (tyX1 k) := by decide +kernel
abbrev cX1_init : ByteArray := prog_3_method_1_code
def yX1_init : MethodName := ⟨RX1, "<init>", "()V"⟩
abbrev cX1_push : ByteArray := prog_3_method_2_code
def yX1_push : MethodName := ⟨RX1, "push", "(LRingFrames$Ring;)V"⟩
abbrev cX1_pop : ByteArray := prog_3_method_3_code
def yX1_pop : MethodName := ⟨RX1, "pop", "(LRingFrames$Ring;)V"⟩
def RX2 : String := "RingFrames$Reader"
def TX2 : u_T := fun k => match k with
  | 0 => ("RingFrames$Reader", "text", "LRingFrames$Text;", true)
  | _ => ("RingFrames$Reader", "limitTold", "Z", false)
def tyX2 : Nat → FieldType := fun k => match k with
  | 0 => .object "RingFrames$Text"
  | _ => .boolean
theorem nmX2 : ∀ a, a < 2 → ∀ b, b < 2 → a ≠ b → (TX2 a).2.1 ≠ (TX2 b).2.1 := by decide +kernel
theorem tyX2_ok : ∀ k, k < 2 → parseFieldDescriptor (TX2 k).2.2.1 = some (tyX2 k) := by decide +kernel
abbrev cX2_init : ByteArray := prog_4_method_1_code
def yX2_init : MethodName := ⟨RX2, "<init>", "(LRingFrames$Text;)V"⟩
abbrev cX2_readsWire : ByteArray := prog_4_method_2_code
def yX2_readsWire : MethodName := ⟨RX2, "readsWire", "(LRingFrames$Ring;)Z"⟩
abbrev cX2_readsItem : ByteArray := prog_4_method_3_code
def yX2_readsItem : MethodName := ⟨RX2, "readsItem", "(LRingFrames$Ring;)Z"⟩
abbrev cX2_readsDrive : ByteArray := prog_4_method_4_code
def yX2_readsDrive : MethodName := ⟨RX2, "readsDrive", "(LRingFrames$Ring;)Z"⟩
abbrev cX2_readsClosing : ByteArray := prog_4_method_5_code
def yX2_readsClosing : MethodName := ⟨RX2, "readsClosing", "(LRingFrames$Ring;)Z"⟩
abbrev cX2_readsLimit : ByteArray := prog_4_method_6_code
def yX2_readsLimit : MethodName := ⟨RX2, "readsLimit", "(LRingFrames$Ring;)Z"⟩
abbrev cX2_readsFrame : ByteArray := prog_4_method_7_code
def yX2_readsFrame : MethodName := ⟨RX2, "readsFrame", "(LRingFrames$Ring;)Z"⟩
abbrev cX2_readsOrder : ByteArray := prog_4_method_8_code
def yX2_readsOrder : MethodName := ⟨RX2, "readsOrder", "(LRingFrames$Ring;)Z"⟩
abbrev cX2_takeNumber : ByteArray := prog_4_method_9_code
def yX2_takeNumber : MethodName := ⟨RX2, "takeNumber", "(II)I"⟩
abbrev cX2_takesEnd : ByteArray := prog_4_method_10_code
def yX2_takesEnd : MethodName := ⟨RX2, "takesEnd", "()Z"⟩
def RX3 : String := "RingFrames$Ring"
def TX3 : u_T := fun k => match k with
  | 0 => ("RingFrames$Ring", "driveRows", "[I", true)
  | 1 => ("RingFrames$Ring", "linkRows", "[I", true)
  | 2 => ("RingFrames$Ring", "orderRows", "[I", true)
  | 3 => ("RingFrames$Ring", "resultRows", "[I", true)
  | 4 => ("RingFrames$Ring", "times", "[I", true)
  | 5 => ("RingFrames$Ring", "drives", "I", false)
  | 6 => ("RingFrames$Ring", "orders", "I", false)
  | 7 => ("RingFrames$Ring", "limit", "I", false)
  | 8 => ("RingFrames$Ring", "cyclesRun", "I", false)
  | 9 => ("RingFrames$Ring", "closed", "Z", false)
  | 10 => ("RingFrames$Ring", "hasResults", "Z", false)
  | _ => ("RingFrames$Ring", "freshCut", "Z", false)
def tyX3 : Nat → FieldType := fun k => match k with
  | 0 => .array .int
  | 1 => .array .int
  | 2 => .array .int
  | 3 => .array .int
  | 4 => .array .int
  | 5 => .int
  | 6 => .int
  | 7 => .int
  | 8 => .int
  | 9 => .boolean
  | 10 => .boolean
  | _ => .boolean
theorem nmX3 : ∀ a, a < 12 → ∀ b, b < 12 → a ≠ b → (TX3 a).2.1 ≠ (TX3 b).2.1 := by decide +kernel
theorem tyX3_ok : ∀ k, k < 12 → parseFieldDescriptor (TX3 k).2.2.1 = some (tyX3 k) := by decide +kernel
abbrev cX3_init : ByteArray := prog_5_method_1_code
def yX3_init : MethodName := ⟨RX3, "<init>", "()V"⟩
abbrev cX3_becomeEmpty : ByteArray := prog_5_method_2_code
def yX3_becomeEmpty : MethodName := ⟨RX3, "becomeEmpty", "()V"⟩
abbrev cX3_dropFrame : ByteArray := prog_5_method_3_code
def yX3_dropFrame : MethodName := ⟨RX3, "dropFrame", "()V"⟩
abbrev cX3_copyFrom : ByteArray := prog_5_method_4_code
def yX3_copyFrom : MethodName := ⟨RX3, "copyFrom", "(LRingFrames$Ring;)V"⟩
abbrev cX3_takesDrive : ByteArray := prog_5_method_5_code
def yX3_takesDrive : MethodName := ⟨RX3, "takesDrive", "()Z"⟩
abbrev cX3_addDrive : ByteArray := prog_5_method_6_code
def yX3_addDrive : MethodName := ⟨RX3, "addDrive", "(II)V"⟩
abbrev cX3_takesClosing : ByteArray := prog_5_method_7_code
def yX3_takesClosing : MethodName := ⟨RX3, "takesClosing", "()Z"⟩
abbrev cX3_closeBy : ByteArray := prog_5_method_8_code
def yX3_closeBy : MethodName := ⟨RX3, "closeBy", "(I)V"⟩
abbrev cX3_putNewLink : ByteArray := prog_5_method_9_code
def yX3_putNewLink : MethodName := ⟨RX3, "putNewLink", "(II)V"⟩
abbrev cX3_takesOrder : ByteArray := prog_5_method_10_code
def yX3_takesOrder : MethodName := ⟨RX3, "takesOrder", "()Z"⟩
abbrev cX3_addOrder : ByteArray := prog_5_method_11_code
def yX3_addOrder : MethodName := ⟨RX3, "addOrder", "(IIIII)V"⟩
abbrev cX3_hasDrive : ByteArray := prog_5_method_12_code
def yX3_hasDrive : MethodName := ⟨RX3, "hasDrive", "(I)Z"⟩
abbrev cX3_hasLink : ByteArray := prog_5_method_13_code
def yX3_hasLink : MethodName := ⟨RX3, "hasLink", "(I)Z"⟩
abbrev cX3_hasOrder : ByteArray := prog_5_method_14_code
def yX3_hasOrder : MethodName := ⟨RX3, "hasOrder", "(I)Z"⟩
abbrev cX3_links : ByteArray := prog_5_method_15_code
def yX3_links : MethodName := ⟨RX3, "links", "()I"⟩
abbrev cX3_ofDrive : ByteArray := prog_5_method_16_code
def yX3_ofDrive : MethodName := ⟨RX3, "ofDrive", "(II)I"⟩
abbrev cX3_putDrive : ByteArray := prog_5_method_17_code
def yX3_putDrive : MethodName := ⟨RX3, "putDrive", "(III)V"⟩
abbrev cX3_ofLink : ByteArray := prog_5_method_18_code
def yX3_ofLink : MethodName := ⟨RX3, "ofLink", "(II)I"⟩
abbrev cX3_putLink : ByteArray := prog_5_method_19_code
def yX3_putLink : MethodName := ⟨RX3, "putLink", "(III)V"⟩
abbrev cX3_ofOrder : ByteArray := prog_5_method_20_code
def yX3_ofOrder : MethodName := ⟨RX3, "ofOrder", "(II)I"⟩
abbrev cX3_ofResult : ByteArray := prog_5_method_21_code
def yX3_ofResult : MethodName := ⟨RX3, "ofResult", "(II)I"⟩
abbrev cX3_putResult : ByteArray := prog_5_method_22_code
def yX3_putResult : MethodName := ⟨RX3, "putResult", "(III)V"⟩
abbrev cX3_isSafe : ByteArray := prog_5_method_23_code
def yX3_isSafe : MethodName := ⟨RX3, "isSafe", "(I)Z"⟩
abbrev cX3_isCut : ByteArray := prog_5_method_24_code
def yX3_isCut : MethodName := ⟨RX3, "isCut", "(I)Z"⟩
abbrev cX3_safeDrives : ByteArray := prog_5_method_25_code
def yX3_safeDrives : MethodName := ⟨RX3, "safeDrives", "()I"⟩
abbrev cX3_cutLinks : ByteArray := prog_5_method_26_code
def yX3_cutLinks : MethodName := ⟨RX3, "cutLinks", "()I"⟩
abbrev cX3_isWhole : ByteArray := prog_5_method_27_code
def yX3_isWhole : MethodName := ⟨RX3, "isWhole", "()Z"⟩
abbrev cX3_endOfA : ByteArray := prog_5_method_28_code
def yX3_endOfA : MethodName := ⟨RX3, "endOfA", "()I"⟩
abbrev cX3_startOfB : ByteArray := prog_5_method_29_code
def yX3_startOfB : MethodName := ⟨RX3, "startOfB", "()I"⟩
abbrev cX3_bitsOfA : ByteArray := prog_5_method_30_code
def yX3_bitsOfA : MethodName := ⟨RX3, "bitsOfA", "()I"⟩
abbrev cX3_bitsOfB : ByteArray := prog_5_method_31_code
def yX3_bitsOfB : MethodName := ⟨RX3, "bitsOfB", "()I"⟩
abbrev cX3_bitsOfTurning : ByteArray := prog_5_method_32_code
def yX3_bitsOfTurning : MethodName := ⟨RX3, "bitsOfTurning", "()I"⟩
abbrev cX3_learn : ByteArray := prog_5_method_33_code
def yX3_learn : MethodName := ⟨RX3, "learn", "(I)V"⟩
abbrev cX3_offOf : ByteArray := prog_5_method_34_code
def yX3_offOf : MethodName := ⟨RX3, "offOf", "(I)I"⟩
abbrev cX3_spread : ByteArray := prog_5_method_35_code
def yX3_spread : MethodName := ⟨RX3, "spread", "()I"⟩
abbrev cX3_takeTimesAround : ByteArray := prog_5_method_36_code
def yX3_takeTimesAround : MethodName := ⟨RX3, "takeTimesAround", "()V"⟩
abbrev cX3_takeTimesOfTurning : ByteArray := prog_5_method_37_code
def yX3_takeTimesOfTurning : MethodName := ⟨RX3, "takeTimesOfTurning", "()V"⟩
abbrev cX3_lengths : ByteArray := prog_5_method_38_code
def yX3_lengths : MethodName := ⟨RX3, "lengths", "(II)I"⟩
abbrev cX3_timeThereAndBack : ByteArray := prog_5_method_39_code
def yX3_timeThereAndBack : MethodName := ⟨RX3, "timeThereAndBack", "(II)I"⟩
abbrev cX3_look : ByteArray := prog_5_method_40_code
def yX3_look : MethodName := ⟨RX3, "look", "(I)I"⟩
abbrev cX3_countMiss : ByteArray := prog_5_method_41_code
def yX3_countMiss : MethodName := ⟨RX3, "countMiss", "(I)V"⟩
def RX4 : String := "RingFrames$Sender"
def TX4 : u_T := fun k => match k with
  | 0 => ("RingFrames$Sender", "copyA", "LRingFrames$Copy;", true)
  | 1 => ("RingFrames$Sender", "copyB", "LRingFrames$Copy;", true)
  | _ => ("RingFrames$Sender", "served", "I", false)
def tyX4 : Nat → FieldType := fun k => match k with
  | 0 => .object "RingFrames$Copy"
  | 1 => .object "RingFrames$Copy"
  | _ => .int
theorem nmX4 : ∀ a, a < 3 → ∀ b, b < 3 → a ≠ b → (TX4 a).2.1 ≠ (TX4 b).2.1 := by decide +kernel
theorem tyX4_ok : ∀ k, k < 3 → parseFieldDescriptor (TX4 k).2.2.1 = some (tyX4 k) := by decide +kernel
abbrev cX4_init : ByteArray := prog_6_method_1_code
def yX4_init : MethodName := ⟨RX4, "<init>", "()V"⟩
abbrev cX4_runCycle : ByteArray := prog_6_method_2_code
def yX4_runCycle : MethodName := ⟨RX4, "runCycle", "(LRingFrames$Ring;)V"⟩
abbrev cX4_sendNothing : ByteArray := prog_6_method_3_code
def yX4_sendNothing : MethodName := ⟨RX4, "sendNothing", "(LRingFrames$Ring;)V"⟩
abbrev cX4_send : ByteArray := prog_6_method_4_code
def yX4_send : MethodName := ⟨RX4, "send", "(LRingFrames$Ring;)V"⟩
abbrev cX4_pass : ByteArray := prog_6_method_5_code
def yX4_pass : MethodName := ⟨RX4, "pass", "(LRingFrames$Ring;ILRingFrames$Copy;)V"⟩
abbrev cX4_joinedData : ByteArray := prog_6_method_6_code
def yX4_joinedData : MethodName := ⟨RX4, "joinedData", "(LRingFrames$Ring;I)I"⟩
def RX5 : String := "RingFrames$Sightings"
def TX5 : u_T := fun k => match k with
  | 0 => ("RingFrames$Sightings", "whats", "[I", true)
  | 1 => ("RingFrames$Sightings", "values", "[I", true)
  | _ => ("RingFrames$Sightings", "size", "I", false)
def tyX5 : Nat → FieldType := fun k => match k with
  | 0 => .array .int
  | 1 => .array .int
  | _ => .int
theorem nmX5 : ∀ a, a < 3 → ∀ b, b < 3 → a ≠ b → (TX5 a).2.1 ≠ (TX5 b).2.1 := by decide +kernel
theorem tyX5_ok : ∀ k, k < 3 → parseFieldDescriptor (TX5 k).2.2.1 = some (tyX5 k) := by decide +kernel
abbrev cX5_init : ByteArray := prog_7_method_1_code
def yX5_init : MethodName := ⟨RX5, "<init>", "()V"⟩
abbrev cX5_append : ByteArray := prog_7_method_2_code
def yX5_append : MethodName := ⟨RX5, "append", "(II)V"⟩
abbrev cX5_agreeWith : ByteArray := prog_7_method_3_code
def yX5_agreeWith : MethodName := ⟨RX5, "agreeWith", "(LRingFrames$Ring;)Z"⟩
def RX6 : String := "RingFrames$Suspects"
def TX6 : u_T := fun k => match k with
  | 0 => ("RingFrames$Suspects", "links", "[I", true)
  | 1 => ("RingFrames$Suspects", "looks", "[I", true)
  | _ => ("RingFrames$Suspects", "size", "I", false)
def tyX6 : Nat → FieldType := fun k => match k with
  | 0 => .array .int
  | 1 => .array .int
  | _ => .int
theorem nmX6 : ∀ a, a < 3 → ∀ b, b < 3 → a ≠ b → (TX6 a).2.1 ≠ (TX6 b).2.1 := by decide +kernel
theorem tyX6_ok : ∀ k, k < 3 → parseFieldDescriptor (TX6 k).2.2.1 = some (tyX6 k) := by decide +kernel
abbrev cX6_init : ByteArray := prog_8_method_1_code
def yX6_init : MethodName := ⟨RX6, "<init>", "()V"⟩
abbrev cX6_append : ByteArray := prog_8_method_2_code
def yX6_append : MethodName := ⟨RX6, "append", "(ILRingFrames$Ring;)V"⟩
abbrev cX6_bestLook : ByteArray := prog_8_method_3_code
def yX6_bestLook : MethodName := ⟨RX6, "bestLook", "()I"⟩
abbrev cX6_mostAlike : ByteArray := prog_8_method_4_code
def yX6_mostAlike : MethodName := ⟨RX6, "mostAlike", "(I)I"⟩
abbrev cX6_alikeWith : ByteArray := prog_8_method_5_code
def yX6_alikeWith : MethodName := ⟨RX6, "alikeWith", "(II)I"⟩
def RX7 : String := "RingFrames$Text"
def TX7 : u_T := fun k => match k with
  | 0 => ("RingFrames$Text", "letters", "[I", true)
  | 1 => ("RingFrames$Text", "size", "I", false)
  | 2 => ("RingFrames$Text", "next", "I", false)
  | 3 => ("RingFrames$Text", "place", "I", false)
  | 4 => ("RingFrames$Text", "kind", "I", false)
  | _ => ("RingFrames$Text", "number", "I", false)
def tyX7 : Nat → FieldType := fun k => match k with
  | 0 => .array .int
  | 1 => .int
  | 2 => .int
  | 3 => .int
  | 4 => .int
  | _ => .int
theorem nmX7 : ∀ a, a < 6 → ∀ b, b < 6 → a ≠ b → (TX7 a).2.1 ≠ (TX7 b).2.1 := by decide +kernel
theorem tyX7_ok : ∀ k, k < 6 → parseFieldDescriptor (TX7 k).2.2.1 = some (tyX7 k) := by decide +kernel
abbrev cX7_init : ByteArray := prog_9_method_1_code
def yX7_init : MethodName := ⟨RX7, "<init>", "()V"⟩
abbrev cX7_append : ByteArray := prog_9_method_2_code
def yX7_append : MethodName := ⟨RX7, "append", "(I)V"⟩
abbrev cX7_begin : ByteArray := prog_9_method_3_code
def yX7_begin : MethodName := ⟨RX7, "begin", "()V"⟩
abbrev cX7_step : ByteArray := prog_9_method_4_code
def yX7_step : MethodName := ⟨RX7, "step", "()V"⟩
abbrev cX7_stepOverFigures : ByteArray := prog_9_method_5_code
def yX7_stepOverFigures : MethodName := ⟨RX7, "stepOverFigures", "()V"⟩
abbrev cX7_isFigure : ByteArray := prog_9_method_6_code
def yX7_isFigure : MethodName := ⟨RX7, "isFigure", "(I)Z"⟩
def RX8 : String := "RingFrames"
def TX8 : u_T := fun k => match k with
  | 0 => ("RingFrames", "ring", "LRingFrames$Ring;", true)
  | 1 => ("RingFrames", "draft", "LRingFrames$Ring;", true)
  | 2 => ("RingFrames", "trial", "LRingFrames$Ring;", true)
  | 3 => ("RingFrames", "text", "LRingFrames$Text;", true)
  | 4 => ("RingFrames", "reader", "LRingFrames$Reader;", true)
  | 5 => ("RingFrames", "sender", "LRingFrames$Sender;", true)
  | 6 => ("RingFrames", "history", "LRingFrames$History;", true)
  | 7 => ("RingFrames", "images", "[LRingFrames$Ring;", true)
  | 8 => ("RingFrames", "kept", "[Z", true)
  | 9 => ("RingFrames", "sightings", "LRingFrames$Sightings;", true)
  | _ => ("RingFrames", "suspects", "LRingFrames$Suspects;", true)
def tyX8 : Nat → FieldType := fun k => match k with
  | 0 => .object "RingFrames$Ring"
  | 1 => .object "RingFrames$Ring"
  | 2 => .object "RingFrames$Ring"
  | 3 => .object "RingFrames$Text"
  | 4 => .object "RingFrames$Reader"
  | 5 => .object "RingFrames$Sender"
  | 6 => .object "RingFrames$History"
  | 7 => .array (.object "RingFrames$Ring")
  | 8 => .array .boolean
  | 9 => .object "RingFrames$Sightings"
  | _ => .object "RingFrames$Suspects"
theorem nmX8 : ∀ a, a < 11 → ∀ b, b < 11 → a ≠ b → (TX8 a).2.1 ≠ (TX8 b).2.1 := by decide +kernel
theorem tyX8_ok : ∀ k, k < 11 → parseFieldDescriptor (TX8 k).2.2.1 = some (tyX8 k) := by decide +kernel
abbrev cX8_init : ByteArray := prog_1_method_1_code
def yX8_init : MethodName := ⟨RX8, "<init>", "()V"⟩
abbrev cX8_type : ByteArray := prog_1_method_2_code
def yX8_type : MethodName := ⟨RX8, "type", "(I)I"⟩
abbrev cX8_clear : ByteArray := prog_1_method_3_code
def yX8_clear : MethodName := ⟨RX8, "clear", "()I"⟩
abbrev cX8_wires : ByteArray := prog_1_method_4_code
def yX8_wires : MethodName := ⟨RX8, "wires", "()I"⟩
abbrev cX8_frames : ByteArray := prog_1_method_5_code
def yX8_frames : MethodName := ⟨RX8, "frames", "()I"⟩
abbrev cX8_adoptDraft : ByteArray := prog_1_method_6_code
def yX8_adoptDraft : MethodName := ⟨RX8, "adoptDraft", "()V"⟩
abbrev cX8_cuts : ByteArray := prog_1_method_7_code
def yX8_cuts : MethodName := ⟨RX8, "cuts", "(I)I"⟩
abbrev cX8_heals : ByteArray := prog_1_method_8_code
def yX8_heals : MethodName := ⟨RX8, "heals", "(I)I"⟩
abbrev cX8_cycles : ByteArray := prog_1_method_9_code
def yX8_cycles : MethodName := ⟨RX8, "cycles", "(I)I"⟩
abbrev cX8_resets : ByteArray := prog_1_method_10_code
def yX8_resets : MethodName := ⟨RX8, "resets", "(I)I"⟩
abbrev cX8_sets : ByteArray := prog_1_method_11_code
def yX8_sets : MethodName := ⟨RX8, "sets", "(III)I"⟩
abbrev cX8_drifts : ByteArray := prog_1_method_12_code
def yX8_drifts : MethodName := ⟨RX8, "drifts", "(II)I"⟩
abbrev cX8_measures : ByteArray := prog_1_method_13_code
def yX8_measures : MethodName := ⟨RX8, "measures", "()I"⟩
abbrev cX8_undo : ByteArray := prog_1_method_14_code
def yX8_undo : MethodName := ⟨RX8, "undo", "()I"⟩
abbrev cX8_drive : ByteArray := prog_1_method_15_code
def yX8_drive : MethodName := ⟨RX8, "drive", "(II)I"⟩
abbrev cX8_link : ByteArray := prog_1_method_16_code
def yX8_link : MethodName := ⟨RX8, "link", "(II)I"⟩
abbrev cX8_order : ByteArray := prog_1_method_17_code
def yX8_order : MethodName := ⟨RX8, "order", "(II)I"⟩
abbrev cX8_result : ByteArray := prog_1_method_18_code
def yX8_result : MethodName := ⟨RX8, "result", "(II)I"⟩
abbrev cX8_time : ByteArray := prog_1_method_19_code
def yX8_time : MethodName := ⟨RX8, "time", "(I)I"⟩
abbrev cX8_reached : ByteArray := prog_1_method_20_code
def yX8_reached : MethodName := ⟨RX8, "reached", "(I)I"⟩
abbrev cX8_would : ByteArray := prog_1_method_21_code
def yX8_would : MethodName := ⟨RX8, "would", "(I)I"⟩
abbrev cX8_sendTrial : ByteArray := prog_1_method_22_code
def yX8_sendTrial : MethodName := ⟨RX8, "sendTrial", "(I)V"⟩
abbrev cX8_sees : ByteArray := prog_1_method_23_code
def yX8_sees : MethodName := ⟨RX8, "sees", "(II)I"⟩
abbrev cX8_forget : ByteArray := prog_1_method_24_code
def yX8_forget : MethodName := ⟨RX8, "forget", "()I"⟩
abbrev cX8_which : ByteArray := prog_1_method_25_code
def yX8_which : MethodName := ⟨RX8, "which", "(I)I"⟩
abbrev cX8_ask : ByteArray := prog_1_method_26_code
def yX8_ask : MethodName := ⟨RX8, "ask", "()I"⟩
abbrev cX8_findSuspects : ByteArray := prog_1_method_27_code
def yX8_findSuspects : MethodName := ⟨RX8, "findSuspects", "()V"⟩
abbrev cX8_keep : ByteArray := prog_1_method_28_code
def yX8_keep : MethodName := ⟨RX8, "keep", "(I)I"⟩
abbrev cX8_back : ByteArray := prog_1_method_29_code
def yX8_back : MethodName := ⟨RX8, "back", "(I)I"⟩
abbrev cX8_count : ByteArray := prog_1_method_30_code
def yX8_count : MethodName := ⟨RX8, "count", "(I)I"⟩
def RX9 : String := "RingFramesModel"
def TX9 : u_T := fun k => match k with
  | 0 => ("RingFramesModel", "now", "[I", true)
  | 1 => ("RingFramesModel", "read", "[I", true)
  | 2 => ("RingFramesModel", "past", "[I", true)
  | 3 => ("RingFramesModel", "deeds", "I", false)
  | 4 => ("RingFramesModel", "images", "[I", true)
  | 5 => ("RingFramesModel", "isKept", "[Z", true)
  | 6 => ("RingFramesModel", "text", "[I", true)
  | 7 => ("RingFramesModel", "letters", "I", false)
  | 8 => ("RingFramesModel", "at", "I", false)
  | 9 => ("RingFramesModel", "tokenAt", "I", false)
  | 10 => ("RingFramesModel", "tokenSort", "I", false)
  | 11 => ("RingFramesModel", "tokenValue", "I", false)
  | 12 => ("RingFramesModel", "seenWhat", "[I", true)
  | 13 => ("RingFramesModel", "seenValue", "[I", true)
  | 14 => ("RingFramesModel", "seen", "I", false)
  | 15 => ("RingFramesModel", "isLimitTold", "Z", false)
  | 16 => ("RingFramesModel", "data", "[I", true)
  | 17 => ("RingFramesModel", "counts", "[I", true)
  | 18 => ("RingFramesModel", "places", "[I", true)
  | 19 => ("RingFramesModel", "isMeant", "[Z", true)
  | 20 => ("RingFramesModel", "facts", "[I", true)
  | 21 => ("RingFramesModel", "aside", "[I", true)
  | _ => ("RingFramesModel", "allFacts", "[I", true)
def tyX9 : Nat → FieldType := fun k => match k with
  | 0 => .array .int
  | 1 => .array .int
  | 2 => .array .int
  | 3 => .int
  | 4 => .array .int
  | 5 => .array .boolean
  | 6 => .array .int
  | 7 => .int
  | 8 => .int
  | 9 => .int
  | 10 => .int
  | 11 => .int
  | 12 => .array .int
  | 13 => .array .int
  | 14 => .int
  | 15 => .boolean
  | 16 => .array .int
  | 17 => .array .int
  | 18 => .array .int
  | 19 => .array .boolean
  | 20 => .array .int
  | 21 => .array .int
  | _ => .array .int
theorem nmX9 : ∀ a, a < 23 → ∀ b, b < 23 → a ≠ b → (TX9 a).2.1 ≠ (TX9 b).2.1 := by decide +kernel
theorem tyX9_ok : ∀ k, k < 23 → parseFieldDescriptor (TX9 k).2.2.1 = some (tyX9 k) := by decide +kernel
abbrev cX9_init : ByteArray := prog_11_method_1_code
def yX9_init : MethodName := ⟨RX9, "<init>", "()V"⟩
abbrev cX9_in : ByteArray := prog_11_method_2_code
def yX9_in : MethodName := ⟨RX9, "in", "(III)Z"⟩
abbrev cX9_bring : ByteArray := prog_11_method_3_code
def yX9_bring : MethodName := ⟨RX9, "bring", "([II[II)V"⟩
abbrev cX9_beginRead : ByteArray := prog_11_method_4_code
def yX9_beginRead : MethodName := ⟨RX9, "beginRead", "()V"⟩
abbrev cX9_isLetter : ByteArray := prog_11_method_5_code
def yX9_isLetter : MethodName := ⟨RX9, "isLetter", "(I)Z"⟩
abbrev cX9_scan : ByteArray := prog_11_method_6_code
def yX9_scan : MethodName := ⟨RX9, "scan", "()V"⟩
abbrev cX9_scanNumber : ByteArray := prog_11_method_7_code
def yX9_scanNumber : MethodName := ⟨RX9, "scanNumber", "(II)Z"⟩
abbrev cX9_scanEnd : ByteArray := prog_11_method_8_code
def yX9_scanEnd : MethodName := ⟨RX9, "scanEnd", "()Z"⟩
abbrev cX9_readDrive : ByteArray := prog_11_method_9_code
def yX9_readDrive : MethodName := ⟨RX9, "readDrive", "()Z"⟩
abbrev cX9_readLast : ByteArray := prog_11_method_10_code
def yX9_readLast : MethodName := ⟨RX9, "readLast", "()Z"⟩
abbrev cX9_readLimit : ByteArray := prog_11_method_11_code
def yX9_readLimit : MethodName := ⟨RX9, "readLimit", "()Z"⟩
abbrev cX9_readWire : ByteArray := prog_11_method_12_code
def yX9_readWire : MethodName := ⟨RX9, "readWire", "()I"⟩
abbrev cX9_readOrder : ByteArray := prog_11_method_13_code
def yX9_readOrder : MethodName := ⟨RX9, "readOrder", "()Z"⟩
abbrev cX9_readFrame : ByteArray := prog_11_method_14_code
def yX9_readFrame : MethodName := ⟨RX9, "readFrame", "()I"⟩
abbrev cX9_type : ByteArray := prog_11_method_15_code
def yX9_type : MethodName := ⟨RX9, "type", "(I)I"⟩
abbrev cX9_clear : ByteArray := prog_11_method_16_code
def yX9_clear : MethodName := ⟨RX9, "clear", "()I"⟩
abbrev cX9_wires : ByteArray := prog_11_method_17_code
def yX9_wires : MethodName := ⟨RX9, "wires", "()I"⟩
abbrev cX9_frames : ByteArray := prog_11_method_18_code
def yX9_frames : MethodName := ⟨RX9, "frames", "()I"⟩
abbrev cX9_has : ByteArray := prog_11_method_19_code
def yX9_has : MethodName := ⟨RX9, "has", "(II)Z"⟩
abbrev cX9_links : ByteArray := prog_11_method_20_code
def yX9_links : MethodName := ⟨RX9, "links", "()I"⟩
abbrev cX9_lastOfA : ByteArray := prog_11_method_21_code
def yX9_lastOfA : MethodName := ⟨RX9, "lastOfA", "(I)I"⟩
abbrev cX9_isWhole : ByteArray := prog_11_method_22_code
def yX9_isWhole : MethodName := ⟨RX9, "isWhole", "(I)Z"⟩
abbrev cX9_firstOfB : ByteArray := prog_11_method_23_code
def yX9_firstOfB : MethodName := ⟨RX9, "firstOfB", "(I)I"⟩
abbrev cX9_way : ByteArray := prog_11_method_24_code
def yX9_way : MethodName := ⟨RX9, "way", "(II)I"⟩
abbrev cX9_timeOf : ByteArray := prog_11_method_25_code
def yX9_timeOf : MethodName := ⟨RX9, "timeOf", "(II)I"⟩
abbrev cX9_handle : ByteArray := prog_11_method_26_code
def yX9_handle : MethodName := ⟨RX9, "handle", "(III)V"⟩
abbrev cX9_passThrough : ByteArray := prog_11_method_27_code
def yX9_passThrough : MethodName := ⟨RX9, "passThrough", "(III)V"⟩
abbrev cX9_beginCopies : ByteArray := prog_11_method_28_code
def yX9_beginCopies : MethodName := ⟨RX9, "beginCopies", "()V"⟩
abbrev cX9_send : ByteArray := prog_11_method_29_code
def yX9_send : MethodName := ⟨RX9, "send", "(I)V"⟩
abbrev cX9_countOf : ByteArray := prog_11_method_30_code
def yX9_countOf : MethodName := ⟨RX9, "countOf", "(I)I"⟩
abbrev cX9_dataOf : ByteArray := prog_11_method_31_code
def yX9_dataOf : MethodName := ⟨RX9, "dataOf", "(I)I"⟩
abbrev cX9_findFacts : ByteArray := prog_11_method_32_code
def yX9_findFacts : MethodName := ⟨RX9, "findFacts", "(I)V"⟩
abbrev cX9_cycleOnce : ByteArray := prog_11_method_33_code
def yX9_cycleOnce : MethodName := ⟨RX9, "cycleOnce", "()V"⟩
abbrev cX9_note : ByteArray := prog_11_method_34_code
def yX9_note : MethodName := ⟨RX9, "note", "()V"⟩
abbrev cX9_undo : ByteArray := prog_11_method_35_code
def yX9_undo : MethodName := ⟨RX9, "undo", "()I"⟩
abbrev cX9_ones : ByteArray := prog_11_method_36_code
def yX9_ones : MethodName := ⟨RX9, "ones", "(I)I"⟩
abbrev cX9_isLink : ByteArray := prog_11_method_37_code
def yX9_isLink : MethodName := ⟨RX9, "isLink", "(I)Z"⟩
abbrev cX9_isDrive : ByteArray := prog_11_method_38_code
def yX9_isDrive : MethodName := ⟨RX9, "isDrive", "(I)Z"⟩
abbrev cX9_cuts : ByteArray := prog_11_method_39_code
def yX9_cuts : MethodName := ⟨RX9, "cuts", "(I)I"⟩
abbrev cX9_heals : ByteArray := prog_11_method_40_code
def yX9_heals : MethodName := ⟨RX9, "heals", "(I)I"⟩
abbrev cX9_safeMany : ByteArray := prog_11_method_41_code
def yX9_safeMany : MethodName := ⟨RX9, "safeMany", "()I"⟩
abbrev cX9_cycles : ByteArray := prog_11_method_42_code
def yX9_cycles : MethodName := ⟨RX9, "cycles", "(I)I"⟩
abbrev cX9_resets : ByteArray := prog_11_method_43_code
def yX9_resets : MethodName := ⟨RX9, "resets", "(I)I"⟩
abbrev cX9_sets : ByteArray := prog_11_method_44_code
def yX9_sets : MethodName := ⟨RX9, "sets", "(III)I"⟩
abbrev cX9_drifts : ByteArray := prog_11_method_45_code
def yX9_drifts : MethodName := ⟨RX9, "drifts", "(II)I"⟩
abbrev cX9_measures : ByteArray := prog_11_method_46_code
def yX9_measures : MethodName := ⟨RX9, "measures", "()I"⟩
abbrev cX9_offOf : ByteArray := prog_11_method_47_code
def yX9_offOf : MethodName := ⟨RX9, "offOf", "(I)I"⟩
abbrev cX9_drive : ByteArray := prog_11_method_48_code
def yX9_drive : MethodName := ⟨RX9, "drive", "(II)I"⟩
abbrev cX9_link : ByteArray := prog_11_method_49_code
def yX9_link : MethodName := ⟨RX9, "link", "(II)I"⟩
abbrev cX9_isOrder : ByteArray := prog_11_method_50_code
def yX9_isOrder : MethodName := ⟨RX9, "isOrder", "(I)Z"⟩
abbrev cX9_order : ByteArray := prog_11_method_51_code
def yX9_order : MethodName := ⟨RX9, "order", "(II)I"⟩
abbrev cX9_result : ByteArray := prog_11_method_52_code
def yX9_result : MethodName := ⟨RX9, "result", "(II)I"⟩
abbrev cX9_time : ByteArray := prog_11_method_53_code
def yX9_time : MethodName := ⟨RX9, "time", "(I)I"⟩
abbrev cX9_reached : ByteArray := prog_11_method_54_code
def yX9_reached : MethodName := ⟨RX9, "reached", "(I)I"⟩
abbrev cX9_would : ByteArray := prog_11_method_55_code
def yX9_would : MethodName := ⟨RX9, "would", "(I)I"⟩
abbrev cX9_sees : ByteArray := prog_11_method_56_code
def yX9_sees : MethodName := ⟨RX9, "sees", "(II)I"⟩
abbrev cX9_forget : ByteArray := prog_11_method_57_code
def yX9_forget : MethodName := ⟨RX9, "forget", "()I"⟩
abbrev cX9_isSo : ByteArray := prog_11_method_58_code
def yX9_isSo : MethodName := ⟨RX9, "isSo", "(I)Z"⟩
abbrev cX9_findLinks : ByteArray := prog_11_method_59_code
def yX9_findLinks : MethodName := ⟨RX9, "findLinks", "()I"⟩
abbrev cX9_which : ByteArray := prog_11_method_60_code
def yX9_which : MethodName := ⟨RX9, "which", "(I)I"⟩
abbrev cX9_ask : ByteArray := prog_11_method_61_code
def yX9_ask : MethodName := ⟨RX9, "ask", "()I"⟩
abbrev cX9_keep : ByteArray := prog_11_method_62_code
def yX9_keep : MethodName := ⟨RX9, "keep", "(I)I"⟩
abbrev cX9_back : ByteArray := prog_11_method_63_code
def yX9_back : MethodName := ⟨RX9, "back", "(I)I"⟩
abbrev cX9_spread : ByteArray := prog_11_method_64_code
def yX9_spread : MethodName := ⟨RX9, "spread", "()I"⟩
abbrev cX9_count : ByteArray := prog_11_method_65_code
def yX9_count : MethodName := ⟨RX9, "count", "(I)I"⟩
def RJ6 : String := "java/lang/Integer"
def TJ6 : u_T := fun k => match k with
  | _ => ("", "", "", false)
def tyJ6 : Nat → FieldType := fun k => match k with
  | _ => .int
theorem nmJ6 : ∀ a, a < 0 → ∀ b, b < 0 → a ≠ b → (TJ6 a).2.1 ≠ (TJ6 b).2.1 := by decide +kernel
theorem tyJ6_ok : ∀ k, k < 0 → parseFieldDescriptor (TJ6 k).2.2.1 = some (tyJ6 k) := by decide +kernel
abbrev cJ6_bitCount_0f7a4 : ByteArray := prog_12_method_49_code
def yJ6_bitCount_0f7a4 : MethodName := ⟨RJ6, "bitCount", "(I)I"⟩
def RJ9 : String := "java/lang/Math"
def TJ9 : u_T := fun k => match k with
  | _ => ("", "", "", false)
def tyJ9 : Nat → FieldType := fun k => match k with
  | _ => .int
theorem nmJ9 : ∀ a, a < 0 → ∀ b, b < 0 → a ≠ b → (TJ9 a).2.1 ≠ (TJ9 b).2.1 := by decide +kernel
theorem tyJ9_ok : ∀ k, k < 0 → parseFieldDescriptor (TJ9 k).2.2.1 = some (tyJ9 k) := by decide +kernel
abbrev cJ9_max_7cf53 : ByteArray := prog_13_method_65_code
def yJ9_max_7cf53 : MethodName := ⟨RJ9, "max", "(II)I"⟩
abbrev cJ9_min_7cf53 : ByteArray := prog_13_method_69_code
def yJ9_min_7cf53 : MethodName := ⟨RJ9, "min", "(II)I"⟩
def RJ10 : String := "java/lang/System"
def TJ10 : u_T := fun k => match k with
  | _ => ("", "", "", false)
def tyJ10 : Nat → FieldType := fun k => match k with
  | _ => .int
theorem nmJ10 : ∀ a, a < 0 → ∀ b, b < 0 → a ≠ b → (TJ10 a).2.1 ≠ (TJ10 b).2.1 := by decide +kernel
theorem tyJ10_ok : ∀ k, k < 0 → parseFieldDescriptor (TJ10 k).2.2.1 = some (tyJ10 k) := by decide +kernel
def RJ7 : String := "java/util/Arrays"
def TJ7 : u_T := fun k => match k with
  | _ => ("", "", "", false)
def tyJ7 : Nat → FieldType := fun k => match k with
  | _ => .int
theorem nmJ7 : ∀ a, a < 0 → ∀ b, b < 0 → a ≠ b → (TJ7 a).2.1 ≠ (TJ7 b).2.1 := by decide +kernel
theorem tyJ7_ok : ∀ k, k < 0 → parseFieldDescriptor (TJ7 k).2.2.1 = some (tyJ7 k) := by decide +kernel
abbrev cJ7_rangeCheck_23922 : ByteArray := prog_15_method_30_code
def yJ7_rangeCheck_23922 : MethodName := ⟨RJ7, "rangeCheck", "(III)V"⟩
abbrev cJ7_fill_53178 : ByteArray := prog_15_method_103_code
def yJ7_fill_53178 : MethodName := ⟨RJ7, "fill", "([II)V"⟩
abbrev cJ7_fill_fda19 : ByteArray := prog_15_method_104_code
def yJ7_fill_fda19 : MethodName := ⟨RJ7, "fill", "([IIII)V"⟩
def RL : String := "RingFramesLaw"
abbrev cL_law : ByteArray := code
def yL_law : MethodName := ⟨RL, "law", "([I)Z"⟩
abbrev vwCl : List vw_C := [(RX0, TX0, 3), (RX1, TX1, 3), (RX2, TX2, 2), (RX3, TX3, 12), (RX4, TX4, 3), (RX5, TX5, 3), (RX6, TX6, 3), (RX7, TX7, 6), (RX8, TX8, 11), (RX9, TX9, 23)]
/-- the words that a callee may be handed -/
def lw_good : List Cond := lw_tbl.filter goodWord
theorem lw_good_tbl {w : Cond} (h : w ∈ lw_good) : w ∈ lw_tbl := (List.mem_filter.mp h).1
theorem lw_good_in : GoodIn lw_tbl lw_good := fun w h => ⟨(List.mem_filter.mp h).1, good_of_word (List.mem_filter.mp h).2⟩
theorem lw_good_self : GoodIn lw_good lw_good := fun w h => ⟨h, good_of_word (List.mem_filter.mp h).2⟩
theorem lw_gi {w : Cond} (i : Nat) (h : tables_1[i]? = some w) (hg : goodWord w = true) : w ∈ lw_good := List.mem_filter.mpr ⟨List.mem_append_right _ (List.mem_of_getElem? h), hg⟩
theorem lw_gs {w : Cond} (i : Nat) (h : (k2_sels lw_privs)[i]? = some w) (hg : goodWord w = true) : w ∈ lw_good := List.mem_filter.mpr ⟨List.mem_append_left _ (List.mem_of_getElem? h), hg⟩
def lw_nst : List Cond := [(Jvm.Cond.fieldLinkNest "RingFrames$Sender" (65 : Nat) "RingFrames$Ring" "times" "[I" "RingFrames"), (Jvm.Cond.fieldLinkNest "RingFrames" (181 : Nat) "RingFrames$Ring" "times" "[I" "RingFrames"), (Jvm.Cond.fieldLinkNest "RingFrames$Sender" (38 : Nat) "RingFrames$Ring" "drives" "I" "RingFrames"), (Jvm.Cond.fieldLinkNest "RingFrames$Reader" (37 : Nat) "RingFrames$Ring" "drives" "I" "RingFrames"), (Jvm.Cond.fieldLinkNest "RingFrames" (92 : Nat) "RingFrames$Ring" "drives" "I" "RingFrames"), (Jvm.Cond.fieldLinkNest "RingFrames$Copy" (21 : Nat) "RingFrames$Ring" "orders" "I" "RingFrames"), (Jvm.Cond.fieldLinkNest "RingFrames$Sender" (52 : Nat) "RingFrames$Ring" "orders" "I" "RingFrames"), (Jvm.Cond.fieldLinkNest "RingFrames" (102 : Nat) "RingFrames$Ring" "orders" "I" "RingFrames"), (Jvm.Cond.fieldLinkNest "RingFrames$Reader" (83 : Nat) "RingFrames$Ring" "orders" "I" "RingFrames"), (Jvm.Cond.fieldLinkNest "RingFrames$Reader" (74 : Nat) "RingFrames$Ring" "limit" "I" "RingFrames"), (Jvm.Cond.fieldLinkNest "RingFrames" (225 : Nat) "RingFrames$Ring" "limit" "I" "RingFrames"), (Jvm.Cond.fieldLinkNest "RingFrames$Sender" (49 : Nat) "RingFrames$Ring" "cyclesRun" "I" "RingFrames"), (Jvm.Cond.fieldLinkNest "RingFrames" (228 : Nat) "RingFrames$Ring" "cyclesRun" "I" "RingFrames"), (Jvm.Cond.fieldLinkNest "RingFrames" (222 : Nat) "RingFrames$Ring" "closed" "Z" "RingFrames"), (Jvm.Cond.fieldLinkNest "RingFrames$Sender" (62 : Nat) "RingFrames$Ring" "hasResults" "Z" "RingFrames"), (Jvm.Cond.fieldLinkNest "RingFrames" (175 : Nat) "RingFrames$Ring" "hasResults" "Z" "RingFrames"), (Jvm.Cond.fieldLinkNest "RingFrames$Sender" (25 : Nat) "RingFrames$Ring" "freshCut" "Z" "RingFrames"), (Jvm.Cond.fieldLinkNest "RingFrames" (119 : Nat) "RingFrames$Ring" "freshCut" "Z" "RingFrames"), (Jvm.Cond.methodLinkNest "RingFrames" (24 : Nat) ({ cls := "RingFrames$Text", name := "<init>", desc := "()V" } : Jvm.MethodName) "RingFrames"), (Jvm.Cond.fieldLinkNest "RingFrames" (74 : Nat) "RingFrames$Text" "size" "I" "RingFrames"), (Jvm.Cond.fieldLinkNest "RingFrames" (86 : Nat) "RingFrames$Text" "place" "I" "RingFrames"), (Jvm.Cond.fieldLinkNest "RingFrames$Reader" (29 : Nat) "RingFrames$Text" "kind" "I" "RingFrames"), (Jvm.Cond.fieldLinkNest "RingFrames$Reader" (93 : Nat) "RingFrames$Text" "number" "I" "RingFrames"), (Jvm.Cond.methodLinkNest "RingFrames" (40 : Nat) ({ cls := "RingFrames$Sender", name := "<init>", desc := "()V" } : Jvm.MethodName) "RingFrames"), (Jvm.Cond.methodLinkNest "RingFrames$Sender" (11 : Nat) ({ cls := "RingFrames$Copy", name := "<init>", desc := "()V" } : Jvm.MethodName) "RingFrames"), (Jvm.Cond.fieldLinkNest "RingFrames$Sender" (114 : Nat) "RingFrames$Copy" "data" "[I" "RingFrames"), (Jvm.Cond.fieldLinkNest "RingFrames$Sender" (89 : Nat) "RingFrames$Copy" "counts" "[I" "RingFrames"), (Jvm.Cond.fieldLinkNest "RingFrames" (158 : Nat) "RingFrames$History" "size" "I" "RingFrames"), (Jvm.Cond.methodLinkNest "RingFrames" (62 : Nat) ({ cls := "RingFrames$Sightings", name := "<init>", desc := "()V" } : Jvm.MethodName) "RingFrames"), (Jvm.Cond.fieldLinkNest "RingFrames" (200 : Nat) "RingFrames$Sightings" "size" "I" "RingFrames"), (Jvm.Cond.methodLinkNest "RingFrames" (69 : Nat) ({ cls := "RingFrames$Suspects", name := "<init>", desc := "()V" } : Jvm.MethodName) "RingFrames"), (Jvm.Cond.fieldLinkNest "RingFrames" (211 : Nat) "RingFrames$Suspects" "links" "[I" "RingFrames"), (Jvm.Cond.fieldLinkNest "RingFrames" (210 : Nat) "RingFrames$Suspects" "size" "I" "RingFrames")]
theorem lw_nst_in : ∀ w ∈ lw_nst, w ∈ tables_1 := fun w h => by
  have e : lw_nst = ([67, 68, 70, 71, 72, 73, 75, 76, 77, 79, 80, 82, 83, 85, 87, 88, 89, 91, 120, 126, 128, 130, 133, 162, 168, 173, 175, 206, 216, 223, 234, 239, 242] : List Nat).filterMap (fun i => tables_1[i]?) := by decide +kernel
  rw [e] at h
  obtain ⟨i, -, hi⟩ := List.mem_filterMap.mp h
  exact List.mem_of_getElem? hi
theorem i_X0 : ∀ w ∈ u_ws RX0 TX0 3, w ∈ lw_good := fun w h => by
  have e : u_ws RX0 TX0 3 = ([177, 179, 181] : List Nat).filterMap (fun i => tables_1[i]?) := by decide +kernel
  have g : (u_ws RX0 TX0 3).all goodWord = true := by decide +kernel
  have hg := List.all_eq_true.mp g w h
  rw [e] at h
  obtain ⟨i, -, hi⟩ := List.mem_filterMap.mp h
  exact lw_gi i hi hg
theorem i_X1 : ∀ w ∈ u_ws RX1 TX1 3, w ∈ lw_good := fun w h => by
  have e : u_ws RX1 TX1 3 = ([207, 209, 211] : List Nat).filterMap (fun i => tables_1[i]?) := by decide +kernel
  have g : (u_ws RX1 TX1 3).all goodWord = true := by decide +kernel
  have hg := List.all_eq_true.mp g w h
  rw [e] at h
  obtain ⟨i, -, hi⟩ := List.mem_filterMap.mp h
  exact lw_gi i hi hg
theorem i_X2 : ∀ w ∈ u_ws RX2 TX2 2, w ∈ lw_good := fun w h => by
  have e : u_ws RX2 TX2 2 = ([155, 157] : List Nat).filterMap (fun i => tables_1[i]?) := by decide +kernel
  have g : (u_ws RX2 TX2 2).all goodWord = true := by decide +kernel
  have hg := List.all_eq_true.mp g w h
  rw [e] at h
  obtain ⟨i, -, hi⟩ := List.mem_filterMap.mp h
  exact lw_gi i hi hg
theorem i_X3 : ∀ w ∈ u_ws RX3 TX3 12, w ∈ lw_good := fun w h => by
  have e : u_ws RX3 TX3 12 = ([92, 94, 96, 98, 100, 102, 104, 106, 108, 110, 112, 114] : List Nat).filterMap (fun i => tables_1[i]?) := by decide +kernel
  have g : (u_ws RX3 TX3 12).all goodWord = true := by decide +kernel
  have hg := List.all_eq_true.mp g w h
  rw [e] at h
  obtain ⟨i, -, hi⟩ := List.mem_filterMap.mp h
  exact lw_gi i hi hg
theorem i_X4 : ∀ w ∈ u_ws RX4 TX4 3, w ∈ lw_good := fun w h => by
  have e : u_ws RX4 TX4 3 = ([187, 189, 191] : List Nat).filterMap (fun i => tables_1[i]?) := by decide +kernel
  have g : (u_ws RX4 TX4 3).all goodWord = true := by decide +kernel
  have hg := List.all_eq_true.mp g w h
  rw [e] at h
  obtain ⟨i, -, hi⟩ := List.mem_filterMap.mp h
  exact lw_gi i hi hg
theorem i_X5 : ∀ w ∈ u_ws RX5 TX5 3, w ∈ lw_good := fun w h => by
  have e : u_ws RX5 TX5 3 = ([224, 226, 228] : List Nat).filterMap (fun i => tables_1[i]?) := by decide +kernel
  have g : (u_ws RX5 TX5 3).all goodWord = true := by decide +kernel
  have hg := List.all_eq_true.mp g w h
  rw [e] at h
  obtain ⟨i, -, hi⟩ := List.mem_filterMap.mp h
  exact lw_gi i hi hg
theorem i_X6 : ∀ w ∈ u_ws RX6 TX6 3, w ∈ lw_good := fun w h => by
  have e : u_ws RX6 TX6 3 = ([243, 245, 247] : List Nat).filterMap (fun i => tables_1[i]?) := by decide +kernel
  have g : (u_ws RX6 TX6 3).all goodWord = true := by decide +kernel
  have hg := List.all_eq_true.mp g w h
  rw [e] at h
  obtain ⟨i, -, hi⟩ := List.mem_filterMap.mp h
  exact lw_gi i hi hg
theorem i_X7 : ∀ w ∈ u_ws RX7 TX7 6, w ∈ lw_good := fun w h => by
  have e : u_ws RX7 TX7 6 = ([134, 136, 138, 140, 142, 144] : List Nat).filterMap (fun i => tables_1[i]?) := by decide +kernel
  have g : (u_ws RX7 TX7 6).all goodWord = true := by decide +kernel
  have hg := List.all_eq_true.mp g w h
  rw [e] at h
  obtain ⟨i, -, hi⟩ := List.mem_filterMap.mp h
  exact lw_gi i hi hg
theorem i_X8 : ∀ w ∈ u_ws RX8 TX8 11, w ∈ lw_good := fun w h => by
  have e : u_ws RX8 TX8 11 = ([261, 263, 265, 267, 269, 271, 273, 275, 277, 279, 281] : List Nat).filterMap (fun i => tables_1[i]?) := by decide +kernel
  have g : (u_ws RX8 TX8 11).all goodWord = true := by decide +kernel
  have hg := List.all_eq_true.mp g w h
  rw [e] at h
  obtain ⟨i, -, hi⟩ := List.mem_filterMap.mp h
  exact lw_gi i hi hg
theorem i_X9 : ∀ w ∈ u_ws RX9 TX9 23, w ∈ lw_good := fun w h => by
  have e : u_ws RX9 TX9 23 = ([742, 744, 746, 748, 750, 752, 754, 756, 758, 760, 762, 764, 766, 768, 770, 772, 774, 776, 778, 780, 782, 784, 786] : List Nat).filterMap (fun i => tables_1[i]?) := by decide +kernel
  have g : (u_ws RX9 TX9 23).all goodWord = true := by decide +kernel
  have hg := List.all_eq_true.mp g w h
  rw [e] at h
  obtain ⟨i, -, hi⟩ := List.mem_filterMap.mp h
  exact lw_gi i hi hg
