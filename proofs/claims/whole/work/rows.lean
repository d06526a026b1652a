section
-- ===== PART A: goes FIRST, ahead of the names: the tables' words, and 'selects' of the private methods out of them =====
/-- a private method of a class that the tables say can be made, by its rows of tables_1 -/
def lw_okq (q : MethodName × Nat) : Prop := (q.1.cls ≠ "java/lang/invoke/MethodHandle" ∧ q.1.cls ≠ "java/lang/invoke/VarHandle") ∧ Cond.instantiable q.1.cls q.2 ∈ tables_1 ∧ Cond.privateMethod q.1 ∈ tables_1 ∧ Cond.instanceMethod q.1 ∈ tables_1
theorem lw_p0 : lw_okq (⟨"RingFrames$Ring", "putNewLink", "(II)V"⟩, 12) := ⟨⟨by decide +kernel, by decide +kernel⟩, List.mem_of_getElem? (i := 24) (by decide +kernel), List.mem_of_getElem? (i := 55) (by decide +kernel), List.mem_of_getElem? (i := 56) (by decide +kernel)⟩
theorem lw_p1 : lw_okq (⟨"RingFrames$Text", "stepOverFigures", "()V"⟩, 6) := ⟨⟨by decide +kernel, by decide +kernel⟩, List.mem_of_getElem? (i := 119) (by decide +kernel), List.mem_of_getElem? (i := 317) (by decide +kernel), List.mem_of_getElem? (i := 318) (by decide +kernel)⟩
theorem lw_p2 : lw_okq (⟨"RingFrames$Reader", "readsItem", "(LRingFrames$Ring;)Z"⟩, 2) := ⟨⟨by decide +kernel, by decide +kernel⟩, List.mem_of_getElem? (i := 148) (by decide +kernel), List.mem_of_getElem? (i := 324) (by decide +kernel), List.mem_of_getElem? (i := 325) (by decide +kernel)⟩
theorem lw_p3 : lw_okq (⟨"RingFrames$Reader", "readsDrive", "(LRingFrames$Ring;)Z"⟩, 2) := ⟨⟨by decide +kernel, by decide +kernel⟩, List.mem_of_getElem? (i := 148) (by decide +kernel), List.mem_of_getElem? (i := 328) (by decide +kernel), List.mem_of_getElem? (i := 329) (by decide +kernel)⟩
theorem lw_p4 : lw_okq (⟨"RingFrames$Reader", "takeNumber", "(II)I"⟩, 2) := ⟨⟨by decide +kernel, by decide +kernel⟩, List.mem_of_getElem? (i := 148) (by decide +kernel), List.mem_of_getElem? (i := 334) (by decide +kernel), List.mem_of_getElem? (i := 335) (by decide +kernel)⟩
theorem lw_p5 : lw_okq (⟨"RingFrames$Reader", "takesEnd", "()Z"⟩, 2) := ⟨⟨by decide +kernel, by decide +kernel⟩, List.mem_of_getElem? (i := 148) (by decide +kernel), List.mem_of_getElem? (i := 338) (by decide +kernel), List.mem_of_getElem? (i := 339) (by decide +kernel)⟩
theorem lw_p6 : lw_okq (⟨"RingFrames$Reader", "readsClosing", "(LRingFrames$Ring;)Z"⟩, 2) := ⟨⟨by decide +kernel, by decide +kernel⟩, List.mem_of_getElem? (i := 148) (by decide +kernel), List.mem_of_getElem? (i := 343) (by decide +kernel), List.mem_of_getElem? (i := 344) (by decide +kernel)⟩
theorem lw_p7 : lw_okq (⟨"RingFrames$Reader", "readsLimit", "(LRingFrames$Ring;)Z"⟩, 2) := ⟨⟨by decide +kernel, by decide +kernel⟩, List.mem_of_getElem? (i := 148) (by decide +kernel), List.mem_of_getElem? (i := 356) (by decide +kernel), List.mem_of_getElem? (i := 357) (by decide +kernel)⟩
theorem lw_p8 : lw_okq (⟨"RingFrames", "adoptDraft", "()V"⟩, 11) := ⟨⟨by decide +kernel, by decide +kernel⟩, List.mem_of_getElem? (i := 16) (by decide +kernel), List.mem_of_getElem? (i := 360) (by decide +kernel), List.mem_of_getElem? (i := 361) (by decide +kernel)⟩
theorem lw_p9 : lw_okq (⟨"RingFrames$Reader", "readsOrder", "(LRingFrames$Ring;)Z"⟩, 2) := ⟨⟨by decide +kernel, by decide +kernel⟩, List.mem_of_getElem? (i := 148) (by decide +kernel), List.mem_of_getElem? (i := 386) (by decide +kernel), List.mem_of_getElem? (i := 387) (by decide +kernel)⟩
theorem lw_p10 : lw_okq (⟨"RingFrames$Sender", "sendNothing", "(LRingFrames$Ring;)V"⟩, 3) := ⟨⟨by decide +kernel, by decide +kernel⟩, List.mem_of_getElem? (i := 161) (by decide +kernel), List.mem_of_getElem? (i := 436) (by decide +kernel), List.mem_of_getElem? (i := 437) (by decide +kernel)⟩
theorem lw_p11 : lw_okq (⟨"RingFrames$Sender", "pass", "(LRingFrames$Ring;ILRingFrames$Copy;)V"⟩, 3) := ⟨⟨by decide +kernel, by decide +kernel⟩, List.mem_of_getElem? (i := 161) (by decide +kernel), List.mem_of_getElem? (i := 463) (by decide +kernel), List.mem_of_getElem? (i := 464) (by decide +kernel)⟩
theorem lw_p12 : lw_okq (⟨"RingFrames$Sender", "joinedData", "(LRingFrames$Ring;I)I"⟩, 3) := ⟨⟨by decide +kernel, by decide +kernel⟩, List.mem_of_getElem? (i := 161) (by decide +kernel), List.mem_of_getElem? (i := 491) (by decide +kernel), List.mem_of_getElem? (i := 492) (by decide +kernel)⟩
theorem lw_p13 : lw_okq (⟨"RingFrames$Ring", "lengths", "(II)I"⟩, 12) := ⟨⟨by decide +kernel, by decide +kernel⟩, List.mem_of_getElem? (i := 24) (by decide +kernel), List.mem_of_getElem? (i := 504) (by decide +kernel), List.mem_of_getElem? (i := 505) (by decide +kernel)⟩
theorem lw_p14 : lw_okq (⟨"RingFrames", "sendTrial", "(I)V"⟩, 11) := ⟨⟨by decide +kernel, by decide +kernel⟩, List.mem_of_getElem? (i := 16) (by decide +kernel), List.mem_of_getElem? (i := 628) (by decide +kernel), List.mem_of_getElem? (i := 629) (by decide +kernel)⟩
theorem lw_p15 : lw_okq (⟨"RingFrames", "findSuspects", "()V"⟩, 11) := ⟨⟨by decide +kernel, by decide +kernel⟩, List.mem_of_getElem? (i := 16) (by decide +kernel), List.mem_of_getElem? (i := 659) (by decide +kernel), List.mem_of_getElem? (i := 660) (by decide +kernel)⟩
def lw_privs_1 : List (MethodName × Nat) := [(⟨"RingFrames$Ring", "putNewLink", "(II)V"⟩, 12), (⟨"RingFrames$Text", "stepOverFigures", "()V"⟩, 6), (⟨"RingFrames$Reader", "readsItem", "(LRingFrames$Ring;)Z"⟩, 2), (⟨"RingFrames$Reader", "readsDrive", "(LRingFrames$Ring;)Z"⟩, 2), (⟨"RingFrames$Reader", "takeNumber", "(II)I"⟩, 2), (⟨"RingFrames$Reader", "takesEnd", "()Z"⟩, 2), (⟨"RingFrames$Reader", "readsClosing", "(LRingFrames$Ring;)Z"⟩, 2), (⟨"RingFrames$Reader", "readsLimit", "(LRingFrames$Ring;)Z"⟩, 2), (⟨"RingFrames", "adoptDraft", "()V"⟩, 11), (⟨"RingFrames$Reader", "readsOrder", "(LRingFrames$Ring;)Z"⟩, 2), (⟨"RingFrames$Sender", "sendNothing", "(LRingFrames$Ring;)V"⟩, 3), (⟨"RingFrames$Sender", "pass", "(LRingFrames$Ring;ILRingFrames$Copy;)V"⟩, 3), (⟨"RingFrames$Sender", "joinedData", "(LRingFrames$Ring;I)I"⟩, 3), (⟨"RingFrames$Ring", "lengths", "(II)I"⟩, 12), (⟨"RingFrames", "sendTrial", "(I)V"⟩, 11), (⟨"RingFrames", "findSuspects", "()V"⟩, 11)]
theorem lw_r1 : ∀ q ∈ lw_privs_1, lw_okq q := List.forall_mem_cons.mpr ⟨lw_p0, List.forall_mem_cons.mpr ⟨lw_p1, List.forall_mem_cons.mpr ⟨lw_p2, List.forall_mem_cons.mpr ⟨lw_p3, List.forall_mem_cons.mpr ⟨lw_p4, List.forall_mem_cons.mpr ⟨lw_p5, List.forall_mem_cons.mpr ⟨lw_p6, List.forall_mem_cons.mpr ⟨lw_p7, List.forall_mem_cons.mpr ⟨lw_p8, List.forall_mem_cons.mpr ⟨lw_p9, List.forall_mem_cons.mpr ⟨lw_p10, List.forall_mem_cons.mpr ⟨lw_p11, List.forall_mem_cons.mpr ⟨lw_p12, List.forall_mem_cons.mpr ⟨lw_p13, List.forall_mem_cons.mpr ⟨lw_p14, List.forall_mem_cons.mpr ⟨lw_p15, fun _ h => absurd h List.not_mem_nil⟩⟩⟩⟩⟩⟩⟩⟩⟩⟩⟩⟩⟩⟩⟩⟩
theorem lw_p16 : lw_okq (⟨"RingFrames$Suspects", "mostAlike", "(I)I"⟩, 3) := ⟨⟨by decide +kernel, by decide +kernel⟩, List.mem_of_getElem? (i := 233) (by decide +kernel), List.mem_of_getElem? (i := 677) (by decide +kernel), List.mem_of_getElem? (i := 678) (by decide +kernel)⟩
theorem lw_p17 : lw_okq (⟨"RingFrames$Suspects", "alikeWith", "(II)I"⟩, 3) := ⟨⟨by decide +kernel, by decide +kernel⟩, List.mem_of_getElem? (i := 233) (by decide +kernel), List.mem_of_getElem? (i := 681) (by decide +kernel), List.mem_of_getElem? (i := 682) (by decide +kernel)⟩
theorem lw_p18 : lw_okq (⟨"RingFramesModel", "beginRead", "()V"⟩, 23) := ⟨⟨by decide +kernel, by decide +kernel⟩, List.mem_of_getElem? (i := 707) (by decide +kernel), List.mem_of_getElem? (i := 713) (by decide +kernel), List.mem_of_getElem? (i := 714) (by decide +kernel)⟩
theorem lw_p19 : lw_okq (⟨"RingFramesModel", "readWire", "()I"⟩, 23) := ⟨⟨by decide +kernel, by decide +kernel⟩, List.mem_of_getElem? (i := 707) (by decide +kernel), List.mem_of_getElem? (i := 805) (by decide +kernel), List.mem_of_getElem? (i := 806) (by decide +kernel)⟩
theorem lw_p20 : lw_okq (⟨"RingFramesModel", "scan", "()V"⟩, 23) := ⟨⟨by decide +kernel, by decide +kernel⟩, List.mem_of_getElem? (i := 707) (by decide +kernel), List.mem_of_getElem? (i := 809) (by decide +kernel), List.mem_of_getElem? (i := 810) (by decide +kernel)⟩
theorem lw_p21 : lw_okq (⟨"RingFramesModel", "readDrive", "()Z"⟩, 23) := ⟨⟨by decide +kernel, by decide +kernel⟩, List.mem_of_getElem? (i := 707) (by decide +kernel), List.mem_of_getElem? (i := 816) (by decide +kernel), List.mem_of_getElem? (i := 817) (by decide +kernel)⟩
theorem lw_p22 : lw_okq (⟨"RingFramesModel", "scanNumber", "(II)Z"⟩, 23) := ⟨⟨by decide +kernel, by decide +kernel⟩, List.mem_of_getElem? (i := 707) (by decide +kernel), List.mem_of_getElem? (i := 820) (by decide +kernel), List.mem_of_getElem? (i := 821) (by decide +kernel)⟩
theorem lw_p23 : lw_okq (⟨"RingFramesModel", "scanEnd", "()Z"⟩, 23) := ⟨⟨by decide +kernel, by decide +kernel⟩, List.mem_of_getElem? (i := 707) (by decide +kernel), List.mem_of_getElem? (i := 824) (by decide +kernel), List.mem_of_getElem? (i := 825) (by decide +kernel)⟩
theorem lw_p24 : lw_okq (⟨"RingFramesModel", "readLast", "()Z"⟩, 23) := ⟨⟨by decide +kernel, by decide +kernel⟩, List.mem_of_getElem? (i := 707) (by decide +kernel), List.mem_of_getElem? (i := 828) (by decide +kernel), List.mem_of_getElem? (i := 829) (by decide +kernel)⟩
theorem lw_p25 : lw_okq (⟨"RingFramesModel", "readLimit", "()Z"⟩, 23) := ⟨⟨by decide +kernel, by decide +kernel⟩, List.mem_of_getElem? (i := 707) (by decide +kernel), List.mem_of_getElem? (i := 832) (by decide +kernel), List.mem_of_getElem? (i := 833) (by decide +kernel)⟩
theorem lw_p26 : lw_okq (⟨"RingFramesModel", "note", "()V"⟩, 23) := ⟨⟨by decide +kernel, by decide +kernel⟩, List.mem_of_getElem? (i := 707) (by decide +kernel), List.mem_of_getElem? (i := 836) (by decide +kernel), List.mem_of_getElem? (i := 837) (by decide +kernel)⟩
theorem lw_p27 : lw_okq (⟨"RingFramesModel", "readFrame", "()I"⟩, 23) := ⟨⟨by decide +kernel, by decide +kernel⟩, List.mem_of_getElem? (i := 707) (by decide +kernel), List.mem_of_getElem? (i := 844) (by decide +kernel), List.mem_of_getElem? (i := 845) (by decide +kernel)⟩
theorem lw_p28 : lw_okq (⟨"RingFramesModel", "readOrder", "()Z"⟩, 23) := ⟨⟨by decide +kernel, by decide +kernel⟩, List.mem_of_getElem? (i := 707) (by decide +kernel), List.mem_of_getElem? (i := 848) (by decide +kernel), List.mem_of_getElem? (i := 849) (by decide +kernel)⟩
theorem lw_p29 : lw_okq (⟨"RingFramesModel", "isLink", "(I)Z"⟩, 23) := ⟨⟨by decide +kernel, by decide +kernel⟩, List.mem_of_getElem? (i := 707) (by decide +kernel), List.mem_of_getElem? (i := 860) (by decide +kernel), List.mem_of_getElem? (i := 861) (by decide +kernel)⟩
theorem lw_p30 : lw_okq (⟨"RingFramesModel", "links", "()I"⟩, 23) := ⟨⟨by decide +kernel, by decide +kernel⟩, List.mem_of_getElem? (i := 707) (by decide +kernel), List.mem_of_getElem? (i := 864) (by decide +kernel), List.mem_of_getElem? (i := 865) (by decide +kernel)⟩
theorem lw_p31 : lw_okq (⟨"RingFramesModel", "cycleOnce", "()V"⟩, 23) := ⟨⟨by decide +kernel, by decide +kernel⟩, List.mem_of_getElem? (i := 707) (by decide +kernel), List.mem_of_getElem? (i := 882) (by decide +kernel), List.mem_of_getElem? (i := 883) (by decide +kernel)⟩
def lw_privs_2 : List (MethodName × Nat) := [(⟨"RingFrames$Suspects", "mostAlike", "(I)I"⟩, 3), (⟨"RingFrames$Suspects", "alikeWith", "(II)I"⟩, 3), (⟨"RingFramesModel", "beginRead", "()V"⟩, 23), (⟨"RingFramesModel", "readWire", "()I"⟩, 23), (⟨"RingFramesModel", "scan", "()V"⟩, 23), (⟨"RingFramesModel", "readDrive", "()Z"⟩, 23), (⟨"RingFramesModel", "scanNumber", "(II)Z"⟩, 23), (⟨"RingFramesModel", "scanEnd", "()Z"⟩, 23), (⟨"RingFramesModel", "readLast", "()Z"⟩, 23), (⟨"RingFramesModel", "readLimit", "()Z"⟩, 23), (⟨"RingFramesModel", "note", "()V"⟩, 23), (⟨"RingFramesModel", "readFrame", "()I"⟩, 23), (⟨"RingFramesModel", "readOrder", "()Z"⟩, 23), (⟨"RingFramesModel", "isLink", "(I)Z"⟩, 23), (⟨"RingFramesModel", "links", "()I"⟩, 23), (⟨"RingFramesModel", "cycleOnce", "()V"⟩, 23)]
theorem lw_r2 : ∀ q ∈ lw_privs_2, lw_okq q := List.forall_mem_cons.mpr ⟨lw_p16, List.forall_mem_cons.mpr ⟨lw_p17, List.forall_mem_cons.mpr ⟨lw_p18, List.forall_mem_cons.mpr ⟨lw_p19, List.forall_mem_cons.mpr ⟨lw_p20, List.forall_mem_cons.mpr ⟨lw_p21, List.forall_mem_cons.mpr ⟨lw_p22, List.forall_mem_cons.mpr ⟨lw_p23, List.forall_mem_cons.mpr ⟨lw_p24, List.forall_mem_cons.mpr ⟨lw_p25, List.forall_mem_cons.mpr ⟨lw_p26, List.forall_mem_cons.mpr ⟨lw_p27, List.forall_mem_cons.mpr ⟨lw_p28, List.forall_mem_cons.mpr ⟨lw_p29, List.forall_mem_cons.mpr ⟨lw_p30, List.forall_mem_cons.mpr ⟨lw_p31, fun _ h => absurd h List.not_mem_nil⟩⟩⟩⟩⟩⟩⟩⟩⟩⟩⟩⟩⟩⟩⟩⟩
theorem lw_p32 : lw_okq (⟨"RingFramesModel", "beginCopies", "()V"⟩, 23) := ⟨⟨by decide +kernel, by decide +kernel⟩, List.mem_of_getElem? (i := 707) (by decide +kernel), List.mem_of_getElem? (i := 886) (by decide +kernel), List.mem_of_getElem? (i := 887) (by decide +kernel)⟩
theorem lw_p33 : lw_okq (⟨"RingFramesModel", "send", "(I)V"⟩, 23) := ⟨⟨by decide +kernel, by decide +kernel⟩, List.mem_of_getElem? (i := 707) (by decide +kernel), List.mem_of_getElem? (i := 890) (by decide +kernel), List.mem_of_getElem? (i := 891) (by decide +kernel)⟩
theorem lw_p34 : lw_okq (⟨"RingFramesModel", "lastOfA", "(I)I"⟩, 23) := ⟨⟨by decide +kernel, by decide +kernel⟩, List.mem_of_getElem? (i := 707) (by decide +kernel), List.mem_of_getElem? (i := 894) (by decide +kernel), List.mem_of_getElem? (i := 895) (by decide +kernel)⟩
theorem lw_p35 : lw_okq (⟨"RingFramesModel", "passThrough", "(III)V"⟩, 23) := ⟨⟨by decide +kernel, by decide +kernel⟩, List.mem_of_getElem? (i := 707) (by decide +kernel), List.mem_of_getElem? (i := 898) (by decide +kernel), List.mem_of_getElem? (i := 899) (by decide +kernel)⟩
theorem lw_p36 : lw_okq (⟨"RingFramesModel", "handle", "(III)V"⟩, 23) := ⟨⟨by decide +kernel, by decide +kernel⟩, List.mem_of_getElem? (i := 707) (by decide +kernel), List.mem_of_getElem? (i := 902) (by decide +kernel), List.mem_of_getElem? (i := 903) (by decide +kernel)⟩
theorem lw_p37 : lw_okq (⟨"RingFramesModel", "firstOfB", "(I)I"⟩, 23) := ⟨⟨by decide +kernel, by decide +kernel⟩, List.mem_of_getElem? (i := 707) (by decide +kernel), List.mem_of_getElem? (i := 906) (by decide +kernel), List.mem_of_getElem? (i := 907) (by decide +kernel)⟩
theorem lw_p38 : lw_okq (⟨"RingFramesModel", "timeOf", "(II)I"⟩, 23) := ⟨⟨by decide +kernel, by decide +kernel⟩, List.mem_of_getElem? (i := 707) (by decide +kernel), List.mem_of_getElem? (i := 910) (by decide +kernel), List.mem_of_getElem? (i := 911) (by decide +kernel)⟩
theorem lw_p39 : lw_okq (⟨"RingFramesModel", "isWhole", "(I)Z"⟩, 23) := ⟨⟨by decide +kernel, by decide +kernel⟩, List.mem_of_getElem? (i := 707) (by decide +kernel), List.mem_of_getElem? (i := 914) (by decide +kernel), List.mem_of_getElem? (i := 915) (by decide +kernel)⟩
theorem lw_p40 : lw_okq (⟨"RingFramesModel", "way", "(II)I"⟩, 23) := ⟨⟨by decide +kernel, by decide +kernel⟩, List.mem_of_getElem? (i := 707) (by decide +kernel), List.mem_of_getElem? (i := 918) (by decide +kernel), List.mem_of_getElem? (i := 919) (by decide +kernel)⟩
theorem lw_p41 : lw_okq (⟨"RingFramesModel", "countOf", "(I)I"⟩, 23) := ⟨⟨by decide +kernel, by decide +kernel⟩, List.mem_of_getElem? (i := 707) (by decide +kernel), List.mem_of_getElem? (i := 922) (by decide +kernel), List.mem_of_getElem? (i := 923) (by decide +kernel)⟩
theorem lw_p42 : lw_okq (⟨"RingFramesModel", "dataOf", "(I)I"⟩, 23) := ⟨⟨by decide +kernel, by decide +kernel⟩, List.mem_of_getElem? (i := 707) (by decide +kernel), List.mem_of_getElem? (i := 926) (by decide +kernel), List.mem_of_getElem? (i := 927) (by decide +kernel)⟩
theorem lw_p43 : lw_okq (⟨"RingFramesModel", "safeMany", "()I"⟩, 23) := ⟨⟨by decide +kernel, by decide +kernel⟩, List.mem_of_getElem? (i := 707) (by decide +kernel), List.mem_of_getElem? (i := 930) (by decide +kernel), List.mem_of_getElem? (i := 931) (by decide +kernel)⟩
theorem lw_p44 : lw_okq (⟨"RingFramesModel", "isDrive", "(I)Z"⟩, 23) := ⟨⟨by decide +kernel, by decide +kernel⟩, List.mem_of_getElem? (i := 707) (by decide +kernel), List.mem_of_getElem? (i := 938) (by decide +kernel), List.mem_of_getElem? (i := 939) (by decide +kernel)⟩
theorem lw_p45 : lw_okq (⟨"RingFramesModel", "offOf", "(I)I"⟩, 23) := ⟨⟨by decide +kernel, by decide +kernel⟩, List.mem_of_getElem? (i := 707) (by decide +kernel), List.mem_of_getElem? (i := 959) (by decide +kernel), List.mem_of_getElem? (i := 960) (by decide +kernel)⟩
theorem lw_p46 : lw_okq (⟨"RingFramesModel", "isOrder", "(I)Z"⟩, 23) := ⟨⟨by decide +kernel, by decide +kernel⟩, List.mem_of_getElem? (i := 707) (by decide +kernel), List.mem_of_getElem? (i := 971) (by decide +kernel), List.mem_of_getElem? (i := 972) (by decide +kernel)⟩
theorem lw_p47 : lw_okq (⟨"RingFramesModel", "findFacts", "(I)V"⟩, 23) := ⟨⟨by decide +kernel, by decide +kernel⟩, List.mem_of_getElem? (i := 707) (by decide +kernel), List.mem_of_getElem? (i := 991) (by decide +kernel), List.mem_of_getElem? (i := 992) (by decide +kernel)⟩
def lw_privs_3 : List (MethodName × Nat) := [(⟨"RingFramesModel", "beginCopies", "()V"⟩, 23), (⟨"RingFramesModel", "send", "(I)V"⟩, 23), (⟨"RingFramesModel", "lastOfA", "(I)I"⟩, 23), (⟨"RingFramesModel", "passThrough", "(III)V"⟩, 23), (⟨"RingFramesModel", "handle", "(III)V"⟩, 23), (⟨"RingFramesModel", "firstOfB", "(I)I"⟩, 23), (⟨"RingFramesModel", "timeOf", "(II)I"⟩, 23), (⟨"RingFramesModel", "isWhole", "(I)Z"⟩, 23), (⟨"RingFramesModel", "way", "(II)I"⟩, 23), (⟨"RingFramesModel", "countOf", "(I)I"⟩, 23), (⟨"RingFramesModel", "dataOf", "(I)I"⟩, 23), (⟨"RingFramesModel", "safeMany", "()I"⟩, 23), (⟨"RingFramesModel", "isDrive", "(I)Z"⟩, 23), (⟨"RingFramesModel", "offOf", "(I)I"⟩, 23), (⟨"RingFramesModel", "isOrder", "(I)Z"⟩, 23), (⟨"RingFramesModel", "findFacts", "(I)V"⟩, 23)]
theorem lw_r3 : ∀ q ∈ lw_privs_3, lw_okq q := List.forall_mem_cons.mpr ⟨lw_p32, List.forall_mem_cons.mpr ⟨lw_p33, List.forall_mem_cons.mpr ⟨lw_p34, List.forall_mem_cons.mpr ⟨lw_p35, List.forall_mem_cons.mpr ⟨lw_p36, List.forall_mem_cons.mpr ⟨lw_p37, List.forall_mem_cons.mpr ⟨lw_p38, List.forall_mem_cons.mpr ⟨lw_p39, List.forall_mem_cons.mpr ⟨lw_p40, List.forall_mem_cons.mpr ⟨lw_p41, List.forall_mem_cons.mpr ⟨lw_p42, List.forall_mem_cons.mpr ⟨lw_p43, List.forall_mem_cons.mpr ⟨lw_p44, List.forall_mem_cons.mpr ⟨lw_p45, List.forall_mem_cons.mpr ⟨lw_p46, List.forall_mem_cons.mpr ⟨lw_p47, fun _ h => absurd h List.not_mem_nil⟩⟩⟩⟩⟩⟩⟩⟩⟩⟩⟩⟩⟩⟩⟩⟩
theorem lw_p48 : lw_okq (⟨"RingFramesModel", "isSo", "(I)Z"⟩, 23) := ⟨⟨by decide +kernel, by decide +kernel⟩, List.mem_of_getElem? (i := 707) (by decide +kernel), List.mem_of_getElem? (i := 1007) (by decide +kernel), List.mem_of_getElem? (i := 1008) (by decide +kernel)⟩
theorem lw_p49 : lw_okq (⟨"RingFramesModel", "findLinks", "()I"⟩, 23) := ⟨⟨by decide +kernel, by decide +kernel⟩, List.mem_of_getElem? (i := 707) (by decide +kernel), List.mem_of_getElem? (i := 1011) (by decide +kernel), List.mem_of_getElem? (i := 1012) (by decide +kernel)⟩
theorem lw_p50 : lw_okq (⟨"RingFramesModel", "spread", "()I"⟩, 23) := ⟨⟨by decide +kernel, by decide +kernel⟩, List.mem_of_getElem? (i := 707) (by decide +kernel), List.mem_of_getElem? (i := 1031) (by decide +kernel), List.mem_of_getElem? (i := 1032) (by decide +kernel)⟩
def lw_privs_4 : List (MethodName × Nat) := [(⟨"RingFramesModel", "isSo", "(I)Z"⟩, 23), (⟨"RingFramesModel", "findLinks", "()I"⟩, 23), (⟨"RingFramesModel", "spread", "()I"⟩, 23)]
theorem lw_r4 : ∀ q ∈ lw_privs_4, lw_okq q := List.forall_mem_cons.mpr ⟨lw_p48, List.forall_mem_cons.mpr ⟨lw_p49, List.forall_mem_cons.mpr ⟨lw_p50, fun _ h => absurd h List.not_mem_nil⟩⟩⟩
def lw_privs : List (MethodName × Nat) := lw_privs_1 ++ (lw_privs_2 ++ (lw_privs_3 ++ (lw_privs_4)))
def lw_tbl : List Cond := k2_sels lw_privs ++ tables_1
theorem lw_privs_ok : ∀ q ∈ lw_privs, lw_okq q := by
  show ∀ q ∈ lw_privs_1 ++ (lw_privs_2 ++ (lw_privs_3 ++ (lw_privs_4))), lw_okq q
  exact List.forall_mem_append.mpr ⟨lw_r1, List.forall_mem_append.mpr ⟨lw_r2, List.forall_mem_append.mpr ⟨lw_r3, lw_r4⟩⟩⟩

def RX0 : String := "RingFrames$Copy"
def TX0 : u_T := fun k => match k with
  | 0 => ("RingFrames$Copy", "data", "[I", true)
  | 1 => ("RingFrames$Copy", "counts", "[I", true)
  | _ => ("RingFrames$Copy", "places", "[I", true)
def tyX0 : Nat → FieldType := fun k => match k with
  | 0 => .array .int
  | 1 => .array .int
  | _ => .array .int
theorem nmX0 : ∀ a, a < 3 → ∀ b, b < 3 → a ≠ b → (TX0 a).2.1 ≠ (TX0 b).2.1 := by decide +kernel
theorem tyX0_ok : ∀ k, k < 3 → parseFieldDescriptor (TX0 k).2.2.1 = some (tyX0 k) := by decide +kernel
abbrev cX0_init : ByteArray := prog_2_method_1_code
def yX0_init : MethodName := ⟨RX0, "<init>", "()V"⟩
abbrev cX0_start : ByteArray := prog_2_method_2_code
def yX0_start : MethodName := ⟨RX0, "start", "(LRingFrames$Ring;)V"⟩
abbrev cX0_comesFor : ByteArray := prog_2_method_3_code
def yX0_comesFor : MethodName := ⟨RX0, "comesFor", "(LRingFrames$Ring;II)Z"⟩
abbrev cX0_obey : ByteArray := prog_2_method_4_code
def yX0_obey : MethodName := ⟨RX0, "obey", "(LRingFrames$Ring;II)V"⟩
def RX1 : String := "RingFrames$History"
def TX1 : u_T := fun k => match k with
  | 0 => ("RingFrames$History", "rings", "[LRingFrames$Ring;", true)
  | 1 => ("RingFrames$History", "next", "I", false)
  | _ => ("RingFrames$History", "size", "I", false)
def tyX1 : Nat → FieldType := fun k => match k with
  | 0 => .array (.object "RingFrames$Ring")
  | 1 => .int
  | _ => .int
theorem nmX1 : ∀ a, a < 3 → ∀ b, b < 3 → a ≠ b → (TX1 a).2.1 ≠ (TX1 b).2.1 := by decide +kernel
theorem tyX1_ok : ∀ k, k < 3 → parseFieldDescriptor (TX1 k).2.2.1 = some (tyX1 k) := by decide +kernel
abbrev cX1_init : ByteArray := prog_3_method_1_code
def yX1_init : MethodName := ⟨RX1, "<init>", "()V"⟩
abbrev cX1_push : ByteArray := prog_3_method_2_code
def yX1_push : MethodName := ⟨RX1, "push", "(LRingFrames$Ring;)V"⟩
abbrev cX1_pop : ByteArray := prog_3_method_3_code
def yX1_pop : MethodName := ⟨RX1, "pop", "(LRingFrames$Ring;)V"⟩
def RX2 : String := "RingFrames$Reader"
def TX2 : u_T := fun k => match k with
  | 0 => ("RingFrames$Reader", "text", "LRingFrames$Text;", true)
  | _ => ("RingFrames$Reader", "limitTold", "Z", false)
def tyX2 : Nat → FieldType := fun k => match k with
  | 0 => .object "RingFrames$Text"
  | _ => .boolean
theorem nmX2 : ∀ a, a < 2 → ∀ b, b < 2 → a ≠ b → (TX2 a).2.1 ≠ (TX2 b).2.1 := by decide +kernel
theorem tyX2_ok : ∀ k, k < 2 → parseFieldDescriptor (TX2 k).2.2.1 = some (tyX2 k) := by decide +kernel
abbrev cX2_init : ByteArray := prog_4_method_1_code
def yX2_init : MethodName := ⟨RX2, "<init>", "(LRingFrames$Text;)V"⟩
abbrev cX2_readsWire : ByteArray := prog_4_method_2_code
def yX2_readsWire : MethodName := ⟨RX2, "readsWire", "(LRingFrames$Ring;)Z"⟩
abbrev cX2_readsItem : ByteArray := prog_4_method_3_code
def yX2_readsItem : MethodName := ⟨RX2, "readsItem", "(LRingFrames$Ring;)Z"⟩
abbrev cX2_readsDrive : ByteArray := prog_4_method_4_code
def yX2_readsDrive : MethodName := ⟨RX2, "readsDrive", "(LRingFrames$Ring;)Z"⟩
abbrev cX2_readsClosing : ByteArray := prog_4_method_5_code
def yX2_readsClosing : MethodName := ⟨RX2, "readsClosing", "(LRingFrames$Ring;)Z"⟩
abbrev cX2_readsLimit : ByteArray := prog_4_method_6_code
def yX2_readsLimit : MethodName := ⟨RX2, "readsLimit", "(LRingFrames$Ring;)Z"⟩
abbrev cX2_readsFrame : ByteArray := prog_4_method_7_code
def yX2_readsFrame : MethodName := ⟨RX2, "readsFrame", "(LRingFrames$Ring;)Z"⟩
abbrev cX2_readsOrder : ByteArray := prog_4_method_8_code
def yX2_readsOrder : MethodName := ⟨RX2, "readsOrder", "(LRingFrames$Ring;)Z"⟩
abbrev cX2_takeNumber : ByteArray := prog_4_method_9_code
def yX2_takeNumber : MethodName := ⟨RX2, "takeNumber", "(II)I"⟩
abbrev cX2_takesEnd : ByteArray := prog_4_method_10_code
def yX2_takesEnd : MethodName := ⟨RX2, "takesEnd", "()Z"⟩
def RX3 : String := "RingFrames$Ring"
def TX3 : u_T := fun k => match k with
  | 0 => ("RingFrames$Ring", "driveRows", "[I", true)
  | 1 => ("RingFrames$Ring", "linkRows", "[I", true)
  | 2 => ("RingFrames$Ring", "orderRows", "[I", true)
  | 3 => ("RingFrames$Ring", "resultRows", "[I", true)
  | 4 => ("RingFrames$Ring", "times", "[I", true)
  | 5 => ("RingFrames$Ring", "drives", "I", false)
  | 6 => ("RingFrames$Ring", "orders", "I", false)
  | 7 => ("RingFrames$Ring", "limit", "I", false)
  | 8 => ("RingFrames$Ring", "cyclesRun", "I", false)
  | 9 => ("RingFrames$Ring", "closed", "Z", false)
  | 10 => ("RingFrames$Ring", "hasResults", "Z", false)
  | _ => ("RingFrames$Ring", "freshCut", "Z", false)
def tyX3 : Nat → FieldType := fun k => match k with
  | 0 => .array .int
  | 1 => .array .int
  | 2 => .array .int
  | 3 => .array .int
  | 4 => .array .int
  | 5 => .int
  | 6 => .int
  | 7 => .int
  | 8 => .int
  | 9 => .boolean
  | 10 => .boolean
  | _ => .boolean
theorem nmX3 : ∀ a, a < 12 → ∀ b, b < 12 → a ≠ b → (TX3 a).2.1 ≠ (TX3 b).2.1 := by decide +kernel
theorem tyX3_ok : ∀ k, k < 12 → parseFieldDescriptor (TX3 k).2.2.1 = some (tyX3 k) := by decide +kernel
abbrev cX3_init : ByteArray := prog_5_method_1_code
def yX3_init : MethodName := ⟨RX3, "<init>", "()V"⟩
abbrev cX3_becomeEmpty : ByteArray := prog_5_method_2_code
def yX3_becomeEmpty : MethodName := ⟨RX3, "becomeEmpty", "()V"⟩
abbrev cX3_dropFrame : ByteArray := prog_5_method_3_code
def yX3_dropFrame : MethodName := ⟨RX3, "dropFrame", "()V"⟩
abbrev cX3_copyFrom : ByteArray := prog_5_method_4_code
def yX3_copyFrom : MethodName := ⟨RX3, "copyFrom", "(LRingFrames$Ring;)V"⟩
abbrev cX3_takesDrive : ByteArray := prog_5_method_5_code
def yX3_takesDrive : MethodName := ⟨RX3, "takesDrive", "()Z"⟩
abbrev cX3_addDrive : ByteArray := prog_5_method_6_code
def yX3_addDrive : MethodName := ⟨RX3, "addDrive", "(II)V"⟩
abbrev cX3_takesClosing : ByteArray := prog_5_method_7_code
def yX3_takesClosing : MethodName := ⟨RX3, "takesClosing", "()Z"⟩
abbrev cX3_closeBy : ByteArray := prog_5_method_8_code
def yX3_closeBy : MethodName := ⟨RX3, "closeBy", "(I)V"⟩
abbrev cX3_putNewLink : ByteArray := prog_5_method_9_code
def yX3_putNewLink : MethodName := ⟨RX3, "putNewLink", "(II)V"⟩
abbrev cX3_takesOrder : ByteArray := prog_5_method_10_code
def yX3_takesOrder : MethodName := ⟨RX3, "takesOrder", "()Z"⟩
abbrev cX3_addOrder : ByteArray := prog_5_method_11_code
def yX3_addOrder : MethodName := ⟨RX3, "addOrder", "(IIIII)V"⟩
abbrev cX3_hasDrive : ByteArray := prog_5_method_12_code
def yX3_hasDrive : MethodName := ⟨RX3, "hasDrive", "(I)Z"⟩
abbrev cX3_hasLink : ByteArray := prog_5_method_13_code
def yX3_hasLink : MethodName := ⟨RX3, "hasLink", "(I)Z"⟩
abbrev cX3_hasOrder : ByteArray := prog_5_method_14_code
def yX3_hasOrder : MethodName := ⟨RX3, "hasOrder", "(I)Z"⟩
abbrev cX3_links : ByteArray := prog_5_method_15_code
def yX3_links : MethodName := ⟨RX3, "links", "()I"⟩
abbrev cX3_ofDrive : ByteArray := prog_5_method_16_code
def yX3_ofDrive : MethodName := ⟨RX3, "ofDrive", "(II)I"⟩
abbrev cX3_putDrive : ByteArray := prog_5_method_17_code
def yX3_putDrive : MethodName := ⟨RX3, "putDrive", "(III)V"⟩
abbrev cX3_ofLink : ByteArray := prog_5_method_18_code
def yX3_ofLink : MethodName := ⟨RX3, "ofLink", "(II)I"⟩
abbrev cX3_putLink : ByteArray := prog_5_method_19_code
def yX3_putLink : MethodName := ⟨RX3, "putLink", "(III)V"⟩
abbrev cX3_ofOrder : ByteArray := prog_5_method_20_code
def yX3_ofOrder : MethodName := ⟨RX3, "ofOrder", "(II)I"⟩
abbrev cX3_ofResult : ByteArray := prog_5_method_21_code
def yX3_ofResult : MethodName := ⟨RX3, "ofResult", "(II)I"⟩
abbrev cX3_putResult : ByteArray := prog_5_method_22_code
def yX3_putResult : MethodName := ⟨RX3, "putResult", "(III)V"⟩
abbrev cX3_isSafe : ByteArray := prog_5_method_23_code
def yX3_isSafe : MethodName := ⟨RX3, "isSafe", "(I)Z"⟩
abbrev cX3_isCut : ByteArray := prog_5_method_24_code
def yX3_isCut : MethodName := ⟨RX3, "isCut", "(I)Z"⟩
abbrev cX3_safeDrives : ByteArray := prog_5_method_25_code
def yX3_safeDrives : MethodName := ⟨RX3, "safeDrives", "()I"⟩
abbrev cX3_cutLinks : ByteArray := prog_5_method_26_code
def yX3_cutLinks : MethodName := ⟨RX3, "cutLinks", "()I"⟩
abbrev cX3_isWhole : ByteArray := prog_5_method_27_code
def yX3_isWhole : MethodName := ⟨RX3, "isWhole", "()Z"⟩
abbrev cX3_endOfA : ByteArray := prog_5_method_28_code
def yX3_endOfA : MethodName := ⟨RX3, "endOfA", "()I"⟩
abbrev cX3_startOfB : ByteArray := prog_5_method_29_code
def yX3_startOfB : MethodName := ⟨RX3, "startOfB", "()I"⟩
abbrev cX3_bitsOfA : ByteArray := prog_5_method_30_code
def yX3_bitsOfA : MethodName := ⟨RX3, "bitsOfA", "()I"⟩
abbrev cX3_bitsOfB : ByteArray := prog_5_method_31_code
def yX3_bitsOfB : MethodName := ⟨RX3, "bitsOfB", "()I"⟩
abbrev cX3_bitsOfTurning : ByteArray := prog_5_method_32_code
def yX3_bitsOfTurning : MethodName := ⟨RX3, "bitsOfTurning", "()I"⟩
abbrev cX3_learn : ByteArray := prog_5_method_33_code
def yX3_learn : MethodName := ⟨RX3, "learn", "(I)V"⟩
abbrev cX3_offOf : ByteArray := prog_5_method_34_code
def yX3_offOf : MethodName := ⟨RX3, "offOf", "(I)I"⟩
abbrev cX3_spread : ByteArray := prog_5_method_35_code
def yX3_spread : MethodName := ⟨RX3, "spread", "()I"⟩
abbrev cX3_takeTimesAround : ByteArray := prog_5_method_36_code
def yX3_takeTimesAround : MethodName := ⟨RX3, "takeTimesAround", "()V"⟩
abbrev cX3_takeTimesOfTurning : ByteArray := prog_5_method_37_code
def yX3_takeTimesOfTurning : MethodName := ⟨RX3, "takeTimesOfTurning", "()V"⟩
abbrev cX3_lengths : ByteArray := prog_5_method_38_code
def yX3_lengths : MethodName := ⟨RX3, "lengths", "(II)I"⟩
abbrev cX3_timeThereAndBack : ByteArray := prog_5_method_39_code
def yX3_timeThereAndBack : MethodName := ⟨RX3, "timeThereAndBack", "(II)I"⟩
abbrev cX3_look : ByteArray := prog_5_method_40_code
def yX3_look : MethodName := ⟨RX3, "look", "(I)I"⟩
abbrev cX3_countMiss : ByteArray := prog_5_method_41_code
def yX3_countMiss : MethodName := ⟨RX3, "countMiss", "(I)V"⟩
def RX4 : String := "RingFrames$Sender"
def TX4 : u_T := fun k => match k with
  | 0 => ("RingFrames$Sender", "copyA", "LRingFrames$Copy;", true)
  | 1 => ("RingFrames$Sender", "copyB", "LRingFrames$Copy;", true)
  | _ => ("RingFrames$Sender", "served", "I", false)
def tyX4 : Nat → FieldType := fun k => match k with
  | 0 => .object "RingFrames$Copy"
  | 1 => .object "RingFrames$Copy"
  | _ => .int
theorem nmX4 : ∀ a, a < 3 → ∀ b, b < 3 → a ≠ b → (TX4 a).2.1 ≠ (TX4 b).2.1 := by decide +kernel
theorem tyX4_ok : ∀ k, k < 3 → parseFieldDescriptor (TX4 k).2.2.1 = some (tyX4 k) := by decide +kernel
abbrev cX4_init : ByteArray := prog_6_method_1_code
def yX4_init : MethodName := ⟨RX4, "<init>", "()V"⟩
abbrev cX4_runCycle : ByteArray := prog_6_method_2_code
def yX4_runCycle : MethodName := ⟨RX4, "runCycle", "(LRingFrames$Ring;)V"⟩
abbrev cX4_sendNothing : ByteArray := prog_6_method_3_code
def yX4_sendNothing : MethodName := ⟨RX4, "sendNothing", "(LRingFrames$Ring;)V"⟩
abbrev cX4_send : ByteArray := prog_6_method_4_code
def yX4_send : MethodName := ⟨RX4, "send", "(LRingFrames$Ring;)V"⟩
abbrev cX4_pass : ByteArray := prog_6_method_5_code
def yX4_pass : MethodName := ⟨RX4, "pass", "(LRingFrames$Ring;ILRingFrames$Copy;)V"⟩
abbrev cX4_joinedData : ByteArray := prog_6_method_6_code
def yX4_joinedData : MethodName := ⟨RX4, "joinedData", "(LRingFrames$Ring;I)I"⟩
def RX5 : String := "RingFrames$Sightings"
def TX5 : u_T := fun k => match k with
  | 0 => ("RingFrames$Sightings", "whats", "[I", true)
  | 1 => ("RingFrames$Sightings", "values", "[I", true)
  | _ => ("RingFrames$Sightings", "size", "I", false)
def tyX5 : Nat → FieldType := fun k => match k with
  | 0 => .array .int
  | 1 => .array .int
  | _ => .int
theorem nmX5 : ∀ a, a < 3 → ∀ b, b < 3 → a ≠ b → (TX5 a).2.1 ≠ (TX5 b).2.1 := by decide +kernel
theorem tyX5_ok : ∀ k, k < 3 → parseFieldDescriptor (TX5 k).2.2.1 = some (tyX5 k) := by decide +kernel
abbrev cX5_init : ByteArray := prog_7_method_1_code
def yX5_init : MethodName := ⟨RX5, "<init>", "()V"⟩
abbrev cX5_append : ByteArray := prog_7_method_2_code
def yX5_append : MethodName := ⟨RX5, "append", "(II)V"⟩
abbrev cX5_agreeWith : ByteArray := prog_7_method_3_code
def yX5_agreeWith : MethodName := ⟨RX5, "agreeWith", "(LRingFrames$Ring;)Z"⟩
def RX6 : String := "RingFrames$Suspects"
def TX6 : u_T := fun k => match k with
  | 0 => ("RingFrames$Suspects", "links", "[I", true)
  | 1 => ("RingFrames$Suspects", "looks", "[I", true)
  | _ => ("RingFrames$Suspects", "size", "I", false)
def tyX6 : Nat → FieldType := fun k => match k with
  | 0 => .array .int
  | 1 => .array .int
  | _ => .int
theorem nmX6 : ∀ a, a < 3 → ∀ b, b < 3 → a ≠ b → (TX6 a).2.1 ≠ (TX6 b).2.1 := by decide +kernel
theorem tyX6_ok : ∀ k, k < 3 → parseFieldDescriptor (TX6 k).2.2.1 = some (tyX6 k) := by decide +kernel
abbrev cX6_init : ByteArray := prog_8_method_1_code
def yX6_init : MethodName := ⟨RX6, "<init>", "()V"⟩
abbrev cX6_append : ByteArray := prog_8_method_2_code
def yX6_append : MethodName := ⟨RX6, "append", "(ILRingFrames$Ring;)V"⟩
abbrev cX6_bestLook : ByteArray := prog_8_method_3_code
def yX6_bestLook : MethodName := ⟨RX6, "bestLook", "()I"⟩
abbrev cX6_mostAlike : ByteArray := prog_8_method_4_code
def yX6_mostAlike : MethodName := ⟨RX6, "mostAlike", "(I)I"⟩
abbrev cX6_alikeWith : ByteArray := prog_8_method_5_code
def yX6_alikeWith : MethodName := ⟨RX6, "alikeWith", "(II)I"⟩
def RX7 : String := "RingFrames$Text"
def TX7 : u_T := fun k => match k with
  | 0 => ("RingFrames$Text", "letters", "[I", true)
  | 1 => ("RingFrames$Text", "size", "I", false)
  | 2 => ("RingFrames$Text", "next", "I", false)
  | 3 => ("RingFrames$Text", "place", "I", false)
  | 4 => ("RingFrames$Text", "kind", "I", false)
  | _ => ("RingFrames$Text", "number", "I", false)
def tyX7 : Nat → FieldType := fun k => match k with
  | 0 => .array .int
  | 1 => .int
  | 2 => .int
  | 3 => .int
  | 4 => .int
  | _ => .int
theorem nmX7 : ∀ a, a < 6 → ∀ b, b < 6 → a ≠ b → (TX7 a).2.1 ≠ (TX7 b).2.1 := by decide +kernel
theorem tyX7_ok : ∀ k, k < 6 → parseFieldDescriptor (TX7 k).2.2.1 = some (tyX7 k) := by decide +kernel
abbrev cX7_init : ByteArray := prog_9_method_1_code
def yX7_init : MethodName := ⟨RX7, "<init>", "()V"⟩
abbrev cX7_append : ByteArray := prog_9_method_2_code
def yX7_append : MethodName := ⟨RX7, "append", "(I)V"⟩
abbrev cX7_begin : ByteArray := prog_9_method_3_code
def yX7_begin : MethodName := ⟨RX7, "begin", "()V"⟩
abbrev cX7_step : ByteArray := prog_9_method_4_code
def yX7_step : MethodName := ⟨RX7, "step", "()V"⟩
abbrev cX7_stepOverFigures : ByteArray := prog_9_method_5_code
def yX7_stepOverFigures : MethodName := ⟨RX7, "stepOverFigures", "()V"⟩
abbrev cX7_isFigure : ByteArray := prog_9_method_6_code
def yX7_isFigure : MethodName := ⟨RX7, "isFigure", "(I)Z"⟩
def RX8 : String := "RingFrames"
def TX8 : u_T := fun k => match k with
  | 0 => ("RingFrames", "ring", "LRingFrames$Ring;", true)
  | 1 => ("RingFrames", "draft", "LRingFrames$Ring;", true)
  | 2 => ("RingFrames", "trial", "LRingFrames$Ring;", true)
  | 3 => ("RingFrames", "text", "LRingFrames$Text;", true)
  | 4 => ("RingFrames", "reader", "LRingFrames$Reader;", true)
  | 5 => ("RingFrames", "sender", "LRingFrames$Sender;", true)
  | 6 => ("RingFrames", "history", "LRingFrames$History;", true)
  | 7 => ("RingFrames", "images", "[LRingFrames$Ring;", true)
  | 8 => ("RingFrames", "kept", "[Z", true)
  | 9 => ("RingFrames", "sightings", "LRingFrames$Sightings;", true)
  | _ => ("RingFrames", "suspects", "LRingFrames$Suspects;", true)
def tyX8 : Nat → FieldType := fun k => match k with
  | 0 => .object "RingFrames$Ring"
  | 1 => .object "RingFrames$Ring"
  | 2 => .object "RingFrames$Ring"
  | 3 => .object "RingFrames$Text"
  | 4 => .object "RingFrames$Reader"
  | 5 => .object "RingFrames$Sender"
  | 6 => .object "RingFrames$History"
  | 7 => .array (.object "RingFrames$Ring")
  | 8 => .array .boolean
  | 9 => .object "RingFrames$Sightings"
  | _ => .object "RingFrames$Suspects"
theorem nmX8 : ∀ a, a < 11 → ∀ b, b < 11 → a ≠ b → (TX8 a).2.1 ≠ (TX8 b).2.1 := by decide +kernel
theorem tyX8_ok : ∀ k, k < 11 → parseFieldDescriptor (TX8 k).2.2.1 = some (tyX8 k) := by decide +kernel
abbrev cX8_init : ByteArray := prog_1_method_1_code
def yX8_init : MethodName := ⟨RX8, "<init>", "()V"⟩
abbrev cX8_type : ByteArray := prog_1_method_2_code
def yX8_type : MethodName := ⟨RX8, "type", "(I)I"⟩
abbrev cX8_clear : ByteArray := prog_1_method_3_code
def yX8_clear : MethodName := ⟨RX8, "clear", "()I"⟩
abbrev cX8_wires : ByteArray := prog_1_method_4_code
def yX8_wires : MethodName := ⟨RX8, "wires", "()I"⟩
abbrev cX8_frames : ByteArray := prog_1_method_5_code
def yX8_frames : MethodName := ⟨RX8, "frames", "()I"⟩
abbrev cX8_adoptDraft : ByteArray := prog_1_method_6_code
def yX8_adoptDraft : MethodName := ⟨RX8, "adoptDraft", "()V"⟩
abbrev cX8_cuts : ByteArray := prog_1_method_7_code
def yX8_cuts : MethodName := ⟨RX8, "cuts", "(I)I"⟩
abbrev cX8_heals : ByteArray := prog_1_method_8_code
def yX8_heals : MethodName := ⟨RX8, "heals", "(I)I"⟩
abbrev cX8_cycles : ByteArray := prog_1_method_9_code
def yX8_cycles : MethodName := ⟨RX8, "cycles", "(I)I"⟩
abbrev cX8_resets : ByteArray := prog_1_method_10_code
def yX8_resets : MethodName := ⟨RX8, "resets", "(I)I"⟩
abbrev cX8_sets : ByteArray := prog_1_method_11_code
def yX8_sets : MethodName := ⟨RX8, "sets", "(III)I"⟩
abbrev cX8_drifts : ByteArray := prog_1_method_12_code
def yX8_drifts : MethodName := ⟨RX8, "drifts", "(II)I"⟩
abbrev cX8_measures : ByteArray := prog_1_method_13_code
def yX8_measures : MethodName := ⟨RX8, "measures", "()I"⟩
abbrev cX8_undo : ByteArray := prog_1_method_14_code
def yX8_undo : MethodName := ⟨RX8, "undo", "()I"⟩
abbrev cX8_drive : ByteArray := prog_1_method_15_code
def yX8_drive : MethodName := ⟨RX8, "drive", "(II)I"⟩
abbrev cX8_link : ByteArray := prog_1_method_16_code
def yX8_link : MethodName := ⟨RX8, "link", "(II)I"⟩
abbrev cX8_order : ByteArray := prog_1_method_17_code
def yX8_order : MethodName := ⟨RX8, "order", "(II)I"⟩
abbrev cX8_result : ByteArray := prog_1_method_18_code
def yX8_result : MethodName := ⟨RX8, "result", "(II)I"⟩
abbrev cX8_time : ByteArray := prog_1_method_19_code
def yX8_time : MethodName := ⟨RX8, "time", "(I)I"⟩
abbrev cX8_reached : ByteArray := prog_1_method_20_code
def yX8_reached : MethodName := ⟨RX8, "reached", "(I)I"⟩
abbrev cX8_would : ByteArray := prog_1_method_21_code
def yX8_would : MethodName := ⟨RX8, "would", "(I)I"⟩
abbrev cX8_sendTrial : ByteArray := prog_1_method_22_code
def yX8_sendTrial : MethodName := ⟨RX8, "sendTrial", "(I)V"⟩
abbrev cX8_sees : ByteArray := prog_1_method_23_code
def yX8_sees : MethodName := ⟨RX8, "sees", "(II)I"⟩
abbrev cX8_forget : ByteArray := prog_1_method_24_code
def yX8_forget : MethodName := ⟨RX8, "forget", "()I"⟩
abbrev cX8_which : ByteArray := prog_1_method_25_code
def yX8_which : MethodName := ⟨RX8, "which", "(I)I"⟩
abbrev cX8_ask : ByteArray := prog_1_method_26_code
def yX8_ask : MethodName := ⟨RX8, "ask", "()I"⟩
abbrev cX8_findSuspects : ByteArray := prog_1_method_27_code
def yX8_findSuspects : MethodName := ⟨RX8, "findSuspects", "()V"⟩
abbrev cX8_keep : ByteArray := prog_1_method_28_code
def yX8_keep : MethodName := ⟨RX8, "keep", "(I)I"⟩
abbrev cX8_back : ByteArray := prog_1_method_29_code
def yX8_back : MethodName := ⟨RX8, "back", "(I)I"⟩
abbrev cX8_count : ByteArray := prog_1_method_30_code
def yX8_count : MethodName := ⟨RX8, "count", "(I)I"⟩
def RX9 : String := "RingFramesModel"
def TX9 : u_T := fun k => match k with
  | 0 => ("RingFramesModel", "now", "[I", true)
  | 1 => ("RingFramesModel", "read", "[I", true)
  | 2 => ("RingFramesModel", "past", "[I", true)
  | 3 => ("RingFramesModel", "deeds", "I", false)
  | 4 => ("RingFramesModel", "images", "[I", true)
  | 5 => ("RingFramesModel", "isKept", "[Z", true)
  | 6 => ("RingFramesModel", "text", "[I", true)
  | 7 => ("RingFramesModel", "letters", "I", false)
  | 8 => ("RingFramesModel", "at", "I", false)
  | 9 => ("RingFramesModel", "tokenAt", "I", false)
  | 10 => ("RingFramesModel", "tokenSort", "I", false)
  | 11 => ("RingFramesModel", "tokenValue", "I", false)
  | 12 => ("RingFramesModel", "seenWhat", "[I", true)
  | 13 => ("RingFramesModel", "seenValue", "[I", true)
  | 14 => ("RingFramesModel", "seen", "I", false)
  | 15 => ("RingFramesModel", "isLimitTold", "Z", false)
  | 16 => ("RingFramesModel", "data", "[I", true)
  | 17 => ("RingFramesModel", "counts", "[I", true)
  | 18 => ("RingFramesModel", "places", "[I", true)
  | 19 => ("RingFramesModel", "isMeant", "[Z", true)
  | 20 => ("RingFramesModel", "facts", "[I", true)
  | 21 => ("RingFramesModel", "aside", "[I", true)
  | _ => ("RingFramesModel", "allFacts", "[I", true)
def tyX9 : Nat → FieldType := fun k => match k with
  | 0 => .array .int
  | 1 => .array .int
  | 2 => .array .int
  | 3 => .int
  | 4 => .array .int
  | 5 => .array .boolean
  | 6 => .array .int
  | 7 => .int
  | 8 => .int
  | 9 => .int
  | 10 => .int
  | 11 => .int
  | 12 => .array .int
  | 13 => .array .int
  | 14 => .int
  | 15 => .boolean
  | 16 => .array .int
  | 17 => .array .int
  | 18 => .array .int
  | 19 => .array .boolean
  | 20 => .array .int
  | 21 => .array .int
  | _ => .array .int
theorem nmX9 : ∀ a, a < 23 → ∀ b, b < 23 → a ≠ b → (TX9 a).2.1 ≠ (TX9 b).2.1 := by decide +kernel
theorem tyX9_ok : ∀ k, k < 23 → parseFieldDescriptor (TX9 k).2.2.1 = some (tyX9 k) := by decide +kernel
abbrev cX9_init : ByteArray := prog_11_method_1_code
def yX9_init : MethodName := ⟨RX9, "<init>", "()V"⟩
abbrev cX9_in : ByteArray := prog_11_method_2_code
def yX9_in : MethodName := ⟨RX9, "in", "(III)Z"⟩
abbrev cX9_bring : ByteArray := prog_11_method_3_code
def yX9_bring : MethodName := ⟨RX9, "bring", "([II[II)V"⟩
abbrev cX9_beginRead : ByteArray := prog_11_method_4_code
def yX9_beginRead : MethodName := ⟨RX9, "beginRead", "()V"⟩
abbrev cX9_isLetter : ByteArray := prog_11_method_5_code
def yX9_isLetter : MethodName := ⟨RX9, "isLetter", "(I)Z"⟩
abbrev cX9_scan : ByteArray := prog_11_method_6_code
def yX9_scan : MethodName := ⟨RX9, "scan", "()V"⟩
abbrev cX9_scanNumber : ByteArray := prog_11_method_7_code
def yX9_scanNumber : MethodName := ⟨RX9, "scanNumber", "(II)Z"⟩
abbrev cX9_scanEnd : ByteArray := prog_11_method_8_code
def yX9_scanEnd : MethodName := ⟨RX9, "scanEnd", "()Z"⟩
abbrev cX9_readDrive : ByteArray := prog_11_method_9_code
def yX9_readDrive : MethodName := ⟨RX9, "readDrive", "()Z"⟩
abbrev cX9_readLast : ByteArray := prog_11_method_10_code
def yX9_readLast : MethodName := ⟨RX9, "readLast", "()Z"⟩
abbrev cX9_readLimit : ByteArray := prog_11_method_11_code
def yX9_readLimit : MethodName := ⟨RX9, "readLimit", "()Z"⟩
abbrev cX9_readWire : ByteArray := prog_11_method_12_code
def yX9_readWire : MethodName := ⟨RX9, "readWire", "()I"⟩
abbrev cX9_readOrder : ByteArray := prog_11_method_13_code
def yX9_readOrder : MethodName := ⟨RX9, "readOrder", "()Z"⟩
abbrev cX9_readFrame : ByteArray := prog_11_method_14_code
def yX9_readFrame : MethodName := ⟨RX9, "readFrame", "()I"⟩
abbrev cX9_type : ByteArray := prog_11_method_15_code
def yX9_type : MethodName := ⟨RX9, "type", "(I)I"⟩
abbrev cX9_clear : ByteArray := prog_11_method_16_code
def yX9_clear : MethodName := ⟨RX9, "clear", "()I"⟩
abbrev cX9_wires : ByteArray := prog_11_method_17_code
def yX9_wires : MethodName := ⟨RX9, "wires", "()I"⟩
abbrev cX9_frames : ByteArray := prog_11_method_18_code
def yX9_frames : MethodName := ⟨RX9, "frames", "()I"⟩
abbrev cX9_has : ByteArray := prog_11_method_19_code
def yX9_has : MethodName := ⟨RX9, "has", "(II)Z"⟩
abbrev cX9_links : ByteArray := prog_11_method_20_code
def yX9_links : MethodName := ⟨RX9, "links", "()I"⟩
abbrev cX9_lastOfA : ByteArray := prog_11_method_21_code
def yX9_lastOfA : MethodName := ⟨RX9, "lastOfA", "(I)I"⟩
abbrev cX9_isWhole : ByteArray := prog_11_method_22_code
def yX9_isWhole : MethodName := ⟨RX9, "isWhole", "(I)Z"⟩
abbrev cX9_firstOfB : ByteArray := prog_11_method_23_code
def yX9_firstOfB : MethodName := ⟨RX9, "firstOfB", "(I)I"⟩
abbrev cX9_way : ByteArray := prog_11_method_24_code
def yX9_way : MethodName := ⟨RX9, "way", "(II)I"⟩
abbrev cX9_timeOf : ByteArray := prog_11_method_25_code
def yX9_timeOf : MethodName := ⟨RX9, "timeOf", "(II)I"⟩
abbrev cX9_handle : ByteArray := prog_11_method_26_code
def yX9_handle : MethodName := ⟨RX9, "handle", "(III)V"⟩
abbrev cX9_passThrough : ByteArray := prog_11_method_27_code
def yX9_passThrough : MethodName := ⟨RX9, "passThrough", "(III)V"⟩
abbrev cX9_beginCopies : ByteArray := prog_11_method_28_code
def yX9_beginCopies : MethodName := ⟨RX9, "beginCopies", "()V"⟩
abbrev cX9_send : ByteArray := prog_11_method_29_code
def yX9_send : MethodName := ⟨RX9, "send", "(I)V"⟩
abbrev cX9_countOf : ByteArray := prog_11_method_30_code
def yX9_countOf : MethodName := ⟨RX9, "countOf", "(I)I"⟩
abbrev cX9_dataOf : ByteArray := prog_11_method_31_code
def yX9_dataOf : MethodName := ⟨RX9, "dataOf", "(I)I"⟩
abbrev cX9_findFacts : ByteArray := prog_11_method_32_code
def yX9_findFacts : MethodName := ⟨RX9, "findFacts", "(I)V"⟩
abbrev cX9_cycleOnce : ByteArray := prog_11_method_33_code
def yX9_cycleOnce : MethodName := ⟨RX9, "cycleOnce", "()V"⟩
abbrev cX9_note : ByteArray := prog_11_method_34_code
def yX9_note : MethodName := ⟨RX9, "note", "()V"⟩
abbrev cX9_undo : ByteArray := prog_11_method_35_code
def yX9_undo : MethodName := ⟨RX9, "undo", "()I"⟩
abbrev cX9_ones : ByteArray := prog_11_method_36_code
def yX9_ones : MethodName := ⟨RX9, "ones", "(I)I"⟩
abbrev cX9_isLink : ByteArray := prog_11_method_37_code
def yX9_isLink : MethodName := ⟨RX9, "isLink", "(I)Z"⟩
abbrev cX9_isDrive : ByteArray := prog_11_method_38_code
def yX9_isDrive : MethodName := ⟨RX9, "isDrive", "(I)Z"⟩
abbrev cX9_cuts : ByteArray := prog_11_method_39_code
def yX9_cuts : MethodName := ⟨RX9, "cuts", "(I)I"⟩
abbrev cX9_heals : ByteArray := prog_11_method_40_code
def yX9_heals : MethodName := ⟨RX9, "heals", "(I)I"⟩
abbrev cX9_safeMany : ByteArray := prog_11_method_41_code
def yX9_safeMany : MethodName := ⟨RX9, "safeMany", "()I"⟩
abbrev cX9_cycles : ByteArray := prog_11_method_42_code
def yX9_cycles : MethodName := ⟨RX9, "cycles", "(I)I"⟩
abbrev cX9_resets : ByteArray := prog_11_method_43_code
def yX9_resets : MethodName := ⟨RX9, "resets", "(I)I"⟩
abbrev cX9_sets : ByteArray := prog_11_method_44_code
def yX9_sets : MethodName := ⟨RX9, "sets", "(III)I"⟩
abbrev cX9_drifts : ByteArray := prog_11_method_45_code
def yX9_drifts : MethodName := ⟨RX9, "drifts", "(II)I"⟩
abbrev cX9_measures : ByteArray := prog_11_method_46_code
def yX9_measures : MethodName := ⟨RX9, "measures", "()I"⟩
abbrev cX9_offOf : ByteArray := prog_11_method_47_code
def yX9_offOf : MethodName := ⟨RX9, "offOf", "(I)I"⟩
abbrev cX9_drive : ByteArray := prog_11_method_48_code
def yX9_drive : MethodName := ⟨RX9, "drive", "(II)I"⟩
abbrev cX9_link : ByteArray := prog_11_method_49_code
def yX9_link : MethodName := ⟨RX9, "link", "(II)I"⟩
abbrev cX9_isOrder : ByteArray := prog_11_method_50_code
def yX9_isOrder : MethodName := ⟨RX9, "isOrder", "(I)Z"⟩
abbrev cX9_order : ByteArray := prog_11_method_51_code
def yX9_order : MethodName := ⟨RX9, "order", "(II)I"⟩
abbrev cX9_result : ByteArray := prog_11_method_52_code
def yX9_result : MethodName := ⟨RX9, "result", "(II)I"⟩
abbrev cX9_time : ByteArray := prog_11_method_53_code
def yX9_time : MethodName := ⟨RX9, "time", "(I)I"⟩
abbrev cX9_reached : ByteArray := prog_11_method_54_code
def yX9_reached : MethodName := ⟨RX9, "reached", "(I)I"⟩
abbrev cX9_would : ByteArray := prog_11_method_55_code
def yX9_would : MethodName := ⟨RX9, "would", "(I)I"⟩
abbrev cX9_sees : ByteArray := prog_11_method_56_code
def yX9_sees : MethodName := ⟨RX9, "sees", "(II)I"⟩
abbrev cX9_forget : ByteArray := prog_11_method_57_code
def yX9_forget : MethodName := ⟨RX9, "forget", "()I"⟩
abbrev cX9_isSo : ByteArray := prog_11_method_58_code
def yX9_isSo : MethodName := ⟨RX9, "isSo", "(I)Z"⟩
abbrev cX9_findLinks : ByteArray := prog_11_method_59_code
def yX9_findLinks : MethodName := ⟨RX9, "findLinks", "()I"⟩
abbrev cX9_which : ByteArray := prog_11_method_60_code
def yX9_which : MethodName := ⟨RX9, "which", "(I)I"⟩
abbrev cX9_ask : ByteArray := prog_11_method_61_code
def yX9_ask : MethodName := ⟨RX9, "ask", "()I"⟩
abbrev cX9_keep : ByteArray := prog_11_method_62_code
def yX9_keep : MethodName := ⟨RX9, "keep", "(I)I"⟩
abbrev cX9_back : ByteArray := prog_11_method_63_code
def yX9_back : MethodName := ⟨RX9, "back", "(I)I"⟩
abbrev cX9_spread : ByteArray := prog_11_method_64_code
def yX9_spread : MethodName := ⟨RX9, "spread", "()I"⟩
abbrev cX9_count : ByteArray := prog_11_method_65_code
def yX9_count : MethodName := ⟨RX9, "count", "(I)I"⟩
def RJ6 : String := "java/lang/Integer"
def TJ6 : u_T := fun k => match k with
  | _ => ("", "", "", false)
def tyJ6 : Nat → FieldType := fun k => match k with
  | _ => .int
theorem nmJ6 : ∀ a, a < 0 → ∀ b, b < 0 → a ≠ b → (TJ6 a).2.1 ≠ (TJ6 b).2.1 := by decide +kernel
theorem tyJ6_ok : ∀ k, k < 0 → parseFieldDescriptor (TJ6 k).2.2.1 = some (tyJ6 k) := by decide +kernel
abbrev cJ6_bitCount_0f7a4 : ByteArray := prog_12_method_49_code
def yJ6_bitCount_0f7a4 : MethodName := ⟨RJ6, "bitCount", "(I)I"⟩
def RJ9 : String := "java/lang/Math"
def TJ9 : u_T := fun k => match k with
  | _ => ("", "", "", false)
def tyJ9 : Nat → FieldType := fun k => match k with
  | _ => .int
theorem nmJ9 : ∀ a, a < 0 → ∀ b, b < 0 → a ≠ b → (TJ9 a).2.1 ≠ (TJ9 b).2.1 := by decide +kernel
theorem tyJ9_ok : ∀ k, k < 0 → parseFieldDescriptor (TJ9 k).2.2.1 = some (tyJ9 k) := by decide +kernel
abbrev cJ9_max_7cf53 : ByteArray := prog_13_method_65_code
def yJ9_max_7cf53 : MethodName := ⟨RJ9, "max", "(II)I"⟩
abbrev cJ9_min_7cf53 : ByteArray := prog_13_method_69_code
def yJ9_min_7cf53 : MethodName := ⟨RJ9, "min", "(II)I"⟩
def RJ10 : String := "java/lang/System"
def TJ10 : u_T := fun k => match k with
  | _ => ("", "", "", false)
def tyJ10 : Nat → FieldType := fun k => match k with
  | _ => .int
theorem nmJ10 : ∀ a, a < 0 → ∀ b, b < 0 → a ≠ b → (TJ10 a).2.1 ≠ (TJ10 b).2.1 := by decide +kernel
theorem tyJ10_ok : ∀ k, k < 0 → parseFieldDescriptor (TJ10 k).2.2.1 = some (tyJ10 k) := by decide +kernel
def RJ7 : String := "java/util/Arrays"
def TJ7 : u_T := fun k => match k with
  | _ => ("", "", "", false)
def tyJ7 : Nat → FieldType := fun k => match k with
  | _ => .int
theorem nmJ7 : ∀ a, a < 0 → ∀ b, b < 0 → a ≠ b → (TJ7 a).2.1 ≠ (TJ7 b).2.1 := by decide +kernel
theorem tyJ7_ok : ∀ k, k < 0 → parseFieldDescriptor (TJ7 k).2.2.1 = some (tyJ7 k) := by decide +kernel
abbrev cJ7_rangeCheck_23922 : ByteArray := prog_15_method_30_code
def yJ7_rangeCheck_23922 : MethodName := ⟨RJ7, "rangeCheck", "(III)V"⟩
abbrev cJ7_fill_53178 : ByteArray := prog_15_method_103_code
def yJ7_fill_53178 : MethodName := ⟨RJ7, "fill", "([II)V"⟩
abbrev cJ7_fill_fda19 : ByteArray := prog_15_method_104_code
def yJ7_fill_fda19 : MethodName := ⟨RJ7, "fill", "([IIII)V"⟩
def RL : String := "RingFramesLaw"
abbrev cL_law : ByteArray := code
def yL_law : MethodName := ⟨RL, "law", "([I)Z"⟩
abbrev vwCl : List vw_C := [(RX0, TX0, 3), (RX1, TX1, 3), (RX2, TX2, 2), (RX3, TX3, 12), (RX4, TX4, 3), (RX5, TX5, 3), (RX6, TX6, 3), (RX7, TX7, 6), (RX8, TX8, 11), (RX9, TX9, 23)]
/-- the words that a callee may be handed -/
def lw_good : List Cond := lw_tbl.filter goodWord
theorem lw_good_tbl {w : Cond} (h : w ∈ lw_good) : w ∈ lw_tbl := (List.mem_filter.mp h).1
theorem lw_good_in : GoodIn lw_tbl lw_good := fun w h => ⟨(List.mem_filter.mp h).1, good_of_word (List.mem_filter.mp h).2⟩
theorem lw_good_self : GoodIn lw_good lw_good := fun w h => ⟨h, good_of_word (List.mem_filter.mp h).2⟩
theorem lw_gi {w : Cond} (i : Nat) (h : tables_1[i]? = some w) (hg : goodWord w = true) : w ∈ lw_good := List.mem_filter.mpr ⟨List.mem_append_right _ (List.mem_of_getElem? h), hg⟩
theorem lw_gs {w : Cond} (i : Nat) (h : (k2_sels lw_privs)[i]? = some w) (hg : goodWord w = true) : w ∈ lw_good := List.mem_filter.mpr ⟨List.mem_append_left _ (List.mem_of_getElem? h), hg⟩
def lw_nst : List Cond := [(Jvm.Cond.fieldLinkNest "RingFrames$Sender" (65 : Nat) "RingFrames$Ring" "times" "[I" "RingFrames"), (Jvm.Cond.fieldLinkNest "RingFrames" (181 : Nat) "RingFrames$Ring" "times" "[I" "RingFrames"), (Jvm.Cond.fieldLinkNest "RingFrames$Sender" (38 : Nat) "RingFrames$Ring" "drives" "I" "RingFrames"), (Jvm.Cond.fieldLinkNest "RingFrames$Reader" (37 : Nat) "RingFrames$Ring" "drives" "I" "RingFrames"), (Jvm.Cond.fieldLinkNest "RingFrames" (92 : Nat) "RingFrames$Ring" "drives" "I" "RingFrames"), (Jvm.Cond.fieldLinkNest "RingFrames$Copy" (21 : Nat) "RingFrames$Ring" "orders" "I" "RingFrames"), (Jvm.Cond.fieldLinkNest "RingFrames$Sender" (52 : Nat) "RingFrames$Ring" "orders" "I" "RingFrames"), (Jvm.Cond.fieldLinkNest "RingFrames" (102 : Nat) "RingFrames$Ring" "orders" "I" "RingFrames"), (Jvm.Cond.fieldLinkNest "RingFrames$Reader" (83 : Nat) "RingFrames$Ring" "orders" "I" "RingFrames"), (Jvm.Cond.fieldLinkNest "RingFrames$Reader" (74 : Nat) "RingFrames$Ring" "limit" "I" "RingFrames"), (Jvm.Cond.fieldLinkNest "RingFrames" (225 : Nat) "RingFrames$Ring" "limit" "I" "RingFrames"), (Jvm.Cond.fieldLinkNest "RingFrames$Sender" (49 : Nat) "RingFrames$Ring" "cyclesRun" "I" "RingFrames"), (Jvm.Cond.fieldLinkNest "RingFrames" (228 : Nat) "RingFrames$Ring" "cyclesRun" "I" "RingFrames"), (Jvm.Cond.fieldLinkNest "RingFrames" (222 : Nat) "RingFrames$Ring" "closed" "Z" "RingFrames"), (Jvm.Cond.fieldLinkNest "RingFrames$Sender" (62 : Nat) "RingFrames$Ring" "hasResults" "Z" "RingFrames"), (Jvm.Cond.fieldLinkNest "RingFrames" (175 : Nat) "RingFrames$Ring" "hasResults" "Z" "RingFrames"), (Jvm.Cond.fieldLinkNest "RingFrames$Sender" (25 : Nat) "RingFrames$Ring" "freshCut" "Z" "RingFrames"), (Jvm.Cond.fieldLinkNest "RingFrames" (119 : Nat) "RingFrames$Ring" "freshCut" "Z" "RingFrames"), (Jvm.Cond.methodLinkNest "RingFrames" (24 : Nat) ({ cls := "RingFrames$Text", name := "<init>", desc := "()V" } : Jvm.MethodName) "RingFrames"), (Jvm.Cond.fieldLinkNest "RingFrames" (74 : Nat) "RingFrames$Text" "size" "I" "RingFrames"), (Jvm.Cond.fieldLinkNest "RingFrames" (86 : Nat) "RingFrames$Text" "place" "I" "RingFrames"), (Jvm.Cond.fieldLinkNest "RingFrames$Reader" (29 : Nat) "RingFrames$Text" "kind" "I" "RingFrames"), (Jvm.Cond.fieldLinkNest "RingFrames$Reader" (93 : Nat) "RingFrames$Text" "number" "I" "RingFrames"), (Jvm.Cond.methodLinkNest "RingFrames" (40 : Nat) ({ cls := "RingFrames$Sender", name := "<init>", desc := "()V" } : Jvm.MethodName) "RingFrames"), (Jvm.Cond.methodLinkNest "RingFrames$Sender" (11 : Nat) ({ cls := "RingFrames$Copy", name := "<init>", desc := "()V" } : Jvm.MethodName) "RingFrames"), (Jvm.Cond.fieldLinkNest "RingFrames$Sender" (114 : Nat) "RingFrames$Copy" "data" "[I" "RingFrames"), (Jvm.Cond.fieldLinkNest "RingFrames$Sender" (89 : Nat) "RingFrames$Copy" "counts" "[I" "RingFrames"), (Jvm.Cond.fieldLinkNest "RingFrames" (158 : Nat) "RingFrames$History" "size" "I" "RingFrames"), (Jvm.Cond.methodLinkNest "RingFrames" (62 : Nat) ({ cls := "RingFrames$Sightings", name := "<init>", desc := "()V" } : Jvm.MethodName) "RingFrames"), (Jvm.Cond.fieldLinkNest "RingFrames" (200 : Nat) "RingFrames$Sightings" "size" "I" "RingFrames"), (Jvm.Cond.methodLinkNest "RingFrames" (69 : Nat) ({ cls := "RingFrames$Suspects", name := "<init>", desc := "()V" } : Jvm.MethodName) "RingFrames"), (Jvm.Cond.fieldLinkNest "RingFrames" (211 : Nat) "RingFrames$Suspects" "links" "[I" "RingFrames"), (Jvm.Cond.fieldLinkNest "RingFrames" (210 : Nat) "RingFrames$Suspects" "size" "I" "RingFrames")]
theorem lw_nst_in : ∀ w ∈ lw_nst, w ∈ tables_1 := fun w h => by
  have e : lw_nst = ([67, 68, 70, 71, 72, 73, 75, 76, 77, 79, 80, 82, 83, 85, 87, 88, 89, 91, 120, 126, 128, 130, 133, 162, 168, 173, 175, 206, 216, 223, 234, 239, 242] : List Nat).filterMap (fun i => tables_1[i]?) := by decide +kernel
  rw [e] at h
  obtain ⟨i, -, hi⟩ := List.mem_filterMap.mp h
  exact List.mem_of_getElem? hi
theorem i_X0 : ∀ w ∈ u_ws RX0 TX0 3, w ∈ lw_good := fun w h => by
  have e : u_ws RX0 TX0 3 = ([177, 179, 181] : List Nat).filterMap (fun i => tables_1[i]?) := by decide +kernel
  have g : (u_ws RX0 TX0 3).all goodWord = true := by decide +kernel
  have hg := List.all_eq_true.mp g w h
  rw [e] at h
  obtain ⟨i, -, hi⟩ := List.mem_filterMap.mp h
  exact lw_gi i hi hg
theorem i_X1 : ∀ w ∈ u_ws RX1 TX1 3, w ∈ lw_good := fun w h => by
  have e : u_ws RX1 TX1 3 = ([207, 209, 211] : List Nat).filterMap (fun i => tables_1[i]?) := by decide +kernel
  have g : (u_ws RX1 TX1 3).all goodWord = true := by decide +kernel
  have hg := List.all_eq_true.mp g w h
  rw [e] at h
  obtain ⟨i, -, hi⟩ := List.mem_filterMap.mp h
  exact lw_gi i hi hg
theorem i_X2 : ∀ w ∈ u_ws RX2 TX2 2, w ∈ lw_good := fun w h => by
  have e : u_ws RX2 TX2 2 = ([155, 157] : List Nat).filterMap (fun i => tables_1[i]?) := by decide +kernel
  have g : (u_ws RX2 TX2 2).all goodWord = true := by decide +kernel
  have hg := List.all_eq_true.mp g w h
  rw [e] at h
  obtain ⟨i, -, hi⟩ := List.mem_filterMap.mp h
  exact lw_gi i hi hg
theorem i_X3 : ∀ w ∈ u_ws RX3 TX3 12, w ∈ lw_good := fun w h => by
  have e : u_ws RX3 TX3 12 = ([92, 94, 96, 98, 100, 102, 104, 106, 108, 110, 112, 114] : List Nat).filterMap (fun i => tables_1[i]?) := by decide +kernel
  have g : (u_ws RX3 TX3 12).all goodWord = true := by decide +kernel
  have hg := List.all_eq_true.mp g w h
  rw [e] at h
  obtain ⟨i, -, hi⟩ := List.mem_filterMap.mp h
  exact lw_gi i hi hg
theorem i_X4 : ∀ w ∈ u_ws RX4 TX4 3, w ∈ lw_good := fun w h => by
  have e : u_ws RX4 TX4 3 = ([187, 189, 191] : List Nat).filterMap (fun i => tables_1[i]?) := by decide +kernel
  have g : (u_ws RX4 TX4 3).all goodWord = true := by decide +kernel
  have hg := List.all_eq_true.mp g w h
  rw [e] at h
  obtain ⟨i, -, hi⟩ := List.mem_filterMap.mp h
  exact lw_gi i hi hg
theorem i_X5 : ∀ w ∈ u_ws RX5 TX5 3, w ∈ lw_good := fun w h => by
  have e : u_ws RX5 TX5 3 = ([224, 226, 228] : List Nat).filterMap (fun i => tables_1[i]?) := by decide +kernel
  have g : (u_ws RX5 TX5 3).all goodWord = true := by decide +kernel
  have hg := List.all_eq_true.mp g w h
  rw [e] at h
  obtain ⟨i, -, hi⟩ := List.mem_filterMap.mp h
  exact lw_gi i hi hg
theorem i_X6 : ∀ w ∈ u_ws RX6 TX6 3, w ∈ lw_good := fun w h => by
  have e : u_ws RX6 TX6 3 = ([243, 245, 247] : List Nat).filterMap (fun i => tables_1[i]?) := by decide +kernel
  have g : (u_ws RX6 TX6 3).all goodWord = true := by decide +kernel
  have hg := List.all_eq_true.mp g w h
  rw [e] at h
  obtain ⟨i, -, hi⟩ := List.mem_filterMap.mp h
  exact lw_gi i hi hg
theorem i_X7 : ∀ w ∈ u_ws RX7 TX7 6, w ∈ lw_good := fun w h => by
  have e : u_ws RX7 TX7 6 = ([134, 136, 138, 140, 142, 144] : List Nat).filterMap (fun i => tables_1[i]?) := by decide +kernel
  have g : (u_ws RX7 TX7 6).all goodWord = true := by decide +kernel
  have hg := List.all_eq_true.mp g w h
  rw [e] at h
  obtain ⟨i, -, hi⟩ := List.mem_filterMap.mp h
  exact lw_gi i hi hg
theorem i_X8 : ∀ w ∈ u_ws RX8 TX8 11, w ∈ lw_good := fun w h => by
  have e : u_ws RX8 TX8 11 = ([261, 263, 265, 267, 269, 271, 273, 275, 277, 279, 281] : List Nat).filterMap (fun i => tables_1[i]?) := by decide +kernel
  have g : (u_ws RX8 TX8 11).all goodWord = true := by decide +kernel
  have hg := List.all_eq_true.mp g w h
  rw [e] at h
  obtain ⟨i, -, hi⟩ := List.mem_filterMap.mp h
  exact lw_gi i hi hg
theorem i_X9 : ∀ w ∈ u_ws RX9 TX9 23, w ∈ lw_good := fun w h => by
  have e : u_ws RX9 TX9 23 = ([742, 744, 746, 748, 750, 752, 754, 756, 758, 760, 762, 764, 766, 768, 770, 772, 774, 776, 778, 780, 782, 784, 786] : List Nat).filterMap (fun i => tables_1[i]?) := by decide +kernel
  have g : (u_ws RX9 TX9 23).all goodWord = true := by decide +kernel
  have hg := List.all_eq_true.mp g w h
  rw [e] at h
  obtain ⟨i, -, hi⟩ := List.mem_filterMap.mp h
  exact lw_gi i hi hg
end
section
theorem dX0_init_0 : decode cX0_init 0 = .ok (.aload_n 0, 1) := by decide +kernel
theorem dX0_init_1 : decode cX0_init 1 = .ok (.invokespecial 3, 3) := by decide +kernel
theorem dX0_init_4 : decode cX0_init 4 = .ok (.aload_n 0, 1) := by decide +kernel
theorem dX0_init_5 : decode cX0_init 5 = .ok (.iconst 4, 1) := by decide +kernel
theorem dX0_init_6 : decode cX0_init 6 = .ok (.newarray .int, 2) := by decide +kernel
theorem dX0_init_8 : decode cX0_init 8 = .ok (.putfield 9, 3) := by decide +kernel
theorem dX0_init_11 : decode cX0_init 11 = .ok (.aload_n 0, 1) := by decide +kernel
theorem dX0_init_12 : decode cX0_init 12 = .ok (.iconst 4, 1) := by decide +kernel
theorem dX0_init_13 : decode cX0_init 13 = .ok (.newarray .int, 2) := by decide +kernel
theorem dX0_init_15 : decode cX0_init 15 = .ok (.putfield 15, 3) := by decide +kernel
theorem dX0_init_18 : decode cX0_init 18 = .ok (.aload_n 0, 1) := by decide +kernel
theorem dX0_init_19 : decode cX0_init 19 = .ok (.iconst 4, 1) := by decide +kernel
theorem dX0_init_20 : decode cX0_init 20 = .ok (.newarray .int, 2) := by decide +kernel
theorem dX0_init_22 : decode cX0_init 22 = .ok (.putfield 18, 3) := by decide +kernel
theorem dX0_init_25 : decode cX0_init 25 = .ok (.return_, 1) := by decide +kernel
theorem dX0_start_0 : decode cX0_start 0 = .ok (.iconst 0, 1) := by decide +kernel
theorem dX0_start_1 : decode cX0_start 1 = .ok (.istore_n 2, 1) := by decide +kernel
theorem dX0_start_2 : decode cX0_start 2 = .ok (.iload_n 2, 1) := by decide +kernel
theorem dX0_start_3 : decode cX0_start 3 = .ok (.aload_n 1, 1) := by decide +kernel
theorem dX0_start_4 : decode cX0_start 4 = .ok (.getfield 21, 3) := by decide +kernel
theorem dX0_start_7 : decode cX0_start 7 = .ok (.if_icmp .ge 40, 3) := by decide +kernel
theorem dX0_start_10 : decode cX0_start 10 = .ok (.aload_n 0, 1) := by decide +kernel
theorem dX0_start_11 : decode cX0_start 11 = .ok (.getfield 9, 3) := by decide +kernel
theorem dX0_start_14 : decode cX0_start 14 = .ok (.iload_n 2, 1) := by decide +kernel
theorem dX0_start_15 : decode cX0_start 15 = .ok (.aload_n 1, 1) := by decide +kernel
theorem dX0_start_16 : decode cX0_start 16 = .ok (.iload_n 2, 1) := by decide +kernel
theorem dX0_start_17 : decode cX0_start 17 = .ok (.iconst 4, 1) := by decide +kernel
theorem dX0_start_18 : decode cX0_start 18 = .ok (.invokevirtual 27, 3) := by decide +kernel
theorem dX0_start_21 : decode cX0_start 21 = .ok (.iastore, 1) := by decide +kernel
theorem dX0_start_22 : decode cX0_start 22 = .ok (.aload_n 0, 1) := by decide +kernel
theorem dX0_start_23 : decode cX0_start 23 = .ok (.getfield 15, 3) := by decide +kernel
theorem dX0_start_26 : decode cX0_start 26 = .ok (.iload_n 2, 1) := by decide +kernel
theorem dX0_start_27 : decode cX0_start 27 = .ok (.iconst 0, 1) := by decide +kernel
theorem dX0_start_28 : decode cX0_start 28 = .ok (.iastore, 1) := by decide +kernel
theorem dX0_start_29 : decode cX0_start 29 = .ok (.aload_n 0, 1) := by decide +kernel
theorem dX0_start_30 : decode cX0_start 30 = .ok (.getfield 18, 3) := by decide +kernel
theorem dX0_start_33 : decode cX0_start 33 = .ok (.iload_n 2, 1) := by decide +kernel
theorem dX0_start_34 : decode cX0_start 34 = .ok (.aload_n 1, 1) := by decide +kernel
theorem dX0_start_35 : decode cX0_start 35 = .ok (.iload_n 2, 1) := by decide +kernel
theorem dX0_start_36 : decode cX0_start 36 = .ok (.iconst 2, 1) := by decide +kernel
theorem dX0_start_37 : decode cX0_start 37 = .ok (.invokevirtual 27, 3) := by decide +kernel
theorem dX0_start_40 : decode cX0_start 40 = .ok (.iastore, 1) := by decide +kernel
theorem dX0_start_41 : decode cX0_start 41 = .ok (.iinc 2 1, 3) := by decide +kernel
theorem dX0_start_44 : decode cX0_start 44 = .ok (.goto (-42), 3) := by decide +kernel
theorem dX0_start_47 : decode cX0_start 47 = .ok (.return_, 1) := by decide +kernel
theorem dX0_comesFor_0 : decode cX0_comesFor 0 = .ok (.aload_n 1, 1) := by decide +kernel
theorem dX0_comesFor_1 : decode cX0_comesFor 1 = .ok (.iload_n 2, 1) := by decide +kernel
theorem dX0_comesFor_2 : decode cX0_comesFor 2 = .ok (.iconst 1, 1) := by decide +kernel
theorem dX0_comesFor_3 : decode cX0_comesFor 3 = .ok (.invokevirtual 27, 3) := by decide +kernel
theorem dX0_comesFor_6 : decode cX0_comesFor 6 = .ok (.istore 4, 2) := by decide +kernel
theorem dX0_comesFor_8 : decode cX0_comesFor 8 = .ok (.iload 4, 2) := by decide +kernel
theorem dX0_comesFor_10 : decode cX0_comesFor 10 = .ok (.bipush 112, 2) := by decide +kernel
theorem dX0_comesFor_12 : decode cX0_comesFor 12 = .ok (.if_icmp .ne 32, 3) := by decide +kernel
theorem dX0_comesFor_15 : decode cX0_comesFor 15 = .ok (.aload_n 0, 1) := by decide +kernel
theorem dX0_comesFor_16 : decode cX0_comesFor 16 = .ok (.getfield 18, 3) := by decide +kernel
theorem dX0_comesFor_19 : decode cX0_comesFor 19 = .ok (.iload_n 2, 1) := by decide +kernel
theorem dX0_comesFor_20 : decode cX0_comesFor 20 = .ok (.iaload, 1) := by decide +kernel
theorem dX0_comesFor_21 : decode cX0_comesFor 21 = .ok (.ifCond .ne 7, 3) := by decide +kernel
theorem dX0_comesFor_24 : decode cX0_comesFor 24 = .ok (.iconst 1, 1) := by decide +kernel
theorem dX0_comesFor_25 : decode cX0_comesFor 25 = .ok (.goto 4, 3) := by decide +kernel
theorem dX0_comesFor_28 : decode cX0_comesFor 28 = .ok (.iconst 0, 1) := by decide +kernel
theorem dX0_comesFor_29 : decode cX0_comesFor 29 = .ok (.istore 5, 2) := by decide +kernel
theorem dX0_comesFor_31 : decode cX0_comesFor 31 = .ok (.aload_n 0, 1) := by decide +kernel
theorem dX0_comesFor_32 : decode cX0_comesFor 32 = .ok (.getfield 18, 3) := by decide +kernel
theorem dX0_comesFor_35 : decode cX0_comesFor 35 = .ok (.iload_n 2, 1) := by decide +kernel
theorem dX0_comesFor_36 : decode cX0_comesFor 36 = .ok (.dup2, 1) := by decide +kernel
theorem dX0_comesFor_37 : decode cX0_comesFor 37 = .ok (.iaload, 1) := by decide +kernel
theorem dX0_comesFor_38 : decode cX0_comesFor 38 = .ok (.iconst 1, 1) := by decide +kernel
theorem dX0_comesFor_39 : decode cX0_comesFor 39 = .ok (.isub, 1) := by decide +kernel
theorem dX0_comesFor_40 : decode cX0_comesFor 40 = .ok (.iastore, 1) := by decide +kernel
theorem dX0_comesFor_41 : decode cX0_comesFor 41 = .ok (.iload 5, 2) := by decide +kernel
theorem dX0_comesFor_43 : decode cX0_comesFor 43 = .ok (.ireturn, 1) := by decide +kernel
theorem dX0_comesFor_44 : decode cX0_comesFor 44 = .ok (.iload 4, 2) := by decide +kernel
theorem dX0_comesFor_46 : decode cX0_comesFor 46 = .ok (.bipush 98, 2) := by decide +kernel
theorem dX0_comesFor_48 : decode cX0_comesFor 48 = .ok (.if_icmp .eq 18, 3) := by decide +kernel
theorem dX0_comesFor_51 : decode cX0_comesFor 51 = .ok (.aload_n 1, 1) := by decide +kernel
theorem dX0_comesFor_52 : decode cX0_comesFor 52 = .ok (.iload_n 2, 1) := by decide +kernel
theorem dX0_comesFor_53 : decode cX0_comesFor 53 = .ok (.iconst 2, 1) := by decide +kernel
theorem dX0_comesFor_54 : decode cX0_comesFor 54 = .ok (.invokevirtual 27, 3) := by decide +kernel
theorem dX0_comesFor_57 : decode cX0_comesFor 57 = .ok (.aload_n 1, 1) := by decide +kernel
theorem dX0_comesFor_58 : decode cX0_comesFor 58 = .ok (.iload_n 3, 1) := by decide +kernel
theorem dX0_comesFor_59 : decode cX0_comesFor 59 = .ok (.iconst 0, 1) := by decide +kernel
theorem dX0_comesFor_60 : decode cX0_comesFor 60 = .ok (.invokevirtual 31, 3) := by decide +kernel
theorem dX0_comesFor_63 : decode cX0_comesFor 63 = .ok (.if_icmp .ne 7, 3) := by decide +kernel
theorem dX0_comesFor_66 : decode cX0_comesFor 66 = .ok (.iconst 1, 1) := by decide +kernel
theorem dX0_comesFor_67 : decode cX0_comesFor 67 = .ok (.goto 4, 3) := by decide +kernel
theorem dX0_comesFor_70 : decode cX0_comesFor 70 = .ok (.iconst 0, 1) := by decide +kernel
theorem dX0_comesFor_71 : decode cX0_comesFor 71 = .ok (.ireturn, 1) := by decide +kernel
theorem dX0_obey_0 : decode cX0_obey 0 = .ok (.aload_n 1, 1) := by decide +kernel
theorem dX0_obey_1 : decode cX0_obey 1 = .ok (.iload_n 2, 1) := by decide +kernel
theorem dX0_obey_2 : decode cX0_obey 2 = .ok (.iconst 0, 1) := by decide +kernel
theorem dX0_obey_3 : decode cX0_obey 3 = .ok (.invokevirtual 27, 3) := by decide +kernel
theorem dX0_obey_6 : decode cX0_obey 6 = .ok (.istore 4, 2) := by decide +kernel
theorem dX0_obey_8 : decode cX0_obey 8 = .ok (.iconst 1, 1) := by decide +kernel
theorem dX0_obey_9 : decode cX0_obey 9 = .ok (.aload_n 1, 1) := by decide +kernel
theorem dX0_obey_10 : decode cX0_obey 10 = .ok (.iload_n 2, 1) := by decide +kernel
theorem dX0_obey_11 : decode cX0_obey 11 = .ok (.iconst 3, 1) := by decide +kernel
theorem dX0_obey_12 : decode cX0_obey 12 = .ok (.invokevirtual 27, 3) := by decide +kernel
theorem dX0_obey_15 : decode cX0_obey 15 = .ok (.iadd, 1) := by decide +kernel
theorem dX0_obey_16 : decode cX0_obey 16 = .ok (.istore 5, 2) := by decide +kernel
theorem dX0_obey_18 : decode cX0_obey 18 = .ok (.aload_n 1, 1) := by decide +kernel
theorem dX0_obey_19 : decode cX0_obey 19 = .ok (.iload_n 3, 1) := by decide +kernel
theorem dX0_obey_20 : decode cX0_obey 20 = .ok (.iload 5, 2) := by decide +kernel
theorem dX0_obey_22 : decode cX0_obey 22 = .ok (.invokevirtual 31, 3) := by decide +kernel
theorem dX0_obey_25 : decode cX0_obey 25 = .ok (.istore 6, 2) := by decide +kernel
theorem dX0_obey_27 : decode cX0_obey 27 = .ok (.aload_n 1, 1) := by decide +kernel
theorem dX0_obey_28 : decode cX0_obey 28 = .ok (.iload_n 3, 1) := by decide +kernel
theorem dX0_obey_29 : decode cX0_obey 29 = .ok (.invokevirtual 34, 3) := by decide +kernel
theorem dX0_obey_32 : decode cX0_obey 32 = .ok (.istore 7, 2) := by decide +kernel
theorem dX0_obey_34 : decode cX0_obey 34 = .ok (.iload 4, 2) := by decide +kernel
theorem dX0_obey_36 : decode cX0_obey 36 = .ok (.bipush 114, 2) := by decide +kernel
theorem dX0_obey_38 : decode cX0_obey 38 = .ok (.if_icmp .ne 45, 3) := by decide +kernel
theorem dX0_obey_41 : decode cX0_obey 41 = .ok (.aload_n 0, 1) := by decide +kernel
theorem dX0_obey_42 : decode cX0_obey 42 = .ok (.getfield 9, 3) := by decide +kernel
theorem dX0_obey_45 : decode cX0_obey 45 = .ok (.iload_n 2, 1) := by decide +kernel
theorem dX0_obey_46 : decode cX0_obey 46 = .ok (.aload_n 1, 1) := by decide +kernel
theorem dX0_obey_47 : decode cX0_obey 47 = .ok (.iload_n 2, 1) := by decide +kernel
theorem dX0_obey_48 : decode cX0_obey 48 = .ok (.iconst 1, 1) := by decide +kernel
theorem dX0_obey_49 : decode cX0_obey 49 = .ok (.invokevirtual 27, 3) := by decide +kernel
theorem dX0_obey_52 : decode cX0_obey 52 = .ok (.bipush 98, 2) := by decide +kernel
theorem dX0_obey_54 : decode cX0_obey 54 = .ok (.if_icmp .ne 15, 3) := by decide +kernel
theorem dX0_obey_57 : decode cX0_obey 57 = .ok (.aload_n 0, 1) := by decide +kernel
theorem dX0_obey_58 : decode cX0_obey 58 = .ok (.getfield 9, 3) := by decide +kernel
theorem dX0_obey_61 : decode cX0_obey 61 = .ok (.iload_n 2, 1) := by decide +kernel
theorem dX0_obey_62 : decode cX0_obey 62 = .ok (.iaload, 1) := by decide +kernel
theorem dX0_obey_63 : decode cX0_obey 63 = .ok (.iload 6, 2) := by decide +kernel
theorem dX0_obey_65 : decode cX0_obey 65 = .ok (.ior, 1) := by decide +kernel
theorem dX0_obey_66 : decode cX0_obey 66 = .ok (.goto 5, 3) := by decide +kernel
theorem dX0_obey_69 : decode cX0_obey 69 = .ok (.iload 6, 2) := by decide +kernel
theorem dX0_obey_71 : decode cX0_obey 71 = .ok (.iastore, 1) := by decide +kernel
theorem dX0_obey_72 : decode cX0_obey 72 = .ok (.aload_n 0, 1) := by decide +kernel
theorem dX0_obey_73 : decode cX0_obey 73 = .ok (.getfield 15, 3) := by decide +kernel
theorem dX0_obey_76 : decode cX0_obey 76 = .ok (.iload_n 2, 1) := by decide +kernel
theorem dX0_obey_77 : decode cX0_obey 77 = .ok (.dup2, 1) := by decide +kernel
theorem dX0_obey_78 : decode cX0_obey 78 = .ok (.iaload, 1) := by decide +kernel
theorem dX0_obey_79 : decode cX0_obey 79 = .ok (.iconst 1, 1) := by decide +kernel
theorem dX0_obey_80 : decode cX0_obey 80 = .ok (.iadd, 1) := by decide +kernel
theorem dX0_obey_81 : decode cX0_obey 81 = .ok (.iastore, 1) := by decide +kernel
theorem dX0_obey_82 : decode cX0_obey 82 = .ok (.return_, 1) := by decide +kernel
theorem dX0_obey_83 : decode cX0_obey 83 = .ok (.iload 7, 2) := by decide +kernel
theorem dX0_obey_85 : decode cX0_obey 85 = .ok (.ifCond .ne 16, 3) := by decide +kernel
theorem dX0_obey_88 : decode cX0_obey 88 = .ok (.aload_n 1, 1) := by decide +kernel
theorem dX0_obey_89 : decode cX0_obey 89 = .ok (.iload_n 3, 1) := by decide +kernel
theorem dX0_obey_90 : decode cX0_obey 90 = .ok (.iload 5, 2) := by decide +kernel
theorem dX0_obey_92 : decode cX0_obey 92 = .ok (.aload_n 0, 1) := by decide +kernel
theorem dX0_obey_93 : decode cX0_obey 93 = .ok (.getfield 9, 3) := by decide +kernel
theorem dX0_obey_96 : decode cX0_obey 96 = .ok (.iload_n 2, 1) := by decide +kernel
theorem dX0_obey_97 : decode cX0_obey 97 = .ok (.iaload, 1) := by decide +kernel
theorem dX0_obey_98 : decode cX0_obey 98 = .ok (.invokevirtual 38, 3) := by decide +kernel
theorem dX0_obey_101 : decode cX0_obey 101 = .ok (.iload 4, 2) := by decide +kernel
theorem dX0_obey_103 : decode cX0_obey 103 = .ok (.bipush 120, 2) := by decide +kernel
theorem dX0_obey_105 : decode cX0_obey 105 = .ok (.if_icmp .ne 33, 3) := by decide +kernel
theorem dX0_obey_108 : decode cX0_obey 108 = .ok (.aload_n 0, 1) := by decide +kernel
theorem dX0_obey_109 : decode cX0_obey 109 = .ok (.getfield 9, 3) := by decide +kernel
theorem dX0_obey_112 : decode cX0_obey 112 = .ok (.iload_n 2, 1) := by decide +kernel
theorem dX0_obey_113 : decode cX0_obey 113 = .ok (.iload 6, 2) := by decide +kernel
theorem dX0_obey_115 : decode cX0_obey 115 = .ok (.iastore, 1) := by decide +kernel
theorem dX0_obey_116 : decode cX0_obey 116 = .ok (.aload_n 0, 1) := by decide +kernel
theorem dX0_obey_117 : decode cX0_obey 117 = .ok (.getfield 15, 3) := by decide +kernel
theorem dX0_obey_120 : decode cX0_obey 120 = .ok (.iload_n 2, 1) := by decide +kernel
theorem dX0_obey_121 : decode cX0_obey 121 = .ok (.dup2, 1) := by decide +kernel
theorem dX0_obey_122 : decode cX0_obey 122 = .ok (.iaload, 1) := by decide +kernel
theorem dX0_obey_123 : decode cX0_obey 123 = .ok (.iload 7, 2) := by decide +kernel
theorem dX0_obey_125 : decode cX0_obey 125 = .ok (.ifCond .eq 7, 3) := by decide +kernel
theorem dX0_obey_128 : decode cX0_obey 128 = .ok (.iconst 1, 1) := by decide +kernel
theorem dX0_obey_129 : decode cX0_obey 129 = .ok (.goto 4, 3) := by decide +kernel
theorem dX0_obey_132 : decode cX0_obey 132 = .ok (.iconst 3, 1) := by decide +kernel
theorem dX0_obey_133 : decode cX0_obey 133 = .ok (.iadd, 1) := by decide +kernel
theorem dX0_obey_134 : decode cX0_obey 134 = .ok (.iastore, 1) := by decide +kernel
theorem dX0_obey_135 : decode cX0_obey 135 = .ok (.goto 18, 3) := by decide +kernel
theorem dX0_obey_138 : decode cX0_obey 138 = .ok (.iload 7, 2) := by decide +kernel
theorem dX0_obey_140 : decode cX0_obey 140 = .ok (.ifCond .ne 13, 3) := by decide +kernel
theorem dX0_obey_143 : decode cX0_obey 143 = .ok (.aload_n 0, 1) := by decide +kernel
theorem dX0_obey_144 : decode cX0_obey 144 = .ok (.getfield 15, 3) := by decide +kernel
theorem dX0_obey_147 : decode cX0_obey 147 = .ok (.iload_n 2, 1) := by decide +kernel
theorem dX0_obey_148 : decode cX0_obey 148 = .ok (.dup2, 1) := by decide +kernel
theorem dX0_obey_149 : decode cX0_obey 149 = .ok (.iaload, 1) := by decide +kernel
theorem dX0_obey_150 : decode cX0_obey 150 = .ok (.iconst 1, 1) := by decide +kernel
theorem dX0_obey_151 : decode cX0_obey 151 = .ok (.iadd, 1) := by decide +kernel
theorem dX0_obey_152 : decode cX0_obey 152 = .ok (.iastore, 1) := by decide +kernel
theorem dX0_obey_153 : decode cX0_obey 153 = .ok (.return_, 1) := by decide +kernel
theorem dX1_init_0 : decode cX1_init 0 = .ok (.aload_n 0, 1) := by decide +kernel
theorem dX1_init_1 : decode cX1_init 1 = .ok (.invokespecial 3, 3) := by decide +kernel
theorem dX1_init_4 : decode cX1_init 4 = .ok (.aload_n 0, 1) := by decide +kernel
theorem dX1_init_5 : decode cX1_init 5 = .ok (.bipush 6, 2) := by decide +kernel
theorem dX1_init_7 : decode cX1_init 7 = .ok (.anewarray 9, 3) := by decide +kernel
theorem dX1_init_10 : decode cX1_init 10 = .ok (.putfield 11, 3) := by decide +kernel
theorem dX1_init_13 : decode cX1_init 13 = .ok (.iconst 0, 1) := by decide +kernel
theorem dX1_init_14 : decode cX1_init 14 = .ok (.istore_n 1, 1) := by decide +kernel
theorem dX1_init_15 : decode cX1_init 15 = .ok (.iload_n 1, 1) := by decide +kernel
theorem dX1_init_16 : decode cX1_init 16 = .ok (.bipush 6, 2) := by decide +kernel
theorem dX1_init_18 : decode cX1_init 18 = .ok (.if_icmp .ge 22, 3) := by decide +kernel
theorem dX1_init_21 : decode cX1_init 21 = .ok (.aload_n 0, 1) := by decide +kernel
theorem dX1_init_22 : decode cX1_init 22 = .ok (.getfield 11, 3) := by decide +kernel
theorem dX1_init_25 : decode cX1_init 25 = .ok (.iload_n 1, 1) := by decide +kernel
theorem dX1_init_26 : decode cX1_init 26 = .ok (.new 9, 3) := by decide +kernel
theorem dX1_init_29 : decode cX1_init 29 = .ok (.dup, 1) := by decide +kernel
theorem dX1_init_30 : decode cX1_init 30 = .ok (.invokespecial 17, 3) := by decide +kernel
theorem dX1_init_33 : decode cX1_init 33 = .ok (.aastore, 1) := by decide +kernel
theorem dX1_init_34 : decode cX1_init 34 = .ok (.iinc 1 1, 3) := by decide +kernel
theorem dX1_init_37 : decode cX1_init 37 = .ok (.goto (-22), 3) := by decide +kernel
theorem dX1_init_40 : decode cX1_init 40 = .ok (.return_, 1) := by decide +kernel
theorem dX1_push_0 : decode cX1_push 0 = .ok (.aload_n 0, 1) := by decide +kernel
theorem dX1_push_1 : decode cX1_push 1 = .ok (.getfield 11, 3) := by decide +kernel
theorem dX1_push_4 : decode cX1_push 4 = .ok (.aload_n 0, 1) := by decide +kernel
theorem dX1_push_5 : decode cX1_push 5 = .ok (.getfield 18, 3) := by decide +kernel
theorem dX1_push_8 : decode cX1_push 8 = .ok (.aaload, 1) := by decide +kernel
theorem dX1_push_9 : decode cX1_push 9 = .ok (.aload_n 1, 1) := by decide +kernel
theorem dX1_push_10 : decode cX1_push 10 = .ok (.invokevirtual 22, 3) := by decide +kernel
theorem dX1_push_13 : decode cX1_push 13 = .ok (.aload_n 0, 1) := by decide +kernel
theorem dX1_push_14 : decode cX1_push 14 = .ok (.aload_n 0, 1) := by decide +kernel
theorem dX1_push_15 : decode cX1_push 15 = .ok (.getfield 18, 3) := by decide +kernel
theorem dX1_push_18 : decode cX1_push 18 = .ok (.iconst 1, 1) := by decide +kernel
theorem dX1_push_19 : decode cX1_push 19 = .ok (.iadd, 1) := by decide +kernel
theorem dX1_push_20 : decode cX1_push 20 = .ok (.bipush 6, 2) := by decide +kernel
theorem dX1_push_22 : decode cX1_push 22 = .ok (.if_icmp .ge 12, 3) := by decide +kernel
theorem dX1_push_25 : decode cX1_push 25 = .ok (.aload_n 0, 1) := by decide +kernel
theorem dX1_push_26 : decode cX1_push 26 = .ok (.getfield 18, 3) := by decide +kernel
theorem dX1_push_29 : decode cX1_push 29 = .ok (.iconst 1, 1) := by decide +kernel
theorem dX1_push_30 : decode cX1_push 30 = .ok (.iadd, 1) := by decide +kernel
theorem dX1_push_31 : decode cX1_push 31 = .ok (.goto 4, 3) := by decide +kernel
theorem dX1_push_34 : decode cX1_push 34 = .ok (.iconst 0, 1) := by decide +kernel
theorem dX1_push_35 : decode cX1_push 35 = .ok (.putfield 18, 3) := by decide +kernel
theorem dX1_push_38 : decode cX1_push 38 = .ok (.aload_n 0, 1) := by decide +kernel
theorem dX1_push_39 : decode cX1_push 39 = .ok (.aload_n 0, 1) := by decide +kernel
theorem dX1_push_40 : decode cX1_push 40 = .ok (.getfield 26, 3) := by decide +kernel
theorem dX1_push_43 : decode cX1_push 43 = .ok (.iconst 1, 1) := by decide +kernel
theorem dX1_push_44 : decode cX1_push 44 = .ok (.iadd, 1) := by decide +kernel
theorem dX1_push_45 : decode cX1_push 45 = .ok (.bipush 6, 2) := by decide +kernel
theorem dX1_push_47 : decode cX1_push 47 = .ok (.invokestatic 29, 3) := by decide +kernel
theorem dX1_push_50 : decode cX1_push 50 = .ok (.putfield 26, 3) := by decide +kernel
theorem dX1_push_53 : decode cX1_push 53 = .ok (.return_, 1) := by decide +kernel
theorem dX1_pop_0 : decode cX1_pop 0 = .ok (.aload_n 0, 1) := by decide +kernel
theorem dX1_pop_1 : decode cX1_pop 1 = .ok (.getfield 26, 3) := by decide +kernel
theorem dX1_pop_4 : decode cX1_pop 4 = .ok (.ifCond .le 47, 3) := by decide +kernel
theorem dX1_pop_7 : decode cX1_pop 7 = .ok (.aload_n 0, 1) := by decide +kernel
theorem dX1_pop_8 : decode cX1_pop 8 = .ok (.aload_n 0, 1) := by decide +kernel
theorem dX1_pop_9 : decode cX1_pop 9 = .ok (.getfield 18, 3) := by decide +kernel
theorem dX1_pop_12 : decode cX1_pop 12 = .ok (.ifCond .le 12, 3) := by decide +kernel
theorem dX1_pop_15 : decode cX1_pop 15 = .ok (.aload_n 0, 1) := by decide +kernel
theorem dX1_pop_16 : decode cX1_pop 16 = .ok (.getfield 18, 3) := by decide +kernel
theorem dX1_pop_19 : decode cX1_pop 19 = .ok (.iconst 1, 1) := by decide +kernel
theorem dX1_pop_20 : decode cX1_pop 20 = .ok (.isub, 1) := by decide +kernel
theorem dX1_pop_21 : decode cX1_pop 21 = .ok (.goto 4, 3) := by decide +kernel
theorem dX1_pop_24 : decode cX1_pop 24 = .ok (.iconst 5, 1) := by decide +kernel
theorem dX1_pop_25 : decode cX1_pop 25 = .ok (.putfield 18, 3) := by decide +kernel
theorem dX1_pop_28 : decode cX1_pop 28 = .ok (.aload_n 0, 1) := by decide +kernel
theorem dX1_pop_29 : decode cX1_pop 29 = .ok (.dup, 1) := by decide +kernel
theorem dX1_pop_30 : decode cX1_pop 30 = .ok (.getfield 26, 3) := by decide +kernel
theorem dX1_pop_33 : decode cX1_pop 33 = .ok (.iconst 1, 1) := by decide +kernel
theorem dX1_pop_34 : decode cX1_pop 34 = .ok (.isub, 1) := by decide +kernel
theorem dX1_pop_35 : decode cX1_pop 35 = .ok (.putfield 26, 3) := by decide +kernel
theorem dX1_pop_38 : decode cX1_pop 38 = .ok (.aload_n 1, 1) := by decide +kernel
theorem dX1_pop_39 : decode cX1_pop 39 = .ok (.aload_n 0, 1) := by decide +kernel
theorem dX1_pop_40 : decode cX1_pop 40 = .ok (.getfield 11, 3) := by decide +kernel
theorem dX1_pop_43 : decode cX1_pop 43 = .ok (.aload_n 0, 1) := by decide +kernel
theorem dX1_pop_44 : decode cX1_pop 44 = .ok (.getfield 18, 3) := by decide +kernel
theorem dX1_pop_47 : decode cX1_pop 47 = .ok (.aaload, 1) := by decide +kernel
theorem dX1_pop_48 : decode cX1_pop 48 = .ok (.invokevirtual 22, 3) := by decide +kernel
theorem dX1_pop_51 : decode cX1_pop 51 = .ok (.return_, 1) := by decide +kernel
theorem dX2_init_0 : decode cX2_init 0 = .ok (.aload_n 0, 1) := by decide +kernel
theorem dX2_init_1 : decode cX2_init 1 = .ok (.invokespecial 3, 3) := by decide +kernel
theorem dX2_init_4 : decode cX2_init 4 = .ok (.aload_n 0, 1) := by decide +kernel
theorem dX2_init_5 : decode cX2_init 5 = .ok (.aload_n 1, 1) := by decide +kernel
theorem dX2_init_6 : decode cX2_init 6 = .ok (.putfield 9, 3) := by decide +kernel
theorem dX2_init_9 : decode cX2_init 9 = .ok (.return_, 1) := by decide +kernel
theorem dX2_readsWire_0 : decode cX2_readsWire 0 = .ok (.aload_n 1, 1) := by decide +kernel
theorem dX2_readsWire_1 : decode cX2_readsWire 1 = .ok (.invokevirtual 15, 3) := by decide +kernel
theorem dX2_readsWire_4 : decode cX2_readsWire 4 = .ok (.aload_n 0, 1) := by decide +kernel
theorem dX2_readsWire_5 : decode cX2_readsWire 5 = .ok (.iconst 0, 1) := by decide +kernel
theorem dX2_readsWire_6 : decode cX2_readsWire 6 = .ok (.putfield 20, 3) := by decide +kernel
theorem dX2_readsWire_9 : decode cX2_readsWire 9 = .ok (.aload_n 0, 1) := by decide +kernel
theorem dX2_readsWire_10 : decode cX2_readsWire 10 = .ok (.getfield 9, 3) := by decide +kernel
theorem dX2_readsWire_13 : decode cX2_readsWire 13 = .ok (.invokevirtual 24, 3) := by decide +kernel
theorem dX2_readsWire_16 : decode cX2_readsWire 16 = .ok (.iconst 0, 1) := by decide +kernel
theorem dX2_readsWire_17 : decode cX2_readsWire 17 = .ok (.istore_n 2, 1) := by decide +kernel
theorem dX2_readsWire_18 : decode cX2_readsWire 18 = .ok (.iload_n 2, 1) := by decide +kernel
theorem dX2_readsWire_19 : decode cX2_readsWire 19 = .ok (.bipush 120, 2) := by decide +kernel
theorem dX2_readsWire_21 : decode cX2_readsWire 21 = .ok (.if_icmp .ge 32, 3) := by decide +kernel
theorem dX2_readsWire_24 : decode cX2_readsWire 24 = .ok (.aload_n 0, 1) := by decide +kernel
theorem dX2_readsWire_25 : decode cX2_readsWire 25 = .ok (.getfield 9, 3) := by decide +kernel
theorem dX2_readsWire_28 : decode cX2_readsWire 28 = .ok (.getfield 29, 3) := by decide +kernel
theorem dX2_readsWire_31 : decode cX2_readsWire 31 = .ok (.sipush 257, 3) := by decide +kernel
theorem dX2_readsWire_34 : decode cX2_readsWire 34 = .ok (.if_icmp .eq 19, 3) := by decide +kernel
theorem dX2_readsWire_37 : decode cX2_readsWire 37 = .ok (.aload_n 0, 1) := by decide +kernel
theorem dX2_readsWire_38 : decode cX2_readsWire 38 = .ok (.aload_n 1, 1) := by decide +kernel
theorem dX2_readsWire_39 : decode cX2_readsWire 39 = .ok (.invokevirtual 33, 3) := by decide +kernel
theorem dX2_readsWire_42 : decode cX2_readsWire 42 = .ok (.ifCond .ne 5, 3) := by decide +kernel
theorem dX2_readsWire_45 : decode cX2_readsWire 45 = .ok (.iconst 0, 1) := by decide +kernel
theorem dX2_readsWire_46 : decode cX2_readsWire 46 = .ok (.ireturn, 1) := by decide +kernel
theorem dX2_readsWire_47 : decode cX2_readsWire 47 = .ok (.iinc 2 1, 3) := by decide +kernel
theorem dX2_readsWire_50 : decode cX2_readsWire 50 = .ok (.goto (-32), 3) := by decide +kernel
theorem dX2_readsWire_53 : decode cX2_readsWire 53 = .ok (.aload_n 1, 1) := by decide +kernel
theorem dX2_readsWire_54 : decode cX2_readsWire 54 = .ok (.getfield 37, 3) := by decide +kernel
theorem dX2_readsWire_57 : decode cX2_readsWire 57 = .ok (.ifCond .le 7, 3) := by decide +kernel
theorem dX2_readsWire_60 : decode cX2_readsWire 60 = .ok (.iconst 1, 1) := by decide +kernel
theorem dX2_readsWire_61 : decode cX2_readsWire 61 = .ok (.goto 4, 3) := by decide +kernel
theorem dX2_readsWire_64 : decode cX2_readsWire 64 = .ok (.iconst 0, 1) := by decide +kernel
theorem dX2_readsWire_65 : decode cX2_readsWire 65 = .ok (.ireturn, 1) := by decide +kernel
theorem dX2_readsItem_0 : decode cX2_readsItem 0 = .ok (.aload_n 0, 1) := by decide +kernel
theorem dX2_readsItem_1 : decode cX2_readsItem 1 = .ok (.getfield 9, 3) := by decide +kernel
theorem dX2_readsItem_4 : decode cX2_readsItem 4 = .ok (.getfield 29, 3) := by decide +kernel
theorem dX2_readsItem_7 : decode cX2_readsItem 7 = .ok (.lookupswitch 51 #[(100, 33), (109, 45), (122, 39)], 33) := by decide +kernel
theorem dX2_readsItem_40 : decode cX2_readsItem 40 = .ok (.aload_n 0, 1) := by decide +kernel
theorem dX2_readsItem_41 : decode cX2_readsItem 41 = .ok (.aload_n 1, 1) := by decide +kernel
theorem dX2_readsItem_42 : decode cX2_readsItem 42 = .ok (.invokevirtual 40, 3) := by decide +kernel
theorem dX2_readsItem_45 : decode cX2_readsItem 45 = .ok (.ireturn, 1) := by decide +kernel
theorem dX2_readsItem_46 : decode cX2_readsItem 46 = .ok (.aload_n 0, 1) := by decide +kernel
theorem dX2_readsItem_47 : decode cX2_readsItem 47 = .ok (.aload_n 1, 1) := by decide +kernel
theorem dX2_readsItem_48 : decode cX2_readsItem 48 = .ok (.invokevirtual 43, 3) := by decide +kernel
theorem dX2_readsItem_51 : decode cX2_readsItem 51 = .ok (.ireturn, 1) := by decide +kernel
theorem dX2_readsItem_52 : decode cX2_readsItem 52 = .ok (.aload_n 0, 1) := by decide +kernel
theorem dX2_readsItem_53 : decode cX2_readsItem 53 = .ok (.aload_n 1, 1) := by decide +kernel
theorem dX2_readsItem_54 : decode cX2_readsItem 54 = .ok (.invokevirtual 46, 3) := by decide +kernel
theorem dX2_readsItem_57 : decode cX2_readsItem 57 = .ok (.ireturn, 1) := by decide +kernel
theorem dX2_readsItem_58 : decode cX2_readsItem 58 = .ok (.iconst 0, 1) := by decide +kernel
theorem dX2_readsItem_59 : decode cX2_readsItem 59 = .ok (.ireturn, 1) := by decide +kernel
theorem dX2_readsDrive_0 : decode cX2_readsDrive 0 = .ok (.aload_n 1, 1) := by decide +kernel
theorem dX2_readsDrive_1 : decode cX2_readsDrive 1 = .ok (.invokevirtual 49, 3) := by decide +kernel
theorem dX2_readsDrive_4 : decode cX2_readsDrive 4 = .ok (.ifCond .ne 5, 3) := by decide +kernel
theorem dX2_readsDrive_7 : decode cX2_readsDrive 7 = .ok (.iconst 0, 1) := by decide +kernel
theorem dX2_readsDrive_8 : decode cX2_readsDrive 8 = .ok (.ireturn, 1) := by decide +kernel
theorem dX2_readsDrive_9 : decode cX2_readsDrive 9 = .ok (.aload_n 0, 1) := by decide +kernel
theorem dX2_readsDrive_10 : decode cX2_readsDrive 10 = .ok (.getfield 9, 3) := by decide +kernel
theorem dX2_readsDrive_13 : decode cX2_readsDrive 13 = .ok (.invokevirtual 53, 3) := by decide +kernel
theorem dX2_readsDrive_16 : decode cX2_readsDrive 16 = .ok (.aload_n 0, 1) := by decide +kernel
theorem dX2_readsDrive_17 : decode cX2_readsDrive 17 = .ok (.iconst 1, 1) := by decide +kernel
theorem dX2_readsDrive_18 : decode cX2_readsDrive 18 = .ok (.bipush 9, 2) := by decide +kernel
theorem dX2_readsDrive_20 : decode cX2_readsDrive 20 = .ok (.invokevirtual 56, 3) := by decide +kernel
theorem dX2_readsDrive_23 : decode cX2_readsDrive 23 = .ok (.istore_n 2, 1) := by decide +kernel
theorem dX2_readsDrive_24 : decode cX2_readsDrive 24 = .ok (.iload_n 2, 1) := by decide +kernel
theorem dX2_readsDrive_25 : decode cX2_readsDrive 25 = .ok (.iconst (-1), 1) := by decide +kernel
theorem dX2_readsDrive_26 : decode cX2_readsDrive 26 = .ok (.if_icmp .ne 5, 3) := by decide +kernel
theorem dX2_readsDrive_29 : decode cX2_readsDrive 29 = .ok (.iconst 0, 1) := by decide +kernel
theorem dX2_readsDrive_30 : decode cX2_readsDrive 30 = .ok (.ireturn, 1) := by decide +kernel
theorem dX2_readsDrive_31 : decode cX2_readsDrive 31 = .ok (.aload_n 0, 1) := by decide +kernel
theorem dX2_readsDrive_32 : decode cX2_readsDrive 32 = .ok (.iconst 0, 1) := by decide +kernel
theorem dX2_readsDrive_33 : decode cX2_readsDrive 33 = .ok (.bipush 15, 2) := by decide +kernel
theorem dX2_readsDrive_35 : decode cX2_readsDrive 35 = .ok (.invokevirtual 56, 3) := by decide +kernel
theorem dX2_readsDrive_38 : decode cX2_readsDrive 38 = .ok (.istore_n 3, 1) := by decide +kernel
theorem dX2_readsDrive_39 : decode cX2_readsDrive 39 = .ok (.iload_n 3, 1) := by decide +kernel
theorem dX2_readsDrive_40 : decode cX2_readsDrive 40 = .ok (.iconst (-1), 1) := by decide +kernel
theorem dX2_readsDrive_41 : decode cX2_readsDrive 41 = .ok (.if_icmp .eq 10, 3) := by decide +kernel
theorem dX2_readsDrive_44 : decode cX2_readsDrive 44 = .ok (.aload_n 0, 1) := by decide +kernel
theorem dX2_readsDrive_45 : decode cX2_readsDrive 45 = .ok (.invokevirtual 60, 3) := by decide +kernel
theorem dX2_readsDrive_48 : decode cX2_readsDrive 48 = .ok (.ifCond .ne 5, 3) := by decide +kernel
theorem dX2_readsDrive_51 : decode cX2_readsDrive 51 = .ok (.iconst 0, 1) := by decide +kernel
theorem dX2_readsDrive_52 : decode cX2_readsDrive 52 = .ok (.ireturn, 1) := by decide +kernel
theorem dX2_readsDrive_53 : decode cX2_readsDrive 53 = .ok (.aload_n 1, 1) := by decide +kernel
theorem dX2_readsDrive_54 : decode cX2_readsDrive 54 = .ok (.iload_n 2, 1) := by decide +kernel
theorem dX2_readsDrive_55 : decode cX2_readsDrive 55 = .ok (.iload_n 3, 1) := by decide +kernel
theorem dX2_readsDrive_56 : decode cX2_readsDrive 56 = .ok (.invokevirtual 63, 3) := by decide +kernel
theorem dX2_readsDrive_59 : decode cX2_readsDrive 59 = .ok (.iconst 1, 1) := by decide +kernel
theorem dX2_readsDrive_60 : decode cX2_readsDrive 60 = .ok (.ireturn, 1) := by decide +kernel
theorem dX2_readsClosing_0 : decode cX2_readsClosing 0 = .ok (.aload_n 1, 1) := by decide +kernel
theorem dX2_readsClosing_1 : decode cX2_readsClosing 1 = .ok (.invokevirtual 67, 3) := by decide +kernel
theorem dX2_readsClosing_4 : decode cX2_readsClosing 4 = .ok (.ifCond .ne 5, 3) := by decide +kernel
theorem dX2_readsClosing_7 : decode cX2_readsClosing 7 = .ok (.iconst 0, 1) := by decide +kernel
theorem dX2_readsClosing_8 : decode cX2_readsClosing 8 = .ok (.ireturn, 1) := by decide +kernel
theorem dX2_readsClosing_9 : decode cX2_readsClosing 9 = .ok (.aload_n 0, 1) := by decide +kernel
theorem dX2_readsClosing_10 : decode cX2_readsClosing 10 = .ok (.getfield 9, 3) := by decide +kernel
theorem dX2_readsClosing_13 : decode cX2_readsClosing 13 = .ok (.invokevirtual 53, 3) := by decide +kernel
theorem dX2_readsClosing_16 : decode cX2_readsClosing 16 = .ok (.aload_n 0, 1) := by decide +kernel
theorem dX2_readsClosing_17 : decode cX2_readsClosing 17 = .ok (.iconst 1, 1) := by decide +kernel
theorem dX2_readsClosing_18 : decode cX2_readsClosing 18 = .ok (.bipush 9, 2) := by decide +kernel
theorem dX2_readsClosing_20 : decode cX2_readsClosing 20 = .ok (.invokevirtual 56, 3) := by decide +kernel
theorem dX2_readsClosing_23 : decode cX2_readsClosing 23 = .ok (.istore_n 2, 1) := by decide +kernel
theorem dX2_readsClosing_24 : decode cX2_readsClosing 24 = .ok (.iload_n 2, 1) := by decide +kernel
theorem dX2_readsClosing_25 : decode cX2_readsClosing 25 = .ok (.iconst (-1), 1) := by decide +kernel
theorem dX2_readsClosing_26 : decode cX2_readsClosing 26 = .ok (.if_icmp .eq 10, 3) := by decide +kernel
theorem dX2_readsClosing_29 : decode cX2_readsClosing 29 = .ok (.aload_n 0, 1) := by decide +kernel
theorem dX2_readsClosing_30 : decode cX2_readsClosing 30 = .ok (.invokevirtual 60, 3) := by decide +kernel
theorem dX2_readsClosing_33 : decode cX2_readsClosing 33 = .ok (.ifCond .ne 5, 3) := by decide +kernel
theorem dX2_readsClosing_36 : decode cX2_readsClosing 36 = .ok (.iconst 0, 1) := by decide +kernel
theorem dX2_readsClosing_37 : decode cX2_readsClosing 37 = .ok (.ireturn, 1) := by decide +kernel
theorem dX2_readsClosing_38 : decode cX2_readsClosing 38 = .ok (.aload_n 1, 1) := by decide +kernel
theorem dX2_readsClosing_39 : decode cX2_readsClosing 39 = .ok (.iload_n 2, 1) := by decide +kernel
theorem dX2_readsClosing_40 : decode cX2_readsClosing 40 = .ok (.invokevirtual 70, 3) := by decide +kernel
theorem dX2_readsClosing_43 : decode cX2_readsClosing 43 = .ok (.iconst 1, 1) := by decide +kernel
theorem dX2_readsClosing_44 : decode cX2_readsClosing 44 = .ok (.ireturn, 1) := by decide +kernel
theorem dX2_readsLimit_0 : decode cX2_readsLimit 0 = .ok (.aload_n 0, 1) := by decide +kernel
theorem dX2_readsLimit_1 : decode cX2_readsLimit 1 = .ok (.getfield 20, 3) := by decide +kernel
theorem dX2_readsLimit_4 : decode cX2_readsLimit 4 = .ok (.ifCond .eq 5, 3) := by decide +kernel
theorem dX2_readsLimit_7 : decode cX2_readsLimit 7 = .ok (.iconst 0, 1) := by decide +kernel
theorem dX2_readsLimit_8 : decode cX2_readsLimit 8 = .ok (.ireturn, 1) := by decide +kernel
theorem dX2_readsLimit_9 : decode cX2_readsLimit 9 = .ok (.aload_n 0, 1) := by decide +kernel
theorem dX2_readsLimit_10 : decode cX2_readsLimit 10 = .ok (.getfield 9, 3) := by decide +kernel
theorem dX2_readsLimit_13 : decode cX2_readsLimit 13 = .ok (.invokevirtual 53, 3) := by decide +kernel
theorem dX2_readsLimit_16 : decode cX2_readsLimit 16 = .ok (.aload_n 0, 1) := by decide +kernel
theorem dX2_readsLimit_17 : decode cX2_readsLimit 17 = .ok (.iconst 1, 1) := by decide +kernel
theorem dX2_readsLimit_18 : decode cX2_readsLimit 18 = .ok (.bipush 9, 2) := by decide +kernel
theorem dX2_readsLimit_20 : decode cX2_readsLimit 20 = .ok (.invokevirtual 56, 3) := by decide +kernel
theorem dX2_readsLimit_23 : decode cX2_readsLimit 23 = .ok (.istore_n 2, 1) := by decide +kernel
theorem dX2_readsLimit_24 : decode cX2_readsLimit 24 = .ok (.iload_n 2, 1) := by decide +kernel
theorem dX2_readsLimit_25 : decode cX2_readsLimit 25 = .ok (.iconst (-1), 1) := by decide +kernel
theorem dX2_readsLimit_26 : decode cX2_readsLimit 26 = .ok (.if_icmp .eq 10, 3) := by decide +kernel
theorem dX2_readsLimit_29 : decode cX2_readsLimit 29 = .ok (.aload_n 0, 1) := by decide +kernel
theorem dX2_readsLimit_30 : decode cX2_readsLimit 30 = .ok (.invokevirtual 60, 3) := by decide +kernel
theorem dX2_readsLimit_33 : decode cX2_readsLimit 33 = .ok (.ifCond .ne 5, 3) := by decide +kernel
theorem dX2_readsLimit_36 : decode cX2_readsLimit 36 = .ok (.iconst 0, 1) := by decide +kernel
theorem dX2_readsLimit_37 : decode cX2_readsLimit 37 = .ok (.ireturn, 1) := by decide +kernel
theorem dX2_readsLimit_38 : decode cX2_readsLimit 38 = .ok (.aload_n 1, 1) := by decide +kernel
theorem dX2_readsLimit_39 : decode cX2_readsLimit 39 = .ok (.iload_n 2, 1) := by decide +kernel
theorem dX2_readsLimit_40 : decode cX2_readsLimit 40 = .ok (.putfield 74, 3) := by decide +kernel
theorem dX2_readsLimit_43 : decode cX2_readsLimit 43 = .ok (.aload_n 0, 1) := by decide +kernel
theorem dX2_readsLimit_44 : decode cX2_readsLimit 44 = .ok (.iconst 1, 1) := by decide +kernel
theorem dX2_readsLimit_45 : decode cX2_readsLimit 45 = .ok (.putfield 20, 3) := by decide +kernel
theorem dX2_readsLimit_48 : decode cX2_readsLimit 48 = .ok (.iconst 1, 1) := by decide +kernel
theorem dX2_readsLimit_49 : decode cX2_readsLimit 49 = .ok (.ireturn, 1) := by decide +kernel
theorem dX2_readsFrame_0 : decode cX2_readsFrame 0 = .ok (.aload_n 1, 1) := by decide +kernel
theorem dX2_readsFrame_1 : decode cX2_readsFrame 1 = .ok (.invokevirtual 77, 3) := by decide +kernel
theorem dX2_readsFrame_4 : decode cX2_readsFrame 4 = .ok (.aload_n 0, 1) := by decide +kernel
theorem dX2_readsFrame_5 : decode cX2_readsFrame 5 = .ok (.getfield 9, 3) := by decide +kernel
theorem dX2_readsFrame_8 : decode cX2_readsFrame 8 = .ok (.invokevirtual 24, 3) := by decide +kernel
theorem dX2_readsFrame_11 : decode cX2_readsFrame 11 = .ok (.iconst 0, 1) := by decide +kernel
theorem dX2_readsFrame_12 : decode cX2_readsFrame 12 = .ok (.istore_n 2, 1) := by decide +kernel
theorem dX2_readsFrame_13 : decode cX2_readsFrame 13 = .ok (.iload_n 2, 1) := by decide +kernel
theorem dX2_readsFrame_14 : decode cX2_readsFrame 14 = .ok (.bipush 120, 2) := by decide +kernel
theorem dX2_readsFrame_16 : decode cX2_readsFrame 16 = .ok (.if_icmp .ge 32, 3) := by decide +kernel
theorem dX2_readsFrame_19 : decode cX2_readsFrame 19 = .ok (.aload_n 0, 1) := by decide +kernel
theorem dX2_readsFrame_20 : decode cX2_readsFrame 20 = .ok (.getfield 9, 3) := by decide +kernel
theorem dX2_readsFrame_23 : decode cX2_readsFrame 23 = .ok (.getfield 29, 3) := by decide +kernel
theorem dX2_readsFrame_26 : decode cX2_readsFrame 26 = .ok (.sipush 257, 3) := by decide +kernel
theorem dX2_readsFrame_29 : decode cX2_readsFrame 29 = .ok (.if_icmp .eq 19, 3) := by decide +kernel
theorem dX2_readsFrame_32 : decode cX2_readsFrame 32 = .ok (.aload_n 0, 1) := by decide +kernel
theorem dX2_readsFrame_33 : decode cX2_readsFrame 33 = .ok (.aload_n 1, 1) := by decide +kernel
theorem dX2_readsFrame_34 : decode cX2_readsFrame 34 = .ok (.invokevirtual 80, 3) := by decide +kernel
theorem dX2_readsFrame_37 : decode cX2_readsFrame 37 = .ok (.ifCond .ne 5, 3) := by decide +kernel
theorem dX2_readsFrame_40 : decode cX2_readsFrame 40 = .ok (.iconst 0, 1) := by decide +kernel
theorem dX2_readsFrame_41 : decode cX2_readsFrame 41 = .ok (.ireturn, 1) := by decide +kernel
theorem dX2_readsFrame_42 : decode cX2_readsFrame 42 = .ok (.iinc 2 1, 3) := by decide +kernel
theorem dX2_readsFrame_45 : decode cX2_readsFrame 45 = .ok (.goto (-32), 3) := by decide +kernel
theorem dX2_readsFrame_48 : decode cX2_readsFrame 48 = .ok (.aload_n 1, 1) := by decide +kernel
theorem dX2_readsFrame_49 : decode cX2_readsFrame 49 = .ok (.getfield 83, 3) := by decide +kernel
theorem dX2_readsFrame_52 : decode cX2_readsFrame 52 = .ok (.ifCond .le 7, 3) := by decide +kernel
theorem dX2_readsFrame_55 : decode cX2_readsFrame 55 = .ok (.iconst 1, 1) := by decide +kernel
theorem dX2_readsFrame_56 : decode cX2_readsFrame 56 = .ok (.goto 4, 3) := by decide +kernel
theorem dX2_readsFrame_59 : decode cX2_readsFrame 59 = .ok (.iconst 0, 1) := by decide +kernel
theorem dX2_readsFrame_60 : decode cX2_readsFrame 60 = .ok (.ireturn, 1) := by decide +kernel
theorem dX2_readsOrder_0 : decode cX2_readsOrder 0 = .ok (.aload_n 0, 1) := by decide +kernel
theorem dX2_readsOrder_1 : decode cX2_readsOrder 1 = .ok (.getfield 9, 3) := by decide +kernel
theorem dX2_readsOrder_4 : decode cX2_readsOrder 4 = .ok (.getfield 29, 3) := by decide +kernel
theorem dX2_readsOrder_7 : decode cX2_readsOrder 7 = .ok (.istore_n 2, 1) := by decide +kernel
theorem dX2_readsOrder_8 : decode cX2_readsOrder 8 = .ok (.aload_n 1, 1) := by decide +kernel
theorem dX2_readsOrder_9 : decode cX2_readsOrder 9 = .ok (.invokevirtual 86, 3) := by decide +kernel
theorem dX2_readsOrder_12 : decode cX2_readsOrder 12 = .ok (.ifCond .eq 21, 3) := by decide +kernel
theorem dX2_readsOrder_15 : decode cX2_readsOrder 15 = .ok (.iload_n 2, 1) := by decide +kernel
theorem dX2_readsOrder_16 : decode cX2_readsOrder 16 = .ok (.bipush 114, 2) := by decide +kernel
theorem dX2_readsOrder_18 : decode cX2_readsOrder 18 = .ok (.if_icmp .eq 17, 3) := by decide +kernel
theorem dX2_readsOrder_21 : decode cX2_readsOrder 21 = .ok (.iload_n 2, 1) := by decide +kernel
theorem dX2_readsOrder_22 : decode cX2_readsOrder 22 = .ok (.bipush 119, 2) := by decide +kernel
theorem dX2_readsOrder_24 : decode cX2_readsOrder 24 = .ok (.if_icmp .eq 11, 3) := by decide +kernel
theorem dX2_readsOrder_27 : decode cX2_readsOrder 27 = .ok (.iload_n 2, 1) := by decide +kernel
theorem dX2_readsOrder_28 : decode cX2_readsOrder 28 = .ok (.bipush 120, 2) := by decide +kernel
theorem dX2_readsOrder_30 : decode cX2_readsOrder 30 = .ok (.if_icmp .eq 5, 3) := by decide +kernel
theorem dX2_readsOrder_33 : decode cX2_readsOrder 33 = .ok (.iconst 0, 1) := by decide +kernel
theorem dX2_readsOrder_34 : decode cX2_readsOrder 34 = .ok (.ireturn, 1) := by decide +kernel
theorem dX2_readsOrder_35 : decode cX2_readsOrder 35 = .ok (.aload_n 0, 1) := by decide +kernel
theorem dX2_readsOrder_36 : decode cX2_readsOrder 36 = .ok (.getfield 9, 3) := by decide +kernel
theorem dX2_readsOrder_39 : decode cX2_readsOrder 39 = .ok (.invokevirtual 53, 3) := by decide +kernel
theorem dX2_readsOrder_42 : decode cX2_readsOrder 42 = .ok (.aload_n 0, 1) := by decide +kernel
theorem dX2_readsOrder_43 : decode cX2_readsOrder 43 = .ok (.getfield 9, 3) := by decide +kernel
theorem dX2_readsOrder_46 : decode cX2_readsOrder 46 = .ok (.getfield 29, 3) := by decide +kernel
theorem dX2_readsOrder_49 : decode cX2_readsOrder 49 = .ok (.istore_n 3, 1) := by decide +kernel
theorem dX2_readsOrder_50 : decode cX2_readsOrder 50 = .ok (.iload_n 3, 1) := by decide +kernel
theorem dX2_readsOrder_51 : decode cX2_readsOrder 51 = .ok (.bipush 112, 2) := by decide +kernel
theorem dX2_readsOrder_53 : decode cX2_readsOrder 53 = .ok (.if_icmp .eq 17, 3) := by decide +kernel
theorem dX2_readsOrder_56 : decode cX2_readsOrder 56 = .ok (.iload_n 3, 1) := by decide +kernel
theorem dX2_readsOrder_57 : decode cX2_readsOrder 57 = .ok (.bipush 115, 2) := by decide +kernel
theorem dX2_readsOrder_59 : decode cX2_readsOrder 59 = .ok (.if_icmp .eq 11, 3) := by decide +kernel
theorem dX2_readsOrder_62 : decode cX2_readsOrder 62 = .ok (.iload_n 3, 1) := by decide +kernel
theorem dX2_readsOrder_63 : decode cX2_readsOrder 63 = .ok (.bipush 98, 2) := by decide +kernel
theorem dX2_readsOrder_65 : decode cX2_readsOrder 65 = .ok (.if_icmp .eq 5, 3) := by decide +kernel
theorem dX2_readsOrder_68 : decode cX2_readsOrder 68 = .ok (.iconst 0, 1) := by decide +kernel
theorem dX2_readsOrder_69 : decode cX2_readsOrder 69 = .ok (.ireturn, 1) := by decide +kernel
theorem dX2_readsOrder_70 : decode cX2_readsOrder 70 = .ok (.aload_n 0, 1) := by decide +kernel
theorem dX2_readsOrder_71 : decode cX2_readsOrder 71 = .ok (.getfield 9, 3) := by decide +kernel
theorem dX2_readsOrder_74 : decode cX2_readsOrder 74 = .ok (.invokevirtual 53, 3) := by decide +kernel
theorem dX2_readsOrder_77 : decode cX2_readsOrder 77 = .ok (.iload_n 3, 1) := by decide +kernel
theorem dX2_readsOrder_78 : decode cX2_readsOrder 78 = .ok (.bipush 98, 2) := by decide +kernel
theorem dX2_readsOrder_80 : decode cX2_readsOrder 80 = .ok (.if_icmp .ne 8, 3) := by decide +kernel
theorem dX2_readsOrder_83 : decode cX2_readsOrder 83 = .ok (.bipush (-9), 2) := by decide +kernel
theorem dX2_readsOrder_85 : decode cX2_readsOrder 85 = .ok (.goto 10, 3) := by decide +kernel
theorem dX2_readsOrder_88 : decode cX2_readsOrder 88 = .ok (.aload_n 0, 1) := by decide +kernel
theorem dX2_readsOrder_89 : decode cX2_readsOrder 89 = .ok (.iconst 0, 1) := by decide +kernel
theorem dX2_readsOrder_90 : decode cX2_readsOrder 90 = .ok (.bipush 15, 2) := by decide +kernel
theorem dX2_readsOrder_92 : decode cX2_readsOrder 92 = .ok (.invokevirtual 56, 3) := by decide +kernel
theorem dX2_readsOrder_95 : decode cX2_readsOrder 95 = .ok (.istore 4, 2) := by decide +kernel
theorem dX2_readsOrder_97 : decode cX2_readsOrder 97 = .ok (.iload 4, 2) := by decide +kernel
theorem dX2_readsOrder_99 : decode cX2_readsOrder 99 = .ok (.iconst (-1), 1) := by decide +kernel
theorem dX2_readsOrder_100 : decode cX2_readsOrder 100 = .ok (.if_icmp .ne 5, 3) := by decide +kernel
theorem dX2_readsOrder_103 : decode cX2_readsOrder 103 = .ok (.iconst 0, 1) := by decide +kernel
theorem dX2_readsOrder_104 : decode cX2_readsOrder 104 = .ok (.ireturn, 1) := by decide +kernel
theorem dX2_readsOrder_105 : decode cX2_readsOrder 105 = .ok (.aload_n 0, 1) := by decide +kernel
theorem dX2_readsOrder_106 : decode cX2_readsOrder 106 = .ok (.iconst 0, 1) := by decide +kernel
theorem dX2_readsOrder_107 : decode cX2_readsOrder 107 = .ok (.iconst 3, 1) := by decide +kernel
theorem dX2_readsOrder_108 : decode cX2_readsOrder 108 = .ok (.invokevirtual 56, 3) := by decide +kernel
theorem dX2_readsOrder_111 : decode cX2_readsOrder 111 = .ok (.istore 5, 2) := by decide +kernel
theorem dX2_readsOrder_113 : decode cX2_readsOrder 113 = .ok (.iload 5, 2) := by decide +kernel
theorem dX2_readsOrder_115 : decode cX2_readsOrder 115 = .ok (.iconst (-1), 1) := by decide +kernel
theorem dX2_readsOrder_116 : decode cX2_readsOrder 116 = .ok (.if_icmp .ne 5, 3) := by decide +kernel
theorem dX2_readsOrder_119 : decode cX2_readsOrder 119 = .ok (.iconst 0, 1) := by decide +kernel
theorem dX2_readsOrder_120 : decode cX2_readsOrder 120 = .ok (.ireturn, 1) := by decide +kernel
theorem dX2_readsOrder_121 : decode cX2_readsOrder 121 = .ok (.aload_n 0, 1) := by decide +kernel
theorem dX2_readsOrder_122 : decode cX2_readsOrder 122 = .ok (.iconst 0, 1) := by decide +kernel
theorem dX2_readsOrder_123 : decode cX2_readsOrder 123 = .ok (.sipush 255, 3) := by decide +kernel
theorem dX2_readsOrder_126 : decode cX2_readsOrder 126 = .ok (.invokevirtual 56, 3) := by decide +kernel
theorem dX2_readsOrder_129 : decode cX2_readsOrder 129 = .ok (.istore 6, 2) := by decide +kernel
theorem dX2_readsOrder_131 : decode cX2_readsOrder 131 = .ok (.iload 6, 2) := by decide +kernel
theorem dX2_readsOrder_133 : decode cX2_readsOrder 133 = .ok (.iconst (-1), 1) := by decide +kernel
theorem dX2_readsOrder_134 : decode cX2_readsOrder 134 = .ok (.if_icmp .eq 10, 3) := by decide +kernel
theorem dX2_readsOrder_137 : decode cX2_readsOrder 137 = .ok (.aload_n 0, 1) := by decide +kernel
theorem dX2_readsOrder_138 : decode cX2_readsOrder 138 = .ok (.invokevirtual 60, 3) := by decide +kernel
theorem dX2_readsOrder_141 : decode cX2_readsOrder 141 = .ok (.ifCond .ne 5, 3) := by decide +kernel
theorem dX2_readsOrder_144 : decode cX2_readsOrder 144 = .ok (.iconst 0, 1) := by decide +kernel
theorem dX2_readsOrder_145 : decode cX2_readsOrder 145 = .ok (.ireturn, 1) := by decide +kernel
theorem dX2_readsOrder_146 : decode cX2_readsOrder 146 = .ok (.aload_n 1, 1) := by decide +kernel
theorem dX2_readsOrder_147 : decode cX2_readsOrder 147 = .ok (.iload_n 2, 1) := by decide +kernel
theorem dX2_readsOrder_148 : decode cX2_readsOrder 148 = .ok (.iload_n 3, 1) := by decide +kernel
theorem dX2_readsOrder_149 : decode cX2_readsOrder 149 = .ok (.iload 4, 2) := by decide +kernel
theorem dX2_readsOrder_151 : decode cX2_readsOrder 151 = .ok (.iload 5, 2) := by decide +kernel
theorem dX2_readsOrder_153 : decode cX2_readsOrder 153 = .ok (.iload 6, 2) := by decide +kernel
theorem dX2_readsOrder_155 : decode cX2_readsOrder 155 = .ok (.invokevirtual 89, 3) := by decide +kernel
theorem dX2_readsOrder_158 : decode cX2_readsOrder 158 = .ok (.iconst 1, 1) := by decide +kernel
theorem dX2_readsOrder_159 : decode cX2_readsOrder 159 = .ok (.ireturn, 1) := by decide +kernel
theorem dX2_takeNumber_0 : decode cX2_takeNumber 0 = .ok (.aload_n 0, 1) := by decide +kernel
theorem dX2_takeNumber_1 : decode cX2_takeNumber 1 = .ok (.getfield 9, 3) := by decide +kernel
theorem dX2_takeNumber_4 : decode cX2_takeNumber 4 = .ok (.getfield 29, 3) := by decide +kernel
theorem dX2_takeNumber_7 : decode cX2_takeNumber 7 = .ok (.sipush 256, 3) := by decide +kernel
theorem dX2_takeNumber_10 : decode cX2_takeNumber 10 = .ok (.if_icmp .ne 25, 3) := by decide +kernel
theorem dX2_takeNumber_13 : decode cX2_takeNumber 13 = .ok (.aload_n 0, 1) := by decide +kernel
theorem dX2_takeNumber_14 : decode cX2_takeNumber 14 = .ok (.getfield 9, 3) := by decide +kernel
theorem dX2_takeNumber_17 : decode cX2_takeNumber 17 = .ok (.getfield 93, 3) := by decide +kernel
theorem dX2_takeNumber_20 : decode cX2_takeNumber 20 = .ok (.iload_n 1, 1) := by decide +kernel
theorem dX2_takeNumber_21 : decode cX2_takeNumber 21 = .ok (.if_icmp .lt 14, 3) := by decide +kernel
theorem dX2_takeNumber_24 : decode cX2_takeNumber 24 = .ok (.aload_n 0, 1) := by decide +kernel
theorem dX2_takeNumber_25 : decode cX2_takeNumber 25 = .ok (.getfield 9, 3) := by decide +kernel
theorem dX2_takeNumber_28 : decode cX2_takeNumber 28 = .ok (.getfield 93, 3) := by decide +kernel
theorem dX2_takeNumber_31 : decode cX2_takeNumber 31 = .ok (.iload_n 2, 1) := by decide +kernel
theorem dX2_takeNumber_32 : decode cX2_takeNumber 32 = .ok (.if_icmp .le 5, 3) := by decide +kernel
theorem dX2_takeNumber_35 : decode cX2_takeNumber 35 = .ok (.iconst (-1), 1) := by decide +kernel
theorem dX2_takeNumber_36 : decode cX2_takeNumber 36 = .ok (.ireturn, 1) := by decide +kernel
theorem dX2_takeNumber_37 : decode cX2_takeNumber 37 = .ok (.aload_n 0, 1) := by decide +kernel
theorem dX2_takeNumber_38 : decode cX2_takeNumber 38 = .ok (.getfield 9, 3) := by decide +kernel
theorem dX2_takeNumber_41 : decode cX2_takeNumber 41 = .ok (.getfield 93, 3) := by decide +kernel
theorem dX2_takeNumber_44 : decode cX2_takeNumber 44 = .ok (.istore_n 3, 1) := by decide +kernel
theorem dX2_takeNumber_45 : decode cX2_takeNumber 45 = .ok (.aload_n 0, 1) := by decide +kernel
theorem dX2_takeNumber_46 : decode cX2_takeNumber 46 = .ok (.getfield 9, 3) := by decide +kernel
theorem dX2_takeNumber_49 : decode cX2_takeNumber 49 = .ok (.invokevirtual 53, 3) := by decide +kernel
theorem dX2_takeNumber_52 : decode cX2_takeNumber 52 = .ok (.iload_n 3, 1) := by decide +kernel
theorem dX2_takeNumber_53 : decode cX2_takeNumber 53 = .ok (.ireturn, 1) := by decide +kernel
theorem dX2_takesEnd_0 : decode cX2_takesEnd 0 = .ok (.aload_n 0, 1) := by decide +kernel
theorem dX2_takesEnd_1 : decode cX2_takesEnd 1 = .ok (.getfield 9, 3) := by decide +kernel
theorem dX2_takesEnd_4 : decode cX2_takesEnd 4 = .ok (.getfield 29, 3) := by decide +kernel
theorem dX2_takesEnd_7 : decode cX2_takesEnd 7 = .ok (.bipush 59, 2) := by decide +kernel
theorem dX2_takesEnd_9 : decode cX2_takesEnd 9 = .ok (.if_icmp .eq 5, 3) := by decide +kernel
theorem dX2_takesEnd_12 : decode cX2_takesEnd 12 = .ok (.iconst 0, 1) := by decide +kernel
theorem dX2_takesEnd_13 : decode cX2_takesEnd 13 = .ok (.ireturn, 1) := by decide +kernel
theorem dX2_takesEnd_14 : decode cX2_takesEnd 14 = .ok (.aload_n 0, 1) := by decide +kernel
theorem dX2_takesEnd_15 : decode cX2_takesEnd 15 = .ok (.getfield 9, 3) := by decide +kernel
theorem dX2_takesEnd_18 : decode cX2_takesEnd 18 = .ok (.invokevirtual 53, 3) := by decide +kernel
theorem dX2_takesEnd_21 : decode cX2_takesEnd 21 = .ok (.iconst 1, 1) := by decide +kernel
theorem dX2_takesEnd_22 : decode cX2_takesEnd 22 = .ok (.ireturn, 1) := by decide +kernel
theorem dX3_init_0 : decode cX3_init 0 = .ok (.aload_n 0, 1) := by decide +kernel
theorem dX3_init_1 : decode cX3_init 1 = .ok (.invokespecial 3, 3) := by decide +kernel
theorem dX3_init_4 : decode cX3_init 4 = .ok (.aload_n 0, 1) := by decide +kernel
theorem dX3_init_5 : decode cX3_init 5 = .ok (.bipush 54, 2) := by decide +kernel
theorem dX3_init_7 : decode cX3_init 7 = .ok (.newarray .int, 2) := by decide +kernel
theorem dX3_init_9 : decode cX3_init 9 = .ok (.putfield 9, 3) := by decide +kernel
theorem dX3_init_12 : decode cX3_init 12 = .ok (.aload_n 0, 1) := by decide +kernel
theorem dX3_init_13 : decode cX3_init 13 = .ok (.bipush 14, 2) := by decide +kernel
theorem dX3_init_15 : decode cX3_init 15 = .ok (.newarray .int, 2) := by decide +kernel
theorem dX3_init_17 : decode cX3_init 17 = .ok (.putfield 15, 3) := by decide +kernel
theorem dX3_init_20 : decode cX3_init 20 = .ok (.aload_n 0, 1) := by decide +kernel
theorem dX3_init_21 : decode cX3_init 21 = .ok (.bipush 20, 2) := by decide +kernel
theorem dX3_init_23 : decode cX3_init 23 = .ok (.newarray .int, 2) := by decide +kernel
theorem dX3_init_25 : decode cX3_init 25 = .ok (.putfield 18, 3) := by decide +kernel
theorem dX3_init_28 : decode cX3_init 28 = .ok (.aload_n 0, 1) := by decide +kernel
theorem dX3_init_29 : decode cX3_init 29 = .ok (.bipush 8, 2) := by decide +kernel
theorem dX3_init_31 : decode cX3_init 31 = .ok (.newarray .int, 2) := by decide +kernel
theorem dX3_init_33 : decode cX3_init 33 = .ok (.putfield 21, 3) := by decide +kernel
theorem dX3_init_36 : decode cX3_init 36 = .ok (.aload_n 0, 1) := by decide +kernel
theorem dX3_init_37 : decode cX3_init 37 = .ok (.iconst 2, 1) := by decide +kernel
theorem dX3_init_38 : decode cX3_init 38 = .ok (.newarray .int, 2) := by decide +kernel
theorem dX3_init_40 : decode cX3_init 40 = .ok (.putfield 24, 3) := by decide +kernel
theorem dX3_init_43 : decode cX3_init 43 = .ok (.aload_n 0, 1) := by decide +kernel
theorem dX3_init_44 : decode cX3_init 44 = .ok (.invokevirtual 27, 3) := by decide +kernel
theorem dX3_init_47 : decode cX3_init 47 = .ok (.aload_n 0, 1) := by decide +kernel
theorem dX3_init_48 : decode cX3_init 48 = .ok (.iconst 1, 1) := by decide +kernel
theorem dX3_init_49 : decode cX3_init 49 = .ok (.iconst 0, 1) := by decide +kernel
theorem dX3_init_50 : decode cX3_init 50 = .ok (.invokevirtual 30, 3) := by decide +kernel
theorem dX3_init_53 : decode cX3_init 53 = .ok (.return_, 1) := by decide +kernel
theorem dX3_becomeEmpty_0 : decode cX3_becomeEmpty 0 = .ok (.aload_n 0, 1) := by decide +kernel
theorem dX3_becomeEmpty_1 : decode cX3_becomeEmpty 1 = .ok (.iconst 0, 1) := by decide +kernel
theorem dX3_becomeEmpty_2 : decode cX3_becomeEmpty 2 = .ok (.putfield 34, 3) := by decide +kernel
theorem dX3_becomeEmpty_5 : decode cX3_becomeEmpty 5 = .ok (.aload_n 0, 1) := by decide +kernel
theorem dX3_becomeEmpty_6 : decode cX3_becomeEmpty 6 = .ok (.iconst 0, 1) := by decide +kernel
theorem dX3_becomeEmpty_7 : decode cX3_becomeEmpty 7 = .ok (.putfield 38, 3) := by decide +kernel
theorem dX3_becomeEmpty_10 : decode cX3_becomeEmpty 10 = .ok (.aload_n 0, 1) := by decide +kernel
theorem dX3_becomeEmpty_11 : decode cX3_becomeEmpty 11 = .ok (.iconst 3, 1) := by decide +kernel
theorem dX3_becomeEmpty_12 : decode cX3_becomeEmpty 12 = .ok (.putfield 42, 3) := by decide +kernel
theorem dX3_becomeEmpty_15 : decode cX3_becomeEmpty 15 = .ok (.aload_n 0, 1) := by decide +kernel
theorem dX3_becomeEmpty_16 : decode cX3_becomeEmpty 16 = .ok (.iconst 0, 1) := by decide +kernel
theorem dX3_becomeEmpty_17 : decode cX3_becomeEmpty 17 = .ok (.putfield 45, 3) := by decide +kernel
theorem dX3_becomeEmpty_20 : decode cX3_becomeEmpty 20 = .ok (.aload_n 0, 1) := by decide +kernel
theorem dX3_becomeEmpty_21 : decode cX3_becomeEmpty 21 = .ok (.iconst 0, 1) := by decide +kernel
theorem dX3_becomeEmpty_22 : decode cX3_becomeEmpty 22 = .ok (.putfield 48, 3) := by decide +kernel
theorem dX3_becomeEmpty_25 : decode cX3_becomeEmpty 25 = .ok (.aload_n 0, 1) := by decide +kernel
theorem dX3_becomeEmpty_26 : decode cX3_becomeEmpty 26 = .ok (.invokevirtual 51, 3) := by decide +kernel
theorem dX3_becomeEmpty_29 : decode cX3_becomeEmpty 29 = .ok (.return_, 1) := by decide +kernel
theorem dX3_dropFrame_0 : decode cX3_dropFrame 0 = .ok (.aload_n 0, 1) := by decide +kernel
theorem dX3_dropFrame_1 : decode cX3_dropFrame 1 = .ok (.iconst 0, 1) := by decide +kernel
theorem dX3_dropFrame_2 : decode cX3_dropFrame 2 = .ok (.putfield 54, 3) := by decide +kernel
theorem dX3_dropFrame_5 : decode cX3_dropFrame 5 = .ok (.aload_n 0, 1) := by decide +kernel
theorem dX3_dropFrame_6 : decode cX3_dropFrame 6 = .ok (.iconst 0, 1) := by decide +kernel
theorem dX3_dropFrame_7 : decode cX3_dropFrame 7 = .ok (.putfield 57, 3) := by decide +kernel
theorem dX3_dropFrame_10 : decode cX3_dropFrame 10 = .ok (.aload_n 0, 1) := by decide +kernel
theorem dX3_dropFrame_11 : decode cX3_dropFrame 11 = .ok (.getfield 24, 3) := by decide +kernel
theorem dX3_dropFrame_14 : decode cX3_dropFrame 14 = .ok (.bipush (-9), 2) := by decide +kernel
theorem dX3_dropFrame_16 : decode cX3_dropFrame 16 = .ok (.invokestatic 60, 3) := by decide +kernel
theorem dX3_dropFrame_19 : decode cX3_dropFrame 19 = .ok (.return_, 1) := by decide +kernel
theorem dX3_copyFrom_0 : decode cX3_copyFrom 0 = .ok (.aload_n 1, 1) := by decide +kernel
theorem dX3_copyFrom_1 : decode cX3_copyFrom 1 = .ok (.getfield 9, 3) := by decide +kernel
theorem dX3_copyFrom_4 : decode cX3_copyFrom 4 = .ok (.iconst 0, 1) := by decide +kernel
theorem dX3_copyFrom_5 : decode cX3_copyFrom 5 = .ok (.aload_n 0, 1) := by decide +kernel
theorem dX3_copyFrom_6 : decode cX3_copyFrom 6 = .ok (.getfield 9, 3) := by decide +kernel
theorem dX3_copyFrom_9 : decode cX3_copyFrom 9 = .ok (.iconst 0, 1) := by decide +kernel
theorem dX3_copyFrom_10 : decode cX3_copyFrom 10 = .ok (.aload_n 0, 1) := by decide +kernel
theorem dX3_copyFrom_11 : decode cX3_copyFrom 11 = .ok (.getfield 9, 3) := by decide +kernel
theorem dX3_copyFrom_14 : decode cX3_copyFrom 14 = .ok (.arraylength, 1) := by decide +kernel
theorem dX3_copyFrom_15 : decode cX3_copyFrom 15 = .ok (.invokestatic 66, 3) := by decide +kernel
theorem dX3_copyFrom_18 : decode cX3_copyFrom 18 = .ok (.aload_n 1, 1) := by decide +kernel
theorem dX3_copyFrom_19 : decode cX3_copyFrom 19 = .ok (.getfield 15, 3) := by decide +kernel
theorem dX3_copyFrom_22 : decode cX3_copyFrom 22 = .ok (.iconst 0, 1) := by decide +kernel
theorem dX3_copyFrom_23 : decode cX3_copyFrom 23 = .ok (.aload_n 0, 1) := by decide +kernel
theorem dX3_copyFrom_24 : decode cX3_copyFrom 24 = .ok (.getfield 15, 3) := by decide +kernel
theorem dX3_copyFrom_27 : decode cX3_copyFrom 27 = .ok (.iconst 0, 1) := by decide +kernel
theorem dX3_copyFrom_28 : decode cX3_copyFrom 28 = .ok (.aload_n 0, 1) := by decide +kernel
theorem dX3_copyFrom_29 : decode cX3_copyFrom 29 = .ok (.getfield 15, 3) := by decide +kernel
theorem dX3_copyFrom_32 : decode cX3_copyFrom 32 = .ok (.arraylength, 1) := by decide +kernel
theorem dX3_copyFrom_33 : decode cX3_copyFrom 33 = .ok (.invokestatic 66, 3) := by decide +kernel
theorem dX3_copyFrom_36 : decode cX3_copyFrom 36 = .ok (.aload_n 1, 1) := by decide +kernel
theorem dX3_copyFrom_37 : decode cX3_copyFrom 37 = .ok (.getfield 18, 3) := by decide +kernel
theorem dX3_copyFrom_40 : decode cX3_copyFrom 40 = .ok (.iconst 0, 1) := by decide +kernel
theorem dX3_copyFrom_41 : decode cX3_copyFrom 41 = .ok (.aload_n 0, 1) := by decide +kernel
theorem dX3_copyFrom_42 : decode cX3_copyFrom 42 = .ok (.getfield 18, 3) := by decide +kernel
theorem dX3_copyFrom_45 : decode cX3_copyFrom 45 = .ok (.iconst 0, 1) := by decide +kernel
theorem dX3_copyFrom_46 : decode cX3_copyFrom 46 = .ok (.aload_n 0, 1) := by decide +kernel
theorem dX3_copyFrom_47 : decode cX3_copyFrom 47 = .ok (.getfield 18, 3) := by decide +kernel
theorem dX3_copyFrom_50 : decode cX3_copyFrom 50 = .ok (.arraylength, 1) := by decide +kernel
theorem dX3_copyFrom_51 : decode cX3_copyFrom 51 = .ok (.invokestatic 66, 3) := by decide +kernel
theorem dX3_copyFrom_54 : decode cX3_copyFrom 54 = .ok (.aload_n 1, 1) := by decide +kernel
theorem dX3_copyFrom_55 : decode cX3_copyFrom 55 = .ok (.getfield 21, 3) := by decide +kernel
theorem dX3_copyFrom_58 : decode cX3_copyFrom 58 = .ok (.iconst 0, 1) := by decide +kernel
theorem dX3_copyFrom_59 : decode cX3_copyFrom 59 = .ok (.aload_n 0, 1) := by decide +kernel
theorem dX3_copyFrom_60 : decode cX3_copyFrom 60 = .ok (.getfield 21, 3) := by decide +kernel
theorem dX3_copyFrom_63 : decode cX3_copyFrom 63 = .ok (.iconst 0, 1) := by decide +kernel
theorem dX3_copyFrom_64 : decode cX3_copyFrom 64 = .ok (.aload_n 0, 1) := by decide +kernel
theorem dX3_copyFrom_65 : decode cX3_copyFrom 65 = .ok (.getfield 21, 3) := by decide +kernel
theorem dX3_copyFrom_68 : decode cX3_copyFrom 68 = .ok (.arraylength, 1) := by decide +kernel
theorem dX3_copyFrom_69 : decode cX3_copyFrom 69 = .ok (.invokestatic 66, 3) := by decide +kernel
theorem dX3_copyFrom_72 : decode cX3_copyFrom 72 = .ok (.aload_n 1, 1) := by decide +kernel
theorem dX3_copyFrom_73 : decode cX3_copyFrom 73 = .ok (.getfield 24, 3) := by decide +kernel
theorem dX3_copyFrom_76 : decode cX3_copyFrom 76 = .ok (.iconst 0, 1) := by decide +kernel
theorem dX3_copyFrom_77 : decode cX3_copyFrom 77 = .ok (.aload_n 0, 1) := by decide +kernel
theorem dX3_copyFrom_78 : decode cX3_copyFrom 78 = .ok (.getfield 24, 3) := by decide +kernel
theorem dX3_copyFrom_81 : decode cX3_copyFrom 81 = .ok (.iconst 0, 1) := by decide +kernel
theorem dX3_copyFrom_82 : decode cX3_copyFrom 82 = .ok (.aload_n 0, 1) := by decide +kernel
theorem dX3_copyFrom_83 : decode cX3_copyFrom 83 = .ok (.getfield 24, 3) := by decide +kernel
theorem dX3_copyFrom_86 : decode cX3_copyFrom 86 = .ok (.arraylength, 1) := by decide +kernel
theorem dX3_copyFrom_87 : decode cX3_copyFrom 87 = .ok (.invokestatic 66, 3) := by decide +kernel
theorem dX3_copyFrom_90 : decode cX3_copyFrom 90 = .ok (.aload_n 0, 1) := by decide +kernel
theorem dX3_copyFrom_91 : decode cX3_copyFrom 91 = .ok (.aload_n 1, 1) := by decide +kernel
theorem dX3_copyFrom_92 : decode cX3_copyFrom 92 = .ok (.getfield 34, 3) := by decide +kernel
theorem dX3_copyFrom_95 : decode cX3_copyFrom 95 = .ok (.putfield 34, 3) := by decide +kernel
theorem dX3_copyFrom_98 : decode cX3_copyFrom 98 = .ok (.aload_n 0, 1) := by decide +kernel
theorem dX3_copyFrom_99 : decode cX3_copyFrom 99 = .ok (.aload_n 1, 1) := by decide +kernel
theorem dX3_copyFrom_100 : decode cX3_copyFrom 100 = .ok (.getfield 54, 3) := by decide +kernel
theorem dX3_copyFrom_103 : decode cX3_copyFrom 103 = .ok (.putfield 54, 3) := by decide +kernel
theorem dX3_copyFrom_106 : decode cX3_copyFrom 106 = .ok (.aload_n 0, 1) := by decide +kernel
theorem dX3_copyFrom_107 : decode cX3_copyFrom 107 = .ok (.aload_n 1, 1) := by decide +kernel
theorem dX3_copyFrom_108 : decode cX3_copyFrom 108 = .ok (.getfield 42, 3) := by decide +kernel
theorem dX3_copyFrom_111 : decode cX3_copyFrom 111 = .ok (.putfield 42, 3) := by decide +kernel
theorem dX3_copyFrom_114 : decode cX3_copyFrom 114 = .ok (.aload_n 0, 1) := by decide +kernel
theorem dX3_copyFrom_115 : decode cX3_copyFrom 115 = .ok (.aload_n 1, 1) := by decide +kernel
theorem dX3_copyFrom_116 : decode cX3_copyFrom 116 = .ok (.getfield 45, 3) := by decide +kernel
theorem dX3_copyFrom_119 : decode cX3_copyFrom 119 = .ok (.putfield 45, 3) := by decide +kernel
theorem dX3_copyFrom_122 : decode cX3_copyFrom 122 = .ok (.aload_n 0, 1) := by decide +kernel
theorem dX3_copyFrom_123 : decode cX3_copyFrom 123 = .ok (.aload_n 1, 1) := by decide +kernel
theorem dX3_copyFrom_124 : decode cX3_copyFrom 124 = .ok (.getfield 38, 3) := by decide +kernel
theorem dX3_copyFrom_127 : decode cX3_copyFrom 127 = .ok (.putfield 38, 3) := by decide +kernel
theorem dX3_copyFrom_130 : decode cX3_copyFrom 130 = .ok (.aload_n 0, 1) := by decide +kernel
theorem dX3_copyFrom_131 : decode cX3_copyFrom 131 = .ok (.aload_n 1, 1) := by decide +kernel
theorem dX3_copyFrom_132 : decode cX3_copyFrom 132 = .ok (.getfield 57, 3) := by decide +kernel
theorem dX3_copyFrom_135 : decode cX3_copyFrom 135 = .ok (.putfield 57, 3) := by decide +kernel
theorem dX3_copyFrom_138 : decode cX3_copyFrom 138 = .ok (.aload_n 0, 1) := by decide +kernel
theorem dX3_copyFrom_139 : decode cX3_copyFrom 139 = .ok (.aload_n 1, 1) := by decide +kernel
theorem dX3_copyFrom_140 : decode cX3_copyFrom 140 = .ok (.getfield 48, 3) := by decide +kernel
theorem dX3_copyFrom_143 : decode cX3_copyFrom 143 = .ok (.putfield 48, 3) := by decide +kernel
theorem dX3_copyFrom_146 : decode cX3_copyFrom 146 = .ok (.return_, 1) := by decide +kernel
theorem dX3_takesDrive_0 : decode cX3_takesDrive 0 = .ok (.aload_n 0, 1) := by decide +kernel
theorem dX3_takesDrive_1 : decode cX3_takesDrive 1 = .ok (.getfield 38, 3) := by decide +kernel
theorem dX3_takesDrive_4 : decode cX3_takesDrive 4 = .ok (.ifCond .ne 16, 3) := by decide +kernel
theorem dX3_takesDrive_7 : decode cX3_takesDrive 7 = .ok (.aload_n 0, 1) := by decide +kernel
theorem dX3_takesDrive_8 : decode cX3_takesDrive 8 = .ok (.getfield 34, 3) := by decide +kernel
theorem dX3_takesDrive_11 : decode cX3_takesDrive 11 = .ok (.bipush 6, 2) := by decide +kernel
theorem dX3_takesDrive_13 : decode cX3_takesDrive 13 = .ok (.if_icmp .ge 7, 3) := by decide +kernel
theorem dX3_takesDrive_16 : decode cX3_takesDrive 16 = .ok (.iconst 1, 1) := by decide +kernel
theorem dX3_takesDrive_17 : decode cX3_takesDrive 17 = .ok (.goto 4, 3) := by decide +kernel
theorem dX3_takesDrive_20 : decode cX3_takesDrive 20 = .ok (.iconst 0, 1) := by decide +kernel
theorem dX3_takesDrive_21 : decode cX3_takesDrive 21 = .ok (.ireturn, 1) := by decide +kernel
theorem dX3_addDrive_0 : decode cX3_addDrive 0 = .ok (.aload_n 0, 1) := by decide +kernel
theorem dX3_addDrive_1 : decode cX3_addDrive 1 = .ok (.invokevirtual 72, 3) := by decide +kernel
theorem dX3_addDrive_4 : decode cX3_addDrive 4 = .ok (.ifCond .eq 52, 3) := by decide +kernel
theorem dX3_addDrive_7 : decode cX3_addDrive 7 = .ok (.aload_n 0, 1) := by decide +kernel
theorem dX3_addDrive_8 : decode cX3_addDrive 8 = .ok (.getfield 34, 3) := by decide +kernel
theorem dX3_addDrive_11 : decode cX3_addDrive 11 = .ok (.bipush 9, 2) := by decide +kernel
theorem dX3_addDrive_13 : decode cX3_addDrive 13 = .ok (.imul, 1) := by decide +kernel
theorem dX3_addDrive_14 : decode cX3_addDrive 14 = .ok (.istore_n 3, 1) := by decide +kernel
theorem dX3_addDrive_15 : decode cX3_addDrive 15 = .ok (.aload_n 0, 1) := by decide +kernel
theorem dX3_addDrive_16 : decode cX3_addDrive 16 = .ok (.getfield 9, 3) := by decide +kernel
theorem dX3_addDrive_19 : decode cX3_addDrive 19 = .ok (.iload_n 3, 1) := by decide +kernel
theorem dX3_addDrive_20 : decode cX3_addDrive 20 = .ok (.iload_n 3, 1) := by decide +kernel
theorem dX3_addDrive_21 : decode cX3_addDrive 21 = .ok (.bipush 9, 2) := by decide +kernel
theorem dX3_addDrive_23 : decode cX3_addDrive 23 = .ok (.iadd, 1) := by decide +kernel
theorem dX3_addDrive_24 : decode cX3_addDrive 24 = .ok (.iconst 0, 1) := by decide +kernel
theorem dX3_addDrive_25 : decode cX3_addDrive 25 = .ok (.invokestatic 76, 3) := by decide +kernel
theorem dX3_addDrive_28 : decode cX3_addDrive 28 = .ok (.aload_n 0, 1) := by decide +kernel
theorem dX3_addDrive_29 : decode cX3_addDrive 29 = .ok (.getfield 9, 3) := by decide +kernel
theorem dX3_addDrive_32 : decode cX3_addDrive 32 = .ok (.iload_n 3, 1) := by decide +kernel
theorem dX3_addDrive_33 : decode cX3_addDrive 33 = .ok (.iconst 0, 1) := by decide +kernel
theorem dX3_addDrive_34 : decode cX3_addDrive 34 = .ok (.iadd, 1) := by decide +kernel
theorem dX3_addDrive_35 : decode cX3_addDrive 35 = .ok (.iload_n 2, 1) := by decide +kernel
theorem dX3_addDrive_36 : decode cX3_addDrive 36 = .ok (.iastore, 1) := by decide +kernel
theorem dX3_addDrive_37 : decode cX3_addDrive 37 = .ok (.aload_n 0, 1) := by decide +kernel
theorem dX3_addDrive_38 : decode cX3_addDrive 38 = .ok (.aload_n 0, 1) := by decide +kernel
theorem dX3_addDrive_39 : decode cX3_addDrive 39 = .ok (.getfield 34, 3) := by decide +kernel
theorem dX3_addDrive_42 : decode cX3_addDrive 42 = .ok (.iload_n 1, 1) := by decide +kernel
theorem dX3_addDrive_43 : decode cX3_addDrive 43 = .ok (.invokevirtual 79, 3) := by decide +kernel
theorem dX3_addDrive_46 : decode cX3_addDrive 46 = .ok (.aload_n 0, 1) := by decide +kernel
theorem dX3_addDrive_47 : decode cX3_addDrive 47 = .ok (.dup, 1) := by decide +kernel
theorem dX3_addDrive_48 : decode cX3_addDrive 48 = .ok (.getfield 34, 3) := by decide +kernel
theorem dX3_addDrive_51 : decode cX3_addDrive 51 = .ok (.iconst 1, 1) := by decide +kernel
theorem dX3_addDrive_52 : decode cX3_addDrive 52 = .ok (.iadd, 1) := by decide +kernel
theorem dX3_addDrive_53 : decode cX3_addDrive 53 = .ok (.putfield 34, 3) := by decide +kernel
theorem dX3_addDrive_56 : decode cX3_addDrive 56 = .ok (.return_, 1) := by decide +kernel
theorem dX3_takesClosing_0 : decode cX3_takesClosing 0 = .ok (.aload_n 0, 1) := by decide +kernel
theorem dX3_takesClosing_1 : decode cX3_takesClosing 1 = .ok (.getfield 38, 3) := by decide +kernel
theorem dX3_takesClosing_4 : decode cX3_takesClosing 4 = .ok (.ifCond .ne 14, 3) := by decide +kernel
theorem dX3_takesClosing_7 : decode cX3_takesClosing 7 = .ok (.aload_n 0, 1) := by decide +kernel
theorem dX3_takesClosing_8 : decode cX3_takesClosing 8 = .ok (.getfield 34, 3) := by decide +kernel
theorem dX3_takesClosing_11 : decode cX3_takesClosing 11 = .ok (.ifCond .le 7, 3) := by decide +kernel
theorem dX3_takesClosing_14 : decode cX3_takesClosing 14 = .ok (.iconst 1, 1) := by decide +kernel
theorem dX3_takesClosing_15 : decode cX3_takesClosing 15 = .ok (.goto 4, 3) := by decide +kernel
theorem dX3_takesClosing_18 : decode cX3_takesClosing 18 = .ok (.iconst 0, 1) := by decide +kernel
theorem dX3_takesClosing_19 : decode cX3_takesClosing 19 = .ok (.ireturn, 1) := by decide +kernel
theorem dX3_closeBy_0 : decode cX3_closeBy 0 = .ok (.aload_n 0, 1) := by decide +kernel
theorem dX3_closeBy_1 : decode cX3_closeBy 1 = .ok (.invokevirtual 82, 3) := by decide +kernel
theorem dX3_closeBy_4 : decode cX3_closeBy 4 = .ok (.ifCond .eq 17, 3) := by decide +kernel
theorem dX3_closeBy_7 : decode cX3_closeBy 7 = .ok (.aload_n 0, 1) := by decide +kernel
theorem dX3_closeBy_8 : decode cX3_closeBy 8 = .ok (.aload_n 0, 1) := by decide +kernel
theorem dX3_closeBy_9 : decode cX3_closeBy 9 = .ok (.getfield 34, 3) := by decide +kernel
theorem dX3_closeBy_12 : decode cX3_closeBy 12 = .ok (.iload_n 1, 1) := by decide +kernel
theorem dX3_closeBy_13 : decode cX3_closeBy 13 = .ok (.invokevirtual 79, 3) := by decide +kernel
theorem dX3_closeBy_16 : decode cX3_closeBy 16 = .ok (.aload_n 0, 1) := by decide +kernel
theorem dX3_closeBy_17 : decode cX3_closeBy 17 = .ok (.iconst 1, 1) := by decide +kernel
theorem dX3_closeBy_18 : decode cX3_closeBy 18 = .ok (.putfield 38, 3) := by decide +kernel
theorem dX3_closeBy_21 : decode cX3_closeBy 21 = .ok (.return_, 1) := by decide +kernel
theorem dX3_putNewLink_0 : decode cX3_putNewLink 0 = .ok (.aload_n 0, 1) := by decide +kernel
theorem dX3_putNewLink_1 : decode cX3_putNewLink 1 = .ok (.iload_n 1, 1) := by decide +kernel
theorem dX3_putNewLink_2 : decode cX3_putNewLink 2 = .ok (.iconst 0, 1) := by decide +kernel
theorem dX3_putNewLink_3 : decode cX3_putNewLink 3 = .ok (.iload_n 2, 1) := by decide +kernel
theorem dX3_putNewLink_4 : decode cX3_putNewLink 4 = .ok (.invokevirtual 85, 3) := by decide +kernel
theorem dX3_putNewLink_7 : decode cX3_putNewLink 7 = .ok (.aload_n 0, 1) := by decide +kernel
theorem dX3_putNewLink_8 : decode cX3_putNewLink 8 = .ok (.iload_n 1, 1) := by decide +kernel
theorem dX3_putNewLink_9 : decode cX3_putNewLink 9 = .ok (.iconst 1, 1) := by decide +kernel
theorem dX3_putNewLink_10 : decode cX3_putNewLink 10 = .ok (.iconst 0, 1) := by decide +kernel
theorem dX3_putNewLink_11 : decode cX3_putNewLink 11 = .ok (.invokevirtual 85, 3) := by decide +kernel
theorem dX3_putNewLink_14 : decode cX3_putNewLink 14 = .ok (.return_, 1) := by decide +kernel
theorem dX3_takesOrder_0 : decode cX3_takesOrder 0 = .ok (.aload_n 0, 1) := by decide +kernel
theorem dX3_takesOrder_1 : decode cX3_takesOrder 1 = .ok (.getfield 54, 3) := by decide +kernel
theorem dX3_takesOrder_4 : decode cX3_takesOrder 4 = .ok (.iconst 4, 1) := by decide +kernel
theorem dX3_takesOrder_5 : decode cX3_takesOrder 5 = .ok (.if_icmp .ge 7, 3) := by decide +kernel
theorem dX3_takesOrder_8 : decode cX3_takesOrder 8 = .ok (.iconst 1, 1) := by decide +kernel
theorem dX3_takesOrder_9 : decode cX3_takesOrder 9 = .ok (.goto 4, 3) := by decide +kernel
theorem dX3_takesOrder_12 : decode cX3_takesOrder 12 = .ok (.iconst 0, 1) := by decide +kernel
theorem dX3_takesOrder_13 : decode cX3_takesOrder 13 = .ok (.ireturn, 1) := by decide +kernel
theorem dX3_addOrder_0 : decode cX3_addOrder 0 = .ok (.aload_n 0, 1) := by decide +kernel
theorem dX3_addOrder_1 : decode cX3_addOrder 1 = .ok (.invokevirtual 89, 3) := by decide +kernel
theorem dX3_addOrder_4 : decode cX3_addOrder 4 = .ok (.ifCond .eq 73, 3) := by decide +kernel
theorem dX3_addOrder_7 : decode cX3_addOrder 7 = .ok (.aload_n 0, 1) := by decide +kernel
theorem dX3_addOrder_8 : decode cX3_addOrder 8 = .ok (.getfield 54, 3) := by decide +kernel
theorem dX3_addOrder_11 : decode cX3_addOrder 11 = .ok (.iconst 5, 1) := by decide +kernel
theorem dX3_addOrder_12 : decode cX3_addOrder 12 = .ok (.imul, 1) := by decide +kernel
theorem dX3_addOrder_13 : decode cX3_addOrder 13 = .ok (.istore 6, 2) := by decide +kernel
theorem dX3_addOrder_15 : decode cX3_addOrder 15 = .ok (.aload_n 0, 1) := by decide +kernel
theorem dX3_addOrder_16 : decode cX3_addOrder 16 = .ok (.getfield 18, 3) := by decide +kernel
theorem dX3_addOrder_19 : decode cX3_addOrder 19 = .ok (.iload 6, 2) := by decide +kernel
theorem dX3_addOrder_21 : decode cX3_addOrder 21 = .ok (.iconst 0, 1) := by decide +kernel
theorem dX3_addOrder_22 : decode cX3_addOrder 22 = .ok (.iadd, 1) := by decide +kernel
theorem dX3_addOrder_23 : decode cX3_addOrder 23 = .ok (.iload_n 1, 1) := by decide +kernel
theorem dX3_addOrder_24 : decode cX3_addOrder 24 = .ok (.iastore, 1) := by decide +kernel
theorem dX3_addOrder_25 : decode cX3_addOrder 25 = .ok (.aload_n 0, 1) := by decide +kernel
theorem dX3_addOrder_26 : decode cX3_addOrder 26 = .ok (.getfield 18, 3) := by decide +kernel
theorem dX3_addOrder_29 : decode cX3_addOrder 29 = .ok (.iload 6, 2) := by decide +kernel
theorem dX3_addOrder_31 : decode cX3_addOrder 31 = .ok (.iconst 1, 1) := by decide +kernel
theorem dX3_addOrder_32 : decode cX3_addOrder 32 = .ok (.iadd, 1) := by decide +kernel
theorem dX3_addOrder_33 : decode cX3_addOrder 33 = .ok (.iload_n 2, 1) := by decide +kernel
theorem dX3_addOrder_34 : decode cX3_addOrder 34 = .ok (.iastore, 1) := by decide +kernel
theorem dX3_addOrder_35 : decode cX3_addOrder 35 = .ok (.aload_n 0, 1) := by decide +kernel
theorem dX3_addOrder_36 : decode cX3_addOrder 36 = .ok (.getfield 18, 3) := by decide +kernel
theorem dX3_addOrder_39 : decode cX3_addOrder 39 = .ok (.iload 6, 2) := by decide +kernel
theorem dX3_addOrder_41 : decode cX3_addOrder 41 = .ok (.iconst 2, 1) := by decide +kernel
theorem dX3_addOrder_42 : decode cX3_addOrder 42 = .ok (.iadd, 1) := by decide +kernel
theorem dX3_addOrder_43 : decode cX3_addOrder 43 = .ok (.iload_n 3, 1) := by decide +kernel
theorem dX3_addOrder_44 : decode cX3_addOrder 44 = .ok (.iastore, 1) := by decide +kernel
theorem dX3_addOrder_45 : decode cX3_addOrder 45 = .ok (.aload_n 0, 1) := by decide +kernel
theorem dX3_addOrder_46 : decode cX3_addOrder 46 = .ok (.getfield 18, 3) := by decide +kernel
theorem dX3_addOrder_49 : decode cX3_addOrder 49 = .ok (.iload 6, 2) := by decide +kernel
theorem dX3_addOrder_51 : decode cX3_addOrder 51 = .ok (.iconst 3, 1) := by decide +kernel
theorem dX3_addOrder_52 : decode cX3_addOrder 52 = .ok (.iadd, 1) := by decide +kernel
theorem dX3_addOrder_53 : decode cX3_addOrder 53 = .ok (.iload 4, 2) := by decide +kernel
theorem dX3_addOrder_55 : decode cX3_addOrder 55 = .ok (.iastore, 1) := by decide +kernel
theorem dX3_addOrder_56 : decode cX3_addOrder 56 = .ok (.aload_n 0, 1) := by decide +kernel
theorem dX3_addOrder_57 : decode cX3_addOrder 57 = .ok (.getfield 18, 3) := by decide +kernel
theorem dX3_addOrder_60 : decode cX3_addOrder 60 = .ok (.iload 6, 2) := by decide +kernel
theorem dX3_addOrder_62 : decode cX3_addOrder 62 = .ok (.iconst 4, 1) := by decide +kernel
theorem dX3_addOrder_63 : decode cX3_addOrder 63 = .ok (.iadd, 1) := by decide +kernel
theorem dX3_addOrder_64 : decode cX3_addOrder 64 = .ok (.iload 5, 2) := by decide +kernel
theorem dX3_addOrder_66 : decode cX3_addOrder 66 = .ok (.iastore, 1) := by decide +kernel
theorem dX3_addOrder_67 : decode cX3_addOrder 67 = .ok (.aload_n 0, 1) := by decide +kernel
theorem dX3_addOrder_68 : decode cX3_addOrder 68 = .ok (.dup, 1) := by decide +kernel
theorem dX3_addOrder_69 : decode cX3_addOrder 69 = .ok (.getfield 54, 3) := by decide +kernel
theorem dX3_addOrder_72 : decode cX3_addOrder 72 = .ok (.iconst 1, 1) := by decide +kernel
theorem dX3_addOrder_73 : decode cX3_addOrder 73 = .ok (.iadd, 1) := by decide +kernel
theorem dX3_addOrder_74 : decode cX3_addOrder 74 = .ok (.putfield 54, 3) := by decide +kernel
theorem dX3_addOrder_77 : decode cX3_addOrder 77 = .ok (.return_, 1) := by decide +kernel
theorem dX3_hasDrive_0 : decode cX3_hasDrive 0 = .ok (.iload_n 1, 1) := by decide +kernel
theorem dX3_hasDrive_1 : decode cX3_hasDrive 1 = .ok (.ifCond .lt 15, 3) := by decide +kernel
theorem dX3_hasDrive_4 : decode cX3_hasDrive 4 = .ok (.iload_n 1, 1) := by decide +kernel
theorem dX3_hasDrive_5 : decode cX3_hasDrive 5 = .ok (.aload_n 0, 1) := by decide +kernel
theorem dX3_hasDrive_6 : decode cX3_hasDrive 6 = .ok (.getfield 34, 3) := by decide +kernel
theorem dX3_hasDrive_9 : decode cX3_hasDrive 9 = .ok (.if_icmp .ge 7, 3) := by decide +kernel
theorem dX3_hasDrive_12 : decode cX3_hasDrive 12 = .ok (.iconst 1, 1) := by decide +kernel
theorem dX3_hasDrive_13 : decode cX3_hasDrive 13 = .ok (.goto 4, 3) := by decide +kernel
theorem dX3_hasDrive_16 : decode cX3_hasDrive 16 = .ok (.iconst 0, 1) := by decide +kernel
theorem dX3_hasDrive_17 : decode cX3_hasDrive 17 = .ok (.ireturn, 1) := by decide +kernel
theorem dX3_hasLink_0 : decode cX3_hasLink 0 = .ok (.iload_n 1, 1) := by decide +kernel
theorem dX3_hasLink_1 : decode cX3_hasLink 1 = .ok (.ifCond .lt 15, 3) := by decide +kernel
theorem dX3_hasLink_4 : decode cX3_hasLink 4 = .ok (.iload_n 1, 1) := by decide +kernel
theorem dX3_hasLink_5 : decode cX3_hasLink 5 = .ok (.aload_n 0, 1) := by decide +kernel
theorem dX3_hasLink_6 : decode cX3_hasLink 6 = .ok (.invokevirtual 92, 3) := by decide +kernel
theorem dX3_hasLink_9 : decode cX3_hasLink 9 = .ok (.if_icmp .ge 7, 3) := by decide +kernel
theorem dX3_hasLink_12 : decode cX3_hasLink 12 = .ok (.iconst 1, 1) := by decide +kernel
theorem dX3_hasLink_13 : decode cX3_hasLink 13 = .ok (.goto 4, 3) := by decide +kernel
theorem dX3_hasLink_16 : decode cX3_hasLink 16 = .ok (.iconst 0, 1) := by decide +kernel
theorem dX3_hasLink_17 : decode cX3_hasLink 17 = .ok (.ireturn, 1) := by decide +kernel
theorem dX3_hasOrder_0 : decode cX3_hasOrder 0 = .ok (.iload_n 1, 1) := by decide +kernel
theorem dX3_hasOrder_1 : decode cX3_hasOrder 1 = .ok (.ifCond .lt 15, 3) := by decide +kernel
theorem dX3_hasOrder_4 : decode cX3_hasOrder 4 = .ok (.iload_n 1, 1) := by decide +kernel
theorem dX3_hasOrder_5 : decode cX3_hasOrder 5 = .ok (.aload_n 0, 1) := by decide +kernel
theorem dX3_hasOrder_6 : decode cX3_hasOrder 6 = .ok (.getfield 54, 3) := by decide +kernel
theorem dX3_hasOrder_9 : decode cX3_hasOrder 9 = .ok (.if_icmp .ge 7, 3) := by decide +kernel
theorem dX3_hasOrder_12 : decode cX3_hasOrder 12 = .ok (.iconst 1, 1) := by decide +kernel
theorem dX3_hasOrder_13 : decode cX3_hasOrder 13 = .ok (.goto 4, 3) := by decide +kernel
theorem dX3_hasOrder_16 : decode cX3_hasOrder 16 = .ok (.iconst 0, 1) := by decide +kernel
theorem dX3_hasOrder_17 : decode cX3_hasOrder 17 = .ok (.ireturn, 1) := by decide +kernel
theorem dX3_links_0 : decode cX3_links 0 = .ok (.aload_n 0, 1) := by decide +kernel
theorem dX3_links_1 : decode cX3_links 1 = .ok (.getfield 38, 3) := by decide +kernel
theorem dX3_links_4 : decode cX3_links 4 = .ok (.ifCond .eq 12, 3) := by decide +kernel
theorem dX3_links_7 : decode cX3_links 7 = .ok (.aload_n 0, 1) := by decide +kernel
theorem dX3_links_8 : decode cX3_links 8 = .ok (.getfield 34, 3) := by decide +kernel
theorem dX3_links_11 : decode cX3_links 11 = .ok (.iconst 1, 1) := by decide +kernel
theorem dX3_links_12 : decode cX3_links 12 = .ok (.iadd, 1) := by decide +kernel
theorem dX3_links_13 : decode cX3_links 13 = .ok (.goto 7, 3) := by decide +kernel
theorem dX3_links_16 : decode cX3_links 16 = .ok (.aload_n 0, 1) := by decide +kernel
theorem dX3_links_17 : decode cX3_links 17 = .ok (.getfield 34, 3) := by decide +kernel
theorem dX3_links_20 : decode cX3_links 20 = .ok (.ireturn, 1) := by decide +kernel
theorem dX3_ofDrive_0 : decode cX3_ofDrive 0 = .ok (.aload_n 0, 1) := by decide +kernel
theorem dX3_ofDrive_1 : decode cX3_ofDrive 1 = .ok (.getfield 9, 3) := by decide +kernel
theorem dX3_ofDrive_4 : decode cX3_ofDrive 4 = .ok (.iload_n 1, 1) := by decide +kernel
theorem dX3_ofDrive_5 : decode cX3_ofDrive 5 = .ok (.bipush 9, 2) := by decide +kernel
theorem dX3_ofDrive_7 : decode cX3_ofDrive 7 = .ok (.imul, 1) := by decide +kernel
theorem dX3_ofDrive_8 : decode cX3_ofDrive 8 = .ok (.iload_n 2, 1) := by decide +kernel
theorem dX3_ofDrive_9 : decode cX3_ofDrive 9 = .ok (.iadd, 1) := by decide +kernel
theorem dX3_ofDrive_10 : decode cX3_ofDrive 10 = .ok (.iaload, 1) := by decide +kernel
theorem dX3_ofDrive_11 : decode cX3_ofDrive 11 = .ok (.ireturn, 1) := by decide +kernel
theorem dX3_putDrive_0 : decode cX3_putDrive 0 = .ok (.aload_n 0, 1) := by decide +kernel
theorem dX3_putDrive_1 : decode cX3_putDrive 1 = .ok (.getfield 9, 3) := by decide +kernel
theorem dX3_putDrive_4 : decode cX3_putDrive 4 = .ok (.iload_n 1, 1) := by decide +kernel
theorem dX3_putDrive_5 : decode cX3_putDrive 5 = .ok (.bipush 9, 2) := by decide +kernel
theorem dX3_putDrive_7 : decode cX3_putDrive 7 = .ok (.imul, 1) := by decide +kernel
theorem dX3_putDrive_8 : decode cX3_putDrive 8 = .ok (.iload_n 2, 1) := by decide +kernel
theorem dX3_putDrive_9 : decode cX3_putDrive 9 = .ok (.iadd, 1) := by decide +kernel
theorem dX3_putDrive_10 : decode cX3_putDrive 10 = .ok (.iload_n 3, 1) := by decide +kernel
theorem dX3_putDrive_11 : decode cX3_putDrive 11 = .ok (.iastore, 1) := by decide +kernel
theorem dX3_putDrive_12 : decode cX3_putDrive 12 = .ok (.return_, 1) := by decide +kernel
theorem dX3_ofLink_0 : decode cX3_ofLink 0 = .ok (.aload_n 0, 1) := by decide +kernel
theorem dX3_ofLink_1 : decode cX3_ofLink 1 = .ok (.getfield 15, 3) := by decide +kernel
theorem dX3_ofLink_4 : decode cX3_ofLink 4 = .ok (.iload_n 1, 1) := by decide +kernel
theorem dX3_ofLink_5 : decode cX3_ofLink 5 = .ok (.iconst 2, 1) := by decide +kernel
theorem dX3_ofLink_6 : decode cX3_ofLink 6 = .ok (.imul, 1) := by decide +kernel
theorem dX3_ofLink_7 : decode cX3_ofLink 7 = .ok (.iload_n 2, 1) := by decide +kernel
theorem dX3_ofLink_8 : decode cX3_ofLink 8 = .ok (.iadd, 1) := by decide +kernel
theorem dX3_ofLink_9 : decode cX3_ofLink 9 = .ok (.iaload, 1) := by decide +kernel
theorem dX3_ofLink_10 : decode cX3_ofLink 10 = .ok (.ireturn, 1) := by decide +kernel
theorem dX3_putLink_0 : decode cX3_putLink 0 = .ok (.aload_n 0, 1) := by decide +kernel
theorem dX3_putLink_1 : decode cX3_putLink 1 = .ok (.getfield 15, 3) := by decide +kernel
theorem dX3_putLink_4 : decode cX3_putLink 4 = .ok (.iload_n 1, 1) := by decide +kernel
theorem dX3_putLink_5 : decode cX3_putLink 5 = .ok (.iconst 2, 1) := by decide +kernel
theorem dX3_putLink_6 : decode cX3_putLink 6 = .ok (.imul, 1) := by decide +kernel
theorem dX3_putLink_7 : decode cX3_putLink 7 = .ok (.iload_n 2, 1) := by decide +kernel
theorem dX3_putLink_8 : decode cX3_putLink 8 = .ok (.iadd, 1) := by decide +kernel
theorem dX3_putLink_9 : decode cX3_putLink 9 = .ok (.iload_n 3, 1) := by decide +kernel
theorem dX3_putLink_10 : decode cX3_putLink 10 = .ok (.iastore, 1) := by decide +kernel
theorem dX3_putLink_11 : decode cX3_putLink 11 = .ok (.return_, 1) := by decide +kernel
theorem dX3_ofOrder_0 : decode cX3_ofOrder 0 = .ok (.aload_n 0, 1) := by decide +kernel
theorem dX3_ofOrder_1 : decode cX3_ofOrder 1 = .ok (.getfield 18, 3) := by decide +kernel
theorem dX3_ofOrder_4 : decode cX3_ofOrder 4 = .ok (.iload_n 1, 1) := by decide +kernel
theorem dX3_ofOrder_5 : decode cX3_ofOrder 5 = .ok (.iconst 5, 1) := by decide +kernel
theorem dX3_ofOrder_6 : decode cX3_ofOrder 6 = .ok (.imul, 1) := by decide +kernel
theorem dX3_ofOrder_7 : decode cX3_ofOrder 7 = .ok (.iload_n 2, 1) := by decide +kernel
theorem dX3_ofOrder_8 : decode cX3_ofOrder 8 = .ok (.iadd, 1) := by decide +kernel
theorem dX3_ofOrder_9 : decode cX3_ofOrder 9 = .ok (.iaload, 1) := by decide +kernel
theorem dX3_ofOrder_10 : decode cX3_ofOrder 10 = .ok (.ireturn, 1) := by decide +kernel
theorem dX3_ofResult_0 : decode cX3_ofResult 0 = .ok (.aload_n 0, 1) := by decide +kernel
theorem dX3_ofResult_1 : decode cX3_ofResult 1 = .ok (.getfield 21, 3) := by decide +kernel
theorem dX3_ofResult_4 : decode cX3_ofResult 4 = .ok (.iload_n 1, 1) := by decide +kernel
theorem dX3_ofResult_5 : decode cX3_ofResult 5 = .ok (.iconst 2, 1) := by decide +kernel
theorem dX3_ofResult_6 : decode cX3_ofResult 6 = .ok (.imul, 1) := by decide +kernel
theorem dX3_ofResult_7 : decode cX3_ofResult 7 = .ok (.iload_n 2, 1) := by decide +kernel
theorem dX3_ofResult_8 : decode cX3_ofResult 8 = .ok (.iadd, 1) := by decide +kernel
theorem dX3_ofResult_9 : decode cX3_ofResult 9 = .ok (.iaload, 1) := by decide +kernel
theorem dX3_ofResult_10 : decode cX3_ofResult 10 = .ok (.ireturn, 1) := by decide +kernel
theorem dX3_putResult_0 : decode cX3_putResult 0 = .ok (.aload_n 0, 1) := by decide +kernel
theorem dX3_putResult_1 : decode cX3_putResult 1 = .ok (.getfield 21, 3) := by decide +kernel
theorem dX3_putResult_4 : decode cX3_putResult 4 = .ok (.iload_n 1, 1) := by decide +kernel
theorem dX3_putResult_5 : decode cX3_putResult 5 = .ok (.iconst 2, 1) := by decide +kernel
theorem dX3_putResult_6 : decode cX3_putResult 6 = .ok (.imul, 1) := by decide +kernel
theorem dX3_putResult_7 : decode cX3_putResult 7 = .ok (.iconst 0, 1) := by decide +kernel
theorem dX3_putResult_8 : decode cX3_putResult 8 = .ok (.iadd, 1) := by decide +kernel
theorem dX3_putResult_9 : decode cX3_putResult 9 = .ok (.iload_n 2, 1) := by decide +kernel
theorem dX3_putResult_10 : decode cX3_putResult 10 = .ok (.iastore, 1) := by decide +kernel
theorem dX3_putResult_11 : decode cX3_putResult 11 = .ok (.aload_n 0, 1) := by decide +kernel
theorem dX3_putResult_12 : decode cX3_putResult 12 = .ok (.getfield 21, 3) := by decide +kernel
theorem dX3_putResult_15 : decode cX3_putResult 15 = .ok (.iload_n 1, 1) := by decide +kernel
theorem dX3_putResult_16 : decode cX3_putResult 16 = .ok (.iconst 2, 1) := by decide +kernel
theorem dX3_putResult_17 : decode cX3_putResult 17 = .ok (.imul, 1) := by decide +kernel
theorem dX3_putResult_18 : decode cX3_putResult 18 = .ok (.iconst 1, 1) := by decide +kernel
theorem dX3_putResult_19 : decode cX3_putResult 19 = .ok (.iadd, 1) := by decide +kernel
theorem dX3_putResult_20 : decode cX3_putResult 20 = .ok (.iload_n 3, 1) := by decide +kernel
theorem dX3_putResult_21 : decode cX3_putResult 21 = .ok (.iastore, 1) := by decide +kernel
theorem dX3_putResult_22 : decode cX3_putResult 22 = .ok (.return_, 1) := by decide +kernel
theorem dX3_isSafe_0 : decode cX3_isSafe 0 = .ok (.aload_n 0, 1) := by decide +kernel
theorem dX3_isSafe_1 : decode cX3_isSafe 1 = .ok (.getfield 9, 3) := by decide +kernel
theorem dX3_isSafe_4 : decode cX3_isSafe 4 = .ok (.iload_n 1, 1) := by decide +kernel
theorem dX3_isSafe_5 : decode cX3_isSafe 5 = .ok (.bipush 9, 2) := by decide +kernel
theorem dX3_isSafe_7 : decode cX3_isSafe 7 = .ok (.imul, 1) := by decide +kernel
theorem dX3_isSafe_8 : decode cX3_isSafe 8 = .ok (.bipush 6, 2) := by decide +kernel
theorem dX3_isSafe_10 : decode cX3_isSafe 10 = .ok (.iadd, 1) := by decide +kernel
theorem dX3_isSafe_11 : decode cX3_isSafe 11 = .ok (.iaload, 1) := by decide +kernel
theorem dX3_isSafe_12 : decode cX3_isSafe 12 = .ok (.iconst 1, 1) := by decide +kernel
theorem dX3_isSafe_13 : decode cX3_isSafe 13 = .ok (.if_icmp .ne 7, 3) := by decide +kernel
theorem dX3_isSafe_16 : decode cX3_isSafe 16 = .ok (.iconst 1, 1) := by decide +kernel
theorem dX3_isSafe_17 : decode cX3_isSafe 17 = .ok (.goto 4, 3) := by decide +kernel
theorem dX3_isSafe_20 : decode cX3_isSafe 20 = .ok (.iconst 0, 1) := by decide +kernel
theorem dX3_isSafe_21 : decode cX3_isSafe 21 = .ok (.ireturn, 1) := by decide +kernel
theorem dX3_isCut_0 : decode cX3_isCut 0 = .ok (.aload_n 0, 1) := by decide +kernel
theorem dX3_isCut_1 : decode cX3_isCut 1 = .ok (.getfield 15, 3) := by decide +kernel
theorem dX3_isCut_4 : decode cX3_isCut 4 = .ok (.iload_n 1, 1) := by decide +kernel
theorem dX3_isCut_5 : decode cX3_isCut 5 = .ok (.iconst 2, 1) := by decide +kernel
theorem dX3_isCut_6 : decode cX3_isCut 6 = .ok (.imul, 1) := by decide +kernel
theorem dX3_isCut_7 : decode cX3_isCut 7 = .ok (.iconst 1, 1) := by decide +kernel
theorem dX3_isCut_8 : decode cX3_isCut 8 = .ok (.iadd, 1) := by decide +kernel
theorem dX3_isCut_9 : decode cX3_isCut 9 = .ok (.iaload, 1) := by decide +kernel
theorem dX3_isCut_10 : decode cX3_isCut 10 = .ok (.iconst 1, 1) := by decide +kernel
theorem dX3_isCut_11 : decode cX3_isCut 11 = .ok (.if_icmp .ne 7, 3) := by decide +kernel
theorem dX3_isCut_14 : decode cX3_isCut 14 = .ok (.iconst 1, 1) := by decide +kernel
theorem dX3_isCut_15 : decode cX3_isCut 15 = .ok (.goto 4, 3) := by decide +kernel
theorem dX3_isCut_18 : decode cX3_isCut 18 = .ok (.iconst 0, 1) := by decide +kernel
theorem dX3_isCut_19 : decode cX3_isCut 19 = .ok (.ireturn, 1) := by decide +kernel
theorem dX3_safeDrives_0 : decode cX3_safeDrives 0 = .ok (.iconst 0, 1) := by decide +kernel
theorem dX3_safeDrives_1 : decode cX3_safeDrives 1 = .ok (.istore_n 1, 1) := by decide +kernel
theorem dX3_safeDrives_2 : decode cX3_safeDrives 2 = .ok (.iconst 0, 1) := by decide +kernel
theorem dX3_safeDrives_3 : decode cX3_safeDrives 3 = .ok (.istore_n 2, 1) := by decide +kernel
theorem dX3_safeDrives_4 : decode cX3_safeDrives 4 = .ok (.iload_n 2, 1) := by decide +kernel
theorem dX3_safeDrives_5 : decode cX3_safeDrives 5 = .ok (.aload_n 0, 1) := by decide +kernel
theorem dX3_safeDrives_6 : decode cX3_safeDrives 6 = .ok (.getfield 34, 3) := by decide +kernel
theorem dX3_safeDrives_9 : decode cX3_safeDrives 9 = .ok (.if_icmp .ge 19, 3) := by decide +kernel
theorem dX3_safeDrives_12 : decode cX3_safeDrives 12 = .ok (.iload_n 1, 1) := by decide +kernel
theorem dX3_safeDrives_13 : decode cX3_safeDrives 13 = .ok (.aload_n 0, 1) := by decide +kernel
theorem dX3_safeDrives_14 : decode cX3_safeDrives 14 = .ok (.iload_n 2, 1) := by decide +kernel
theorem dX3_safeDrives_15 : decode cX3_safeDrives 15 = .ok (.bipush 6, 2) := by decide +kernel
theorem dX3_safeDrives_17 : decode cX3_safeDrives 17 = .ok (.invokevirtual 96, 3) := by decide +kernel
theorem dX3_safeDrives_20 : decode cX3_safeDrives 20 = .ok (.iadd, 1) := by decide +kernel
theorem dX3_safeDrives_21 : decode cX3_safeDrives 21 = .ok (.istore_n 1, 1) := by decide +kernel
theorem dX3_safeDrives_22 : decode cX3_safeDrives 22 = .ok (.iinc 2 1, 3) := by decide +kernel
theorem dX3_safeDrives_25 : decode cX3_safeDrives 25 = .ok (.goto (-21), 3) := by decide +kernel
theorem dX3_safeDrives_28 : decode cX3_safeDrives 28 = .ok (.iload_n 1, 1) := by decide +kernel
theorem dX3_safeDrives_29 : decode cX3_safeDrives 29 = .ok (.ireturn, 1) := by decide +kernel
theorem dX3_cutLinks_0 : decode cX3_cutLinks 0 = .ok (.iconst 0, 1) := by decide +kernel
theorem dX3_cutLinks_1 : decode cX3_cutLinks 1 = .ok (.istore_n 1, 1) := by decide +kernel
theorem dX3_cutLinks_2 : decode cX3_cutLinks 2 = .ok (.iconst 0, 1) := by decide +kernel
theorem dX3_cutLinks_3 : decode cX3_cutLinks 3 = .ok (.istore_n 2, 1) := by decide +kernel
theorem dX3_cutLinks_4 : decode cX3_cutLinks 4 = .ok (.iload_n 2, 1) := by decide +kernel
theorem dX3_cutLinks_5 : decode cX3_cutLinks 5 = .ok (.aload_n 0, 1) := by decide +kernel
theorem dX3_cutLinks_6 : decode cX3_cutLinks 6 = .ok (.invokevirtual 92, 3) := by decide +kernel
theorem dX3_cutLinks_9 : decode cX3_cutLinks 9 = .ok (.if_icmp .ge 18, 3) := by decide +kernel
theorem dX3_cutLinks_12 : decode cX3_cutLinks 12 = .ok (.iload_n 1, 1) := by decide +kernel
theorem dX3_cutLinks_13 : decode cX3_cutLinks 13 = .ok (.aload_n 0, 1) := by decide +kernel
theorem dX3_cutLinks_14 : decode cX3_cutLinks 14 = .ok (.iload_n 2, 1) := by decide +kernel
theorem dX3_cutLinks_15 : decode cX3_cutLinks 15 = .ok (.iconst 1, 1) := by decide +kernel
theorem dX3_cutLinks_16 : decode cX3_cutLinks 16 = .ok (.invokevirtual 100, 3) := by decide +kernel
theorem dX3_cutLinks_19 : decode cX3_cutLinks 19 = .ok (.iadd, 1) := by decide +kernel
theorem dX3_cutLinks_20 : decode cX3_cutLinks 20 = .ok (.istore_n 1, 1) := by decide +kernel
theorem dX3_cutLinks_21 : decode cX3_cutLinks 21 = .ok (.iinc 2 1, 3) := by decide +kernel
theorem dX3_cutLinks_24 : decode cX3_cutLinks 24 = .ok (.goto (-20), 3) := by decide +kernel
theorem dX3_cutLinks_27 : decode cX3_cutLinks 27 = .ok (.iload_n 1, 1) := by decide +kernel
theorem dX3_cutLinks_28 : decode cX3_cutLinks 28 = .ok (.ireturn, 1) := by decide +kernel
theorem dX3_isWhole_0 : decode cX3_isWhole 0 = .ok (.aload_n 0, 1) := by decide +kernel
theorem dX3_isWhole_1 : decode cX3_isWhole 1 = .ok (.getfield 38, 3) := by decide +kernel
theorem dX3_isWhole_4 : decode cX3_isWhole 4 = .ok (.ifCond .eq 14, 3) := by decide +kernel
theorem dX3_isWhole_7 : decode cX3_isWhole 7 = .ok (.aload_n 0, 1) := by decide +kernel
theorem dX3_isWhole_8 : decode cX3_isWhole 8 = .ok (.invokevirtual 103, 3) := by decide +kernel
theorem dX3_isWhole_11 : decode cX3_isWhole 11 = .ok (.ifCond .ne 7, 3) := by decide +kernel
theorem dX3_isWhole_14 : decode cX3_isWhole 14 = .ok (.iconst 1, 1) := by decide +kernel
theorem dX3_isWhole_15 : decode cX3_isWhole 15 = .ok (.goto 4, 3) := by decide +kernel
theorem dX3_isWhole_18 : decode cX3_isWhole 18 = .ok (.iconst 0, 1) := by decide +kernel
theorem dX3_isWhole_19 : decode cX3_isWhole 19 = .ok (.ireturn, 1) := by decide +kernel
theorem dX3_endOfA_0 : decode cX3_endOfA 0 = .ok (.iconst 0, 1) := by decide +kernel
theorem dX3_endOfA_1 : decode cX3_endOfA 1 = .ok (.istore_n 1, 1) := by decide +kernel
theorem dX3_endOfA_2 : decode cX3_endOfA 2 = .ok (.iload_n 1, 1) := by decide +kernel
theorem dX3_endOfA_3 : decode cX3_endOfA 3 = .ok (.aload_n 0, 1) := by decide +kernel
theorem dX3_endOfA_4 : decode cX3_endOfA 4 = .ok (.getfield 34, 3) := by decide +kernel
theorem dX3_endOfA_7 : decode cX3_endOfA 7 = .ok (.if_icmp .ge 19, 3) := by decide +kernel
theorem dX3_endOfA_10 : decode cX3_endOfA 10 = .ok (.aload_n 0, 1) := by decide +kernel
theorem dX3_endOfA_11 : decode cX3_endOfA 11 = .ok (.iload_n 1, 1) := by decide +kernel
theorem dX3_endOfA_12 : decode cX3_endOfA 12 = .ok (.invokevirtual 106, 3) := by decide +kernel
theorem dX3_endOfA_15 : decode cX3_endOfA 15 = .ok (.ifCond .eq 5, 3) := by decide +kernel
theorem dX3_endOfA_18 : decode cX3_endOfA 18 = .ok (.iload_n 1, 1) := by decide +kernel
theorem dX3_endOfA_19 : decode cX3_endOfA 19 = .ok (.ireturn, 1) := by decide +kernel
theorem dX3_endOfA_20 : decode cX3_endOfA 20 = .ok (.iinc 1 1, 3) := by decide +kernel
theorem dX3_endOfA_23 : decode cX3_endOfA 23 = .ok (.goto (-21), 3) := by decide +kernel
theorem dX3_endOfA_26 : decode cX3_endOfA 26 = .ok (.aload_n 0, 1) := by decide +kernel
theorem dX3_endOfA_27 : decode cX3_endOfA 27 = .ok (.getfield 34, 3) := by decide +kernel
theorem dX3_endOfA_30 : decode cX3_endOfA 30 = .ok (.ireturn, 1) := by decide +kernel
theorem dX3_startOfB_0 : decode cX3_startOfB 0 = .ok (.aload_n 0, 1) := by decide +kernel
theorem dX3_startOfB_1 : decode cX3_startOfB 1 = .ok (.getfield 38, 3) := by decide +kernel
theorem dX3_startOfB_4 : decode cX3_startOfB 4 = .ok (.ifCond .ne 8, 3) := by decide +kernel
theorem dX3_startOfB_7 : decode cX3_startOfB 7 = .ok (.aload_n 0, 1) := by decide +kernel
theorem dX3_startOfB_8 : decode cX3_startOfB 8 = .ok (.getfield 34, 3) := by decide +kernel
theorem dX3_startOfB_11 : decode cX3_startOfB 11 = .ok (.ireturn, 1) := by decide +kernel
theorem dX3_startOfB_12 : decode cX3_startOfB 12 = .ok (.aload_n 0, 1) := by decide +kernel
theorem dX3_startOfB_13 : decode cX3_startOfB 13 = .ok (.getfield 34, 3) := by decide +kernel
theorem dX3_startOfB_16 : decode cX3_startOfB 16 = .ok (.istore_n 1, 1) := by decide +kernel
theorem dX3_startOfB_17 : decode cX3_startOfB 17 = .ok (.iload_n 1, 1) := by decide +kernel
theorem dX3_startOfB_18 : decode cX3_startOfB 18 = .ok (.ifCond .lt 19, 3) := by decide +kernel
theorem dX3_startOfB_21 : decode cX3_startOfB 21 = .ok (.aload_n 0, 1) := by decide +kernel
theorem dX3_startOfB_22 : decode cX3_startOfB 22 = .ok (.iload_n 1, 1) := by decide +kernel
theorem dX3_startOfB_23 : decode cX3_startOfB 23 = .ok (.invokevirtual 106, 3) := by decide +kernel
theorem dX3_startOfB_26 : decode cX3_startOfB 26 = .ok (.ifCond .eq 5, 3) := by decide +kernel
theorem dX3_startOfB_29 : decode cX3_startOfB 29 = .ok (.iload_n 1, 1) := by decide +kernel
theorem dX3_startOfB_30 : decode cX3_startOfB 30 = .ok (.ireturn, 1) := by decide +kernel
theorem dX3_startOfB_31 : decode cX3_startOfB 31 = .ok (.iinc 1 (-1), 3) := by decide +kernel
theorem dX3_startOfB_34 : decode cX3_startOfB 34 = .ok (.goto (-17), 3) := by decide +kernel
theorem dX3_startOfB_37 : decode cX3_startOfB 37 = .ok (.aload_n 0, 1) := by decide +kernel
theorem dX3_startOfB_38 : decode cX3_startOfB 38 = .ok (.getfield 34, 3) := by decide +kernel
theorem dX3_startOfB_41 : decode cX3_startOfB 41 = .ok (.ireturn, 1) := by decide +kernel
theorem dX3_bitsOfA_0 : decode cX3_bitsOfA 0 = .ok (.iconst 1, 1) := by decide +kernel
theorem dX3_bitsOfA_1 : decode cX3_bitsOfA 1 = .ok (.aload_n 0, 1) := by decide +kernel
theorem dX3_bitsOfA_2 : decode cX3_bitsOfA 2 = .ok (.invokevirtual 110, 3) := by decide +kernel
theorem dX3_bitsOfA_5 : decode cX3_bitsOfA 5 = .ok (.ishl, 1) := by decide +kernel
theorem dX3_bitsOfA_6 : decode cX3_bitsOfA 6 = .ok (.iconst 1, 1) := by decide +kernel
theorem dX3_bitsOfA_7 : decode cX3_bitsOfA 7 = .ok (.isub, 1) := by decide +kernel
theorem dX3_bitsOfA_8 : decode cX3_bitsOfA 8 = .ok (.ireturn, 1) := by decide +kernel
theorem dX3_bitsOfB_0 : decode cX3_bitsOfB 0 = .ok (.iconst 1, 1) := by decide +kernel
theorem dX3_bitsOfB_1 : decode cX3_bitsOfB 1 = .ok (.aload_n 0, 1) := by decide +kernel
theorem dX3_bitsOfB_2 : decode cX3_bitsOfB 2 = .ok (.getfield 34, 3) := by decide +kernel
theorem dX3_bitsOfB_5 : decode cX3_bitsOfB 5 = .ok (.ishl, 1) := by decide +kernel
theorem dX3_bitsOfB_6 : decode cX3_bitsOfB 6 = .ok (.iconst 1, 1) := by decide +kernel
theorem dX3_bitsOfB_7 : decode cX3_bitsOfB 7 = .ok (.aload_n 0, 1) := by decide +kernel
theorem dX3_bitsOfB_8 : decode cX3_bitsOfB 8 = .ok (.invokevirtual 113, 3) := by decide +kernel
theorem dX3_bitsOfB_11 : decode cX3_bitsOfB 11 = .ok (.ishl, 1) := by decide +kernel
theorem dX3_bitsOfB_12 : decode cX3_bitsOfB 12 = .ok (.isub, 1) := by decide +kernel
theorem dX3_bitsOfB_13 : decode cX3_bitsOfB 13 = .ok (.ireturn, 1) := by decide +kernel
theorem dX3_bitsOfTurning_0 : decode cX3_bitsOfTurning 0 = .ok (.aload_n 0, 1) := by decide +kernel
theorem dX3_bitsOfTurning_1 : decode cX3_bitsOfTurning 1 = .ok (.invokevirtual 116, 3) := by decide +kernel
theorem dX3_bitsOfTurning_4 : decode cX3_bitsOfTurning 4 = .ok (.ifCond .eq 7, 3) := by decide +kernel
theorem dX3_bitsOfTurning_7 : decode cX3_bitsOfTurning 7 = .ok (.iconst 0, 1) := by decide +kernel
theorem dX3_bitsOfTurning_8 : decode cX3_bitsOfTurning 8 = .ok (.goto 12, 3) := by decide +kernel
theorem dX3_bitsOfTurning_11 : decode cX3_bitsOfTurning 11 = .ok (.aload_n 0, 1) := by decide +kernel
theorem dX3_bitsOfTurning_12 : decode cX3_bitsOfTurning 12 = .ok (.invokevirtual 119, 3) := by decide +kernel
theorem dX3_bitsOfTurning_15 : decode cX3_bitsOfTurning 15 = .ok (.aload_n 0, 1) := by decide +kernel
theorem dX3_bitsOfTurning_16 : decode cX3_bitsOfTurning 16 = .ok (.invokevirtual 122, 3) := by decide +kernel
theorem dX3_bitsOfTurning_19 : decode cX3_bitsOfTurning 19 = .ok (.ior, 1) := by decide +kernel
theorem dX3_bitsOfTurning_20 : decode cX3_bitsOfTurning 20 = .ok (.ireturn, 1) := by decide +kernel
theorem dX3_learn_0 : decode cX3_learn 0 = .ok (.iconst 0, 1) := by decide +kernel
theorem dX3_learn_1 : decode cX3_learn 1 = .ok (.istore_n 2, 1) := by decide +kernel
theorem dX3_learn_2 : decode cX3_learn 2 = .ok (.iload_n 2, 1) := by decide +kernel
theorem dX3_learn_3 : decode cX3_learn 3 = .ok (.aload_n 0, 1) := by decide +kernel
theorem dX3_learn_4 : decode cX3_learn 4 = .ok (.getfield 34, 3) := by decide +kernel
theorem dX3_learn_7 : decode cX3_learn 7 = .ok (.if_icmp .ge 32, 3) := by decide +kernel
theorem dX3_learn_10 : decode cX3_learn 10 = .ok (.iload_n 1, 1) := by decide +kernel
theorem dX3_learn_11 : decode cX3_learn 11 = .ok (.iload_n 2, 1) := by decide +kernel
theorem dX3_learn_12 : decode cX3_learn 12 = .ok (.ishr, 1) := by decide +kernel
theorem dX3_learn_13 : decode cX3_learn 13 = .ok (.iconst 1, 1) := by decide +kernel
theorem dX3_learn_14 : decode cX3_learn 14 = .ok (.iand, 1) := by decide +kernel
theorem dX3_learn_15 : decode cX3_learn 15 = .ok (.iconst 1, 1) := by decide +kernel
theorem dX3_learn_16 : decode cX3_learn 16 = .ok (.if_icmp .ne 17, 3) := by decide +kernel
theorem dX3_learn_19 : decode cX3_learn 19 = .ok (.aload_n 0, 1) := by decide +kernel
theorem dX3_learn_20 : decode cX3_learn 20 = .ok (.iload_n 2, 1) := by decide +kernel
theorem dX3_learn_21 : decode cX3_learn 21 = .ok (.bipush 8, 2) := by decide +kernel
theorem dX3_learn_23 : decode cX3_learn 23 = .ok (.aload_n 0, 1) := by decide +kernel
theorem dX3_learn_24 : decode cX3_learn 24 = .ok (.iload_n 2, 1) := by decide +kernel
theorem dX3_learn_25 : decode cX3_learn 25 = .ok (.bipush 7, 2) := by decide +kernel
theorem dX3_learn_27 : decode cX3_learn 27 = .ok (.invokevirtual 96, 3) := by decide +kernel
theorem dX3_learn_30 : decode cX3_learn 30 = .ok (.invokevirtual 125, 3) := by decide +kernel
theorem dX3_learn_33 : decode cX3_learn 33 = .ok (.iinc 2 1, 3) := by decide +kernel
theorem dX3_learn_36 : decode cX3_learn 36 = .ok (.goto (-34), 3) := by decide +kernel
theorem dX3_learn_39 : decode cX3_learn 39 = .ok (.return_, 1) := by decide +kernel
theorem dX3_offOf_0 : decode cX3_offOf 0 = .ok (.aload_n 0, 1) := by decide +kernel
theorem dX3_offOf_1 : decode cX3_offOf 1 = .ok (.iload_n 1, 1) := by decide +kernel
theorem dX3_offOf_2 : decode cX3_offOf 2 = .ok (.bipush 7, 2) := by decide +kernel
theorem dX3_offOf_4 : decode cX3_offOf 4 = .ok (.invokevirtual 96, 3) := by decide +kernel
theorem dX3_offOf_7 : decode cX3_offOf 7 = .ok (.aload_n 0, 1) := by decide +kernel
theorem dX3_offOf_8 : decode cX3_offOf 8 = .ok (.iload_n 1, 1) := by decide +kernel
theorem dX3_offOf_9 : decode cX3_offOf 9 = .ok (.bipush 8, 2) := by decide +kernel
theorem dX3_offOf_11 : decode cX3_offOf 11 = .ok (.invokevirtual 96, 3) := by decide +kernel
theorem dX3_offOf_14 : decode cX3_offOf 14 = .ok (.isub, 1) := by decide +kernel
theorem dX3_offOf_15 : decode cX3_offOf 15 = .ok (.ireturn, 1) := by decide +kernel
theorem dX3_spread_0 : decode cX3_spread 0 = .ok (.aload_n 0, 1) := by decide +kernel
theorem dX3_spread_1 : decode cX3_spread 1 = .ok (.iconst 0, 1) := by decide +kernel
theorem dX3_spread_2 : decode cX3_spread 2 = .ok (.invokevirtual 128, 3) := by decide +kernel
theorem dX3_spread_5 : decode cX3_spread 5 = .ok (.istore_n 1, 1) := by decide +kernel
theorem dX3_spread_6 : decode cX3_spread 6 = .ok (.iload_n 1, 1) := by decide +kernel
theorem dX3_spread_7 : decode cX3_spread 7 = .ok (.istore_n 2, 1) := by decide +kernel
theorem dX3_spread_8 : decode cX3_spread 8 = .ok (.iconst 1, 1) := by decide +kernel
theorem dX3_spread_9 : decode cX3_spread 9 = .ok (.istore_n 3, 1) := by decide +kernel
theorem dX3_spread_10 : decode cX3_spread 10 = .ok (.iload_n 3, 1) := by decide +kernel
theorem dX3_spread_11 : decode cX3_spread 11 = .ok (.aload_n 0, 1) := by decide +kernel
theorem dX3_spread_12 : decode cX3_spread 12 = .ok (.getfield 34, 3) := by decide +kernel
theorem dX3_spread_15 : decode cX3_spread 15 = .ok (.if_icmp .ge 29, 3) := by decide +kernel
theorem dX3_spread_18 : decode cX3_spread 18 = .ok (.iload_n 1, 1) := by decide +kernel
theorem dX3_spread_19 : decode cX3_spread 19 = .ok (.aload_n 0, 1) := by decide +kernel
theorem dX3_spread_20 : decode cX3_spread 20 = .ok (.iload_n 3, 1) := by decide +kernel
theorem dX3_spread_21 : decode cX3_spread 21 = .ok (.invokevirtual 128, 3) := by decide +kernel
theorem dX3_spread_24 : decode cX3_spread 24 = .ok (.invokestatic 132, 3) := by decide +kernel
theorem dX3_spread_27 : decode cX3_spread 27 = .ok (.istore_n 1, 1) := by decide +kernel
theorem dX3_spread_28 : decode cX3_spread 28 = .ok (.iload_n 2, 1) := by decide +kernel
theorem dX3_spread_29 : decode cX3_spread 29 = .ok (.aload_n 0, 1) := by decide +kernel
theorem dX3_spread_30 : decode cX3_spread 30 = .ok (.iload_n 3, 1) := by decide +kernel
theorem dX3_spread_31 : decode cX3_spread 31 = .ok (.invokevirtual 128, 3) := by decide +kernel
theorem dX3_spread_34 : decode cX3_spread 34 = .ok (.invokestatic 137, 3) := by decide +kernel
theorem dX3_spread_37 : decode cX3_spread 37 = .ok (.istore_n 2, 1) := by decide +kernel
theorem dX3_spread_38 : decode cX3_spread 38 = .ok (.iinc 3 1, 3) := by decide +kernel
theorem dX3_spread_41 : decode cX3_spread 41 = .ok (.goto (-31), 3) := by decide +kernel
theorem dX3_spread_44 : decode cX3_spread 44 = .ok (.iload_n 2, 1) := by decide +kernel
theorem dX3_spread_45 : decode cX3_spread 45 = .ok (.iload_n 1, 1) := by decide +kernel
theorem dX3_spread_46 : decode cX3_spread 46 = .ok (.isub, 1) := by decide +kernel
theorem dX3_spread_47 : decode cX3_spread 47 = .ok (.ireturn, 1) := by decide +kernel
theorem dX3_takeTimesAround_0 : decode cX3_takeTimesAround 0 = .ok (.aload_n 0, 1) := by decide +kernel
theorem dX3_takeTimesAround_1 : decode cX3_takeTimesAround 1 = .ok (.getfield 24, 3) := by decide +kernel
theorem dX3_takeTimesAround_4 : decode cX3_takeTimesAround 4 = .ok (.aload_n 0, 1) := by decide +kernel
theorem dX3_takeTimesAround_5 : decode cX3_takeTimesAround 5 = .ok (.iconst 0, 1) := by decide +kernel
theorem dX3_takeTimesAround_6 : decode cX3_takeTimesAround 6 = .ok (.aload_n 0, 1) := by decide +kernel
theorem dX3_takeTimesAround_7 : decode cX3_takeTimesAround 7 = .ok (.getfield 34, 3) := by decide +kernel
theorem dX3_takeTimesAround_10 : decode cX3_takeTimesAround 10 = .ok (.invokevirtual 140, 3) := by decide +kernel
theorem dX3_takeTimesAround_13 : decode cX3_takeTimesAround 13 = .ok (.aload_n 0, 1) := by decide +kernel
theorem dX3_takeTimesAround_14 : decode cX3_takeTimesAround 14 = .ok (.getfield 34, 3) := by decide +kernel
theorem dX3_takeTimesAround_17 : decode cX3_takeTimesAround 17 = .ok (.iadd, 1) := by decide +kernel
theorem dX3_takeTimesAround_18 : decode cX3_takeTimesAround 18 = .ok (.invokestatic 60, 3) := by decide +kernel
theorem dX3_takeTimesAround_21 : decode cX3_takeTimesAround 21 = .ok (.return_, 1) := by decide +kernel
theorem dX3_takeTimesOfTurning_0 : decode cX3_takeTimesOfTurning 0 = .ok (.aload_n 0, 1) := by decide +kernel
theorem dX3_takeTimesOfTurning_1 : decode cX3_takeTimesOfTurning 1 = .ok (.invokevirtual 110, 3) := by decide +kernel
theorem dX3_takeTimesOfTurning_4 : decode cX3_takeTimesOfTurning 4 = .ok (.istore_n 1, 1) := by decide +kernel
theorem dX3_takeTimesOfTurning_5 : decode cX3_takeTimesOfTurning 5 = .ok (.aload_n 0, 1) := by decide +kernel
theorem dX3_takeTimesOfTurning_6 : decode cX3_takeTimesOfTurning 6 = .ok (.invokevirtual 113, 3) := by decide +kernel
theorem dX3_takeTimesOfTurning_9 : decode cX3_takeTimesOfTurning 9 = .ok (.istore_n 2, 1) := by decide +kernel
theorem dX3_takeTimesOfTurning_10 : decode cX3_takeTimesOfTurning 10 = .ok (.aload_n 0, 1) := by decide +kernel
theorem dX3_takeTimesOfTurning_11 : decode cX3_takeTimesOfTurning 11 = .ok (.getfield 24, 3) := by decide +kernel
theorem dX3_takeTimesOfTurning_14 : decode cX3_takeTimesOfTurning 14 = .ok (.iconst 0, 1) := by decide +kernel
theorem dX3_takeTimesOfTurning_15 : decode cX3_takeTimesOfTurning 15 = .ok (.aload_n 0, 1) := by decide +kernel
theorem dX3_takeTimesOfTurning_16 : decode cX3_takeTimesOfTurning 16 = .ok (.iconst 0, 1) := by decide +kernel
theorem dX3_takeTimesOfTurning_17 : decode cX3_takeTimesOfTurning 17 = .ok (.iload_n 1, 1) := by decide +kernel
theorem dX3_takeTimesOfTurning_18 : decode cX3_takeTimesOfTurning 18 = .ok (.iconst 1, 1) := by decide +kernel
theorem dX3_takeTimesOfTurning_19 : decode cX3_takeTimesOfTurning 19 = .ok (.isub, 1) := by decide +kernel
theorem dX3_takeTimesOfTurning_20 : decode cX3_takeTimesOfTurning 20 = .ok (.invokevirtual 140, 3) := by decide +kernel
theorem dX3_takeTimesOfTurning_23 : decode cX3_takeTimesOfTurning 23 = .ok (.iload_n 1, 1) := by decide +kernel
theorem dX3_takeTimesOfTurning_24 : decode cX3_takeTimesOfTurning 24 = .ok (.invokestatic 143, 3) := by decide +kernel
theorem dX3_takeTimesOfTurning_27 : decode cX3_takeTimesOfTurning 27 = .ok (.iastore, 1) := by decide +kernel
theorem dX3_takeTimesOfTurning_28 : decode cX3_takeTimesOfTurning 28 = .ok (.aload_n 0, 1) := by decide +kernel
theorem dX3_takeTimesOfTurning_29 : decode cX3_takeTimesOfTurning 29 = .ok (.getfield 24, 3) := by decide +kernel
theorem dX3_takeTimesOfTurning_32 : decode cX3_takeTimesOfTurning 32 = .ok (.iconst 1, 1) := by decide +kernel
theorem dX3_takeTimesOfTurning_33 : decode cX3_takeTimesOfTurning 33 = .ok (.aload_n 0, 1) := by decide +kernel
theorem dX3_takeTimesOfTurning_34 : decode cX3_takeTimesOfTurning 34 = .ok (.iload_n 2, 1) := by decide +kernel
theorem dX3_takeTimesOfTurning_35 : decode cX3_takeTimesOfTurning 35 = .ok (.iconst 1, 1) := by decide +kernel
theorem dX3_takeTimesOfTurning_36 : decode cX3_takeTimesOfTurning 36 = .ok (.iadd, 1) := by decide +kernel
theorem dX3_takeTimesOfTurning_37 : decode cX3_takeTimesOfTurning 37 = .ok (.aload_n 0, 1) := by decide +kernel
theorem dX3_takeTimesOfTurning_38 : decode cX3_takeTimesOfTurning 38 = .ok (.getfield 34, 3) := by decide +kernel
theorem dX3_takeTimesOfTurning_41 : decode cX3_takeTimesOfTurning 41 = .ok (.invokevirtual 140, 3) := by decide +kernel
theorem dX3_takeTimesOfTurning_44 : decode cX3_takeTimesOfTurning 44 = .ok (.aload_n 0, 1) := by decide +kernel
theorem dX3_takeTimesOfTurning_45 : decode cX3_takeTimesOfTurning 45 = .ok (.getfield 34, 3) := by decide +kernel
theorem dX3_takeTimesOfTurning_48 : decode cX3_takeTimesOfTurning 48 = .ok (.iload_n 2, 1) := by decide +kernel
theorem dX3_takeTimesOfTurning_49 : decode cX3_takeTimesOfTurning 49 = .ok (.isub, 1) := by decide +kernel
theorem dX3_takeTimesOfTurning_50 : decode cX3_takeTimesOfTurning 50 = .ok (.invokestatic 143, 3) := by decide +kernel
theorem dX3_takeTimesOfTurning_53 : decode cX3_takeTimesOfTurning 53 = .ok (.iastore, 1) := by decide +kernel
theorem dX3_takeTimesOfTurning_54 : decode cX3_takeTimesOfTurning 54 = .ok (.return_, 1) := by decide +kernel
theorem dX3_lengths_0 : decode cX3_lengths 0 = .ok (.iconst 0, 1) := by decide +kernel
theorem dX3_lengths_1 : decode cX3_lengths 1 = .ok (.istore_n 3, 1) := by decide +kernel
theorem dX3_lengths_2 : decode cX3_lengths 2 = .ok (.iload_n 1, 1) := by decide +kernel
theorem dX3_lengths_3 : decode cX3_lengths 3 = .ok (.istore 4, 2) := by decide +kernel
theorem dX3_lengths_5 : decode cX3_lengths 5 = .ok (.iload 4, 2) := by decide +kernel
theorem dX3_lengths_7 : decode cX3_lengths 7 = .ok (.iload_n 2, 1) := by decide +kernel
theorem dX3_lengths_8 : decode cX3_lengths 8 = .ok (.if_icmp .gt 19, 3) := by decide +kernel
theorem dX3_lengths_11 : decode cX3_lengths 11 = .ok (.iload_n 3, 1) := by decide +kernel
theorem dX3_lengths_12 : decode cX3_lengths 12 = .ok (.aload_n 0, 1) := by decide +kernel
theorem dX3_lengths_13 : decode cX3_lengths 13 = .ok (.iload 4, 2) := by decide +kernel
theorem dX3_lengths_15 : decode cX3_lengths 15 = .ok (.iconst 0, 1) := by decide +kernel
theorem dX3_lengths_16 : decode cX3_lengths 16 = .ok (.invokevirtual 100, 3) := by decide +kernel
theorem dX3_lengths_19 : decode cX3_lengths 19 = .ok (.iadd, 1) := by decide +kernel
theorem dX3_lengths_20 : decode cX3_lengths 20 = .ok (.istore_n 3, 1) := by decide +kernel
theorem dX3_lengths_21 : decode cX3_lengths 21 = .ok (.iinc 4 1, 3) := by decide +kernel
theorem dX3_lengths_24 : decode cX3_lengths 24 = .ok (.goto (-19), 3) := by decide +kernel
theorem dX3_lengths_27 : decode cX3_lengths 27 = .ok (.iload_n 3, 1) := by decide +kernel
theorem dX3_lengths_28 : decode cX3_lengths 28 = .ok (.ireturn, 1) := by decide +kernel
theorem dX3_timeThereAndBack_0 : decode cX3_timeThereAndBack 0 = .ok (.iload_n 1, 1) := by decide +kernel
theorem dX3_timeThereAndBack_1 : decode cX3_timeThereAndBack 1 = .ok (.ifCond .ne 8, 3) := by decide +kernel
theorem dX3_timeThereAndBack_4 : decode cX3_timeThereAndBack 4 = .ok (.bipush (-9), 2) := by decide +kernel
theorem dX3_timeThereAndBack_6 : decode cX3_timeThereAndBack 6 = .ok (.goto 12, 3) := by decide +kernel
theorem dX3_timeThereAndBack_9 : decode cX3_timeThereAndBack 9 = .ok (.iconst 2, 1) := by decide +kernel
theorem dX3_timeThereAndBack_10 : decode cX3_timeThereAndBack 10 = .ok (.iload_n 0, 1) := by decide +kernel
theorem dX3_timeThereAndBack_11 : decode cX3_timeThereAndBack 11 = .ok (.imul, 1) := by decide +kernel
theorem dX3_timeThereAndBack_12 : decode cX3_timeThereAndBack 12 = .ok (.iconst 2, 1) := by decide +kernel
theorem dX3_timeThereAndBack_13 : decode cX3_timeThereAndBack 13 = .ok (.iload_n 1, 1) := by decide +kernel
theorem dX3_timeThereAndBack_14 : decode cX3_timeThereAndBack 14 = .ok (.imul, 1) := by decide +kernel
theorem dX3_timeThereAndBack_15 : decode cX3_timeThereAndBack 15 = .ok (.iadd, 1) := by decide +kernel
theorem dX3_timeThereAndBack_16 : decode cX3_timeThereAndBack 16 = .ok (.iconst 1, 1) := by decide +kernel
theorem dX3_timeThereAndBack_17 : decode cX3_timeThereAndBack 17 = .ok (.isub, 1) := by decide +kernel
theorem dX3_timeThereAndBack_18 : decode cX3_timeThereAndBack 18 = .ok (.ireturn, 1) := by decide +kernel
theorem dX3_look_0 : decode cX3_look 0 = .ok (.iload_n 1, 1) := by decide +kernel
theorem dX3_look_1 : decode cX3_look 1 = .ok (.iconst 4, 1) := by decide +kernel
theorem dX3_look_2 : decode cX3_look 2 = .ok (.if_icmp .lt 12, 3) := by decide +kernel
theorem dX3_look_5 : decode cX3_look 5 = .ok (.aload_n 0, 1) := by decide +kernel
theorem dX3_look_6 : decode cX3_look 6 = .ok (.getfield 24, 3) := by decide +kernel
theorem dX3_look_9 : decode cX3_look 9 = .ok (.iload_n 1, 1) := by decide +kernel
theorem dX3_look_10 : decode cX3_look 10 = .ok (.iconst 4, 1) := by decide +kernel
theorem dX3_look_11 : decode cX3_look 11 = .ok (.isub, 1) := by decide +kernel
theorem dX3_look_12 : decode cX3_look 12 = .ok (.iaload, 1) := by decide +kernel
theorem dX3_look_13 : decode cX3_look 13 = .ok (.ireturn, 1) := by decide +kernel
theorem dX3_look_14 : decode cX3_look 14 = .ok (.iload_n 1, 1) := by decide +kernel
theorem dX3_look_15 : decode cX3_look 15 = .ok (.aload_n 0, 1) := by decide +kernel
theorem dX3_look_16 : decode cX3_look 16 = .ok (.getfield 54, 3) := by decide +kernel
theorem dX3_look_19 : decode cX3_look 19 = .ok (.if_icmp .ge 12, 3) := by decide +kernel
theorem dX3_look_22 : decode cX3_look 22 = .ok (.aload_n 0, 1) := by decide +kernel
theorem dX3_look_23 : decode cX3_look 23 = .ok (.iload_n 1, 1) := by decide +kernel
theorem dX3_look_24 : decode cX3_look 24 = .ok (.iconst 0, 1) := by decide +kernel
theorem dX3_look_25 : decode cX3_look 25 = .ok (.invokevirtual 146, 3) := by decide +kernel
theorem dX3_look_28 : decode cX3_look 28 = .ok (.goto 4, 3) := by decide +kernel
theorem dX3_look_31 : decode cX3_look 31 = .ok (.iconst 0, 1) := by decide +kernel
theorem dX3_look_32 : decode cX3_look 32 = .ok (.ireturn, 1) := by decide +kernel
theorem dX3_countMiss_0 : decode cX3_countMiss 0 = .ok (.aload_n 0, 1) := by decide +kernel
theorem dX3_countMiss_1 : decode cX3_countMiss 1 = .ok (.iload_n 1, 1) := by decide +kernel
theorem dX3_countMiss_2 : decode cX3_countMiss 2 = .ok (.iconst 5, 1) := by decide +kernel
theorem dX3_countMiss_3 : decode cX3_countMiss 3 = .ok (.invokevirtual 96, 3) := by decide +kernel
theorem dX3_countMiss_6 : decode cX3_countMiss 6 = .ok (.iconst 1, 1) := by decide +kernel
theorem dX3_countMiss_7 : decode cX3_countMiss 7 = .ok (.iadd, 1) := by decide +kernel
theorem dX3_countMiss_8 : decode cX3_countMiss 8 = .ok (.istore_n 2, 1) := by decide +kernel
theorem dX3_countMiss_9 : decode cX3_countMiss 9 = .ok (.aload_n 0, 1) := by decide +kernel
theorem dX3_countMiss_10 : decode cX3_countMiss 10 = .ok (.iload_n 1, 1) := by decide +kernel
theorem dX3_countMiss_11 : decode cX3_countMiss 11 = .ok (.iconst 5, 1) := by decide +kernel
theorem dX3_countMiss_12 : decode cX3_countMiss 12 = .ok (.iload_n 2, 1) := by decide +kernel
theorem dX3_countMiss_13 : decode cX3_countMiss 13 = .ok (.invokevirtual 125, 3) := by decide +kernel
theorem dX3_countMiss_16 : decode cX3_countMiss 16 = .ok (.iload_n 2, 1) := by decide +kernel
theorem dX3_countMiss_17 : decode cX3_countMiss 17 = .ok (.aload_n 0, 1) := by decide +kernel
theorem dX3_countMiss_18 : decode cX3_countMiss 18 = .ok (.getfield 42, 3) := by decide +kernel
theorem dX3_countMiss_21 : decode cX3_countMiss 21 = .ok (.if_icmp .lt 41, 3) := by decide +kernel
theorem dX3_countMiss_24 : decode cX3_countMiss 24 = .ok (.aload_n 0, 1) := by decide +kernel
theorem dX3_countMiss_25 : decode cX3_countMiss 25 = .ok (.iload_n 1, 1) := by decide +kernel
theorem dX3_countMiss_26 : decode cX3_countMiss 26 = .ok (.invokevirtual 149, 3) := by decide +kernel
theorem dX3_countMiss_29 : decode cX3_countMiss 29 = .ok (.ifCond .ne 33, 3) := by decide +kernel
theorem dX3_countMiss_32 : decode cX3_countMiss 32 = .ok (.aload_n 0, 1) := by decide +kernel
theorem dX3_countMiss_33 : decode cX3_countMiss 33 = .ok (.iload_n 1, 1) := by decide +kernel
theorem dX3_countMiss_34 : decode cX3_countMiss 34 = .ok (.bipush 6, 2) := by decide +kernel
theorem dX3_countMiss_36 : decode cX3_countMiss 36 = .ok (.iconst 1, 1) := by decide +kernel
theorem dX3_countMiss_37 : decode cX3_countMiss 37 = .ok (.invokevirtual 125, 3) := by decide +kernel
theorem dX3_countMiss_40 : decode cX3_countMiss 40 = .ok (.iconst 0, 1) := by decide +kernel
theorem dX3_countMiss_41 : decode cX3_countMiss 41 = .ok (.istore_n 3, 1) := by decide +kernel
theorem dX3_countMiss_42 : decode cX3_countMiss 42 = .ok (.iload_n 3, 1) := by decide +kernel
theorem dX3_countMiss_43 : decode cX3_countMiss 43 = .ok (.iconst 4, 1) := by decide +kernel
theorem dX3_countMiss_44 : decode cX3_countMiss 44 = .ok (.if_icmp .ge 18, 3) := by decide +kernel
theorem dX3_countMiss_47 : decode cX3_countMiss 47 = .ok (.aload_n 0, 1) := by decide +kernel
theorem dX3_countMiss_48 : decode cX3_countMiss 48 = .ok (.iload_n 1, 1) := by decide +kernel
theorem dX3_countMiss_49 : decode cX3_countMiss 49 = .ok (.iconst 1, 1) := by decide +kernel
theorem dX3_countMiss_50 : decode cX3_countMiss 50 = .ok (.iload_n 3, 1) := by decide +kernel
theorem dX3_countMiss_51 : decode cX3_countMiss 51 = .ok (.iadd, 1) := by decide +kernel
theorem dX3_countMiss_52 : decode cX3_countMiss 52 = .ok (.iconst 0, 1) := by decide +kernel
theorem dX3_countMiss_53 : decode cX3_countMiss 53 = .ok (.invokevirtual 125, 3) := by decide +kernel
theorem dX3_countMiss_56 : decode cX3_countMiss 56 = .ok (.iinc 3 1, 3) := by decide +kernel
theorem dX3_countMiss_59 : decode cX3_countMiss 59 = .ok (.goto (-17), 3) := by decide +kernel
theorem dX3_countMiss_62 : decode cX3_countMiss 62 = .ok (.return_, 1) := by decide +kernel
theorem dX4_init_0 : decode cX4_init 0 = .ok (.aload_n 0, 1) := by decide +kernel
theorem dX4_init_1 : decode cX4_init 1 = .ok (.invokespecial 3, 3) := by decide +kernel
theorem dX4_init_4 : decode cX4_init 4 = .ok (.aload_n 0, 1) := by decide +kernel
theorem dX4_init_5 : decode cX4_init 5 = .ok (.new 9, 3) := by decide +kernel
theorem dX4_init_8 : decode cX4_init 8 = .ok (.dup, 1) := by decide +kernel
theorem dX4_init_9 : decode cX4_init 9 = .ok (.invokespecial 11, 3) := by decide +kernel
theorem dX4_init_12 : decode cX4_init 12 = .ok (.putfield 12, 3) := by decide +kernel
theorem dX4_init_15 : decode cX4_init 15 = .ok (.aload_n 0, 1) := by decide +kernel
theorem dX4_init_16 : decode cX4_init 16 = .ok (.new 9, 3) := by decide +kernel
theorem dX4_init_19 : decode cX4_init 19 = .ok (.dup, 1) := by decide +kernel
theorem dX4_init_20 : decode cX4_init 20 = .ok (.invokespecial 11, 3) := by decide +kernel
theorem dX4_init_23 : decode cX4_init 23 = .ok (.putfield 18, 3) := by decide +kernel
theorem dX4_init_26 : decode cX4_init 26 = .ok (.return_, 1) := by decide +kernel
theorem dX4_runCycle_0 : decode cX4_runCycle 0 = .ok (.aload_n 0, 1) := by decide +kernel
theorem dX4_runCycle_1 : decode cX4_runCycle 1 = .ok (.iconst 0, 1) := by decide +kernel
theorem dX4_runCycle_2 : decode cX4_runCycle 2 = .ok (.putfield 21, 3) := by decide +kernel
theorem dX4_runCycle_5 : decode cX4_runCycle 5 = .ok (.aload_n 1, 1) := by decide +kernel
theorem dX4_runCycle_6 : decode cX4_runCycle 6 = .ok (.getfield 25, 3) := by decide +kernel
theorem dX4_runCycle_9 : decode cX4_runCycle 9 = .ok (.ifCond .eq 11, 3) := by decide +kernel
theorem dX4_runCycle_12 : decode cX4_runCycle 12 = .ok (.aload_n 0, 1) := by decide +kernel
theorem dX4_runCycle_13 : decode cX4_runCycle 13 = .ok (.aload_n 1, 1) := by decide +kernel
theorem dX4_runCycle_14 : decode cX4_runCycle 14 = .ok (.invokevirtual 31, 3) := by decide +kernel
theorem dX4_runCycle_17 : decode cX4_runCycle 17 = .ok (.goto 8, 3) := by decide +kernel
theorem dX4_runCycle_20 : decode cX4_runCycle 20 = .ok (.aload_n 0, 1) := by decide +kernel
theorem dX4_runCycle_21 : decode cX4_runCycle 21 = .ok (.aload_n 1, 1) := by decide +kernel
theorem dX4_runCycle_22 : decode cX4_runCycle 22 = .ok (.invokevirtual 35, 3) := by decide +kernel
theorem dX4_runCycle_25 : decode cX4_runCycle 25 = .ok (.iconst 0, 1) := by decide +kernel
theorem dX4_runCycle_26 : decode cX4_runCycle 26 = .ok (.istore_n 2, 1) := by decide +kernel
theorem dX4_runCycle_27 : decode cX4_runCycle 27 = .ok (.iload_n 2, 1) := by decide +kernel
theorem dX4_runCycle_28 : decode cX4_runCycle 28 = .ok (.aload_n 1, 1) := by decide +kernel
theorem dX4_runCycle_29 : decode cX4_runCycle 29 = .ok (.getfield 38, 3) := by decide +kernel
theorem dX4_runCycle_32 : decode cX4_runCycle 32 = .ok (.if_icmp .ge 36, 3) := by decide +kernel
theorem dX4_runCycle_35 : decode cX4_runCycle 35 = .ok (.aload_n 0, 1) := by decide +kernel
theorem dX4_runCycle_36 : decode cX4_runCycle 36 = .ok (.getfield 21, 3) := by decide +kernel
theorem dX4_runCycle_39 : decode cX4_runCycle 39 = .ok (.iload_n 2, 1) := by decide +kernel
theorem dX4_runCycle_40 : decode cX4_runCycle 40 = .ok (.ishr, 1) := by decide +kernel
theorem dX4_runCycle_41 : decode cX4_runCycle 41 = .ok (.iconst 1, 1) := by decide +kernel
theorem dX4_runCycle_42 : decode cX4_runCycle 42 = .ok (.iand, 1) := by decide +kernel
theorem dX4_runCycle_43 : decode cX4_runCycle 43 = .ok (.iconst 1, 1) := by decide +kernel
theorem dX4_runCycle_44 : decode cX4_runCycle 44 = .ok (.if_icmp .ne 13, 3) := by decide +kernel
theorem dX4_runCycle_47 : decode cX4_runCycle 47 = .ok (.aload_n 1, 1) := by decide +kernel
theorem dX4_runCycle_48 : decode cX4_runCycle 48 = .ok (.iload_n 2, 1) := by decide +kernel
theorem dX4_runCycle_49 : decode cX4_runCycle 49 = .ok (.iconst 5, 1) := by decide +kernel
theorem dX4_runCycle_50 : decode cX4_runCycle 50 = .ok (.iconst 0, 1) := by decide +kernel
theorem dX4_runCycle_51 : decode cX4_runCycle 51 = .ok (.invokevirtual 41, 3) := by decide +kernel
theorem dX4_runCycle_54 : decode cX4_runCycle 54 = .ok (.goto 8, 3) := by decide +kernel
theorem dX4_runCycle_57 : decode cX4_runCycle 57 = .ok (.aload_n 1, 1) := by decide +kernel
theorem dX4_runCycle_58 : decode cX4_runCycle 58 = .ok (.iload_n 2, 1) := by decide +kernel
theorem dX4_runCycle_59 : decode cX4_runCycle 59 = .ok (.invokevirtual 45, 3) := by decide +kernel
theorem dX4_runCycle_62 : decode cX4_runCycle 62 = .ok (.iinc 2 1, 3) := by decide +kernel
theorem dX4_runCycle_65 : decode cX4_runCycle 65 = .ok (.goto (-38), 3) := by decide +kernel
theorem dX4_runCycle_68 : decode cX4_runCycle 68 = .ok (.aload_n 1, 1) := by decide +kernel
theorem dX4_runCycle_69 : decode cX4_runCycle 69 = .ok (.iconst 0, 1) := by decide +kernel
theorem dX4_runCycle_70 : decode cX4_runCycle 70 = .ok (.putfield 25, 3) := by decide +kernel
theorem dX4_runCycle_73 : decode cX4_runCycle 73 = .ok (.aload_n 1, 1) := by decide +kernel
theorem dX4_runCycle_74 : decode cX4_runCycle 74 = .ok (.dup, 1) := by decide +kernel
theorem dX4_runCycle_75 : decode cX4_runCycle 75 = .ok (.getfield 49, 3) := by decide +kernel
theorem dX4_runCycle_78 : decode cX4_runCycle 78 = .ok (.iconst 1, 1) := by decide +kernel
theorem dX4_runCycle_79 : decode cX4_runCycle 79 = .ok (.iadd, 1) := by decide +kernel
theorem dX4_runCycle_80 : decode cX4_runCycle 80 = .ok (.putfield 49, 3) := by decide +kernel
theorem dX4_runCycle_83 : decode cX4_runCycle 83 = .ok (.return_, 1) := by decide +kernel
theorem dX4_sendNothing_0 : decode cX4_sendNothing 0 = .ok (.iconst 0, 1) := by decide +kernel
theorem dX4_sendNothing_1 : decode cX4_sendNothing 1 = .ok (.istore_n 2, 1) := by decide +kernel
theorem dX4_sendNothing_2 : decode cX4_sendNothing 2 = .ok (.iload_n 2, 1) := by decide +kernel
theorem dX4_sendNothing_3 : decode cX4_sendNothing 3 = .ok (.aload_n 1, 1) := by decide +kernel
theorem dX4_sendNothing_4 : decode cX4_sendNothing 4 = .ok (.getfield 52, 3) := by decide +kernel
theorem dX4_sendNothing_7 : decode cX4_sendNothing 7 = .ok (.if_icmp .ge 21, 3) := by decide +kernel
theorem dX4_sendNothing_10 : decode cX4_sendNothing 10 = .ok (.aload_n 1, 1) := by decide +kernel
theorem dX4_sendNothing_11 : decode cX4_sendNothing 11 = .ok (.iload_n 2, 1) := by decide +kernel
theorem dX4_sendNothing_12 : decode cX4_sendNothing 12 = .ok (.iconst 0, 1) := by decide +kernel
theorem dX4_sendNothing_13 : decode cX4_sendNothing 13 = .ok (.aload_n 1, 1) := by decide +kernel
theorem dX4_sendNothing_14 : decode cX4_sendNothing 14 = .ok (.iload_n 2, 1) := by decide +kernel
theorem dX4_sendNothing_15 : decode cX4_sendNothing 15 = .ok (.iconst 4, 1) := by decide +kernel
theorem dX4_sendNothing_16 : decode cX4_sendNothing 16 = .ok (.invokevirtual 55, 3) := by decide +kernel
theorem dX4_sendNothing_19 : decode cX4_sendNothing 19 = .ok (.invokevirtual 59, 3) := by decide +kernel
theorem dX4_sendNothing_22 : decode cX4_sendNothing 22 = .ok (.iinc 2 1, 3) := by decide +kernel
theorem dX4_sendNothing_25 : decode cX4_sendNothing 25 = .ok (.goto (-23), 3) := by decide +kernel
theorem dX4_sendNothing_28 : decode cX4_sendNothing 28 = .ok (.aload_n 1, 1) := by decide +kernel
theorem dX4_sendNothing_29 : decode cX4_sendNothing 29 = .ok (.iconst 1, 1) := by decide +kernel
theorem dX4_sendNothing_30 : decode cX4_sendNothing 30 = .ok (.putfield 62, 3) := by decide +kernel
theorem dX4_sendNothing_33 : decode cX4_sendNothing 33 = .ok (.aload_n 1, 1) := by decide +kernel
theorem dX4_sendNothing_34 : decode cX4_sendNothing 34 = .ok (.getfield 65, 3) := by decide +kernel
theorem dX4_sendNothing_37 : decode cX4_sendNothing 37 = .ok (.bipush (-9), 2) := by decide +kernel
theorem dX4_sendNothing_39 : decode cX4_sendNothing 39 = .ok (.invokestatic 69, 3) := by decide +kernel
theorem dX4_sendNothing_42 : decode cX4_sendNothing 42 = .ok (.return_, 1) := by decide +kernel
theorem dX4_send_0 : decode cX4_send 0 = .ok (.aload_n 0, 1) := by decide +kernel
theorem dX4_send_1 : decode cX4_send 1 = .ok (.iconst 0, 1) := by decide +kernel
theorem dX4_send_2 : decode cX4_send 2 = .ok (.putfield 21, 3) := by decide +kernel
theorem dX4_send_5 : decode cX4_send 5 = .ok (.aload_n 0, 1) := by decide +kernel
theorem dX4_send_6 : decode cX4_send 6 = .ok (.getfield 12, 3) := by decide +kernel
theorem dX4_send_9 : decode cX4_send 9 = .ok (.aload_n 1, 1) := by decide +kernel
theorem dX4_send_10 : decode cX4_send 10 = .ok (.invokevirtual 75, 3) := by decide +kernel
theorem dX4_send_13 : decode cX4_send 13 = .ok (.aload_n 0, 1) := by decide +kernel
theorem dX4_send_14 : decode cX4_send 14 = .ok (.getfield 18, 3) := by decide +kernel
theorem dX4_send_17 : decode cX4_send 17 = .ok (.aload_n 1, 1) := by decide +kernel
theorem dX4_send_18 : decode cX4_send 18 = .ok (.invokevirtual 75, 3) := by decide +kernel
theorem dX4_send_21 : decode cX4_send 21 = .ok (.aload_n 1, 1) := by decide +kernel
theorem dX4_send_22 : decode cX4_send 22 = .ok (.invokevirtual 78, 3) := by decide +kernel
theorem dX4_send_25 : decode cX4_send 25 = .ok (.istore_n 2, 1) := by decide +kernel
theorem dX4_send_26 : decode cX4_send 26 = .ok (.iconst 0, 1) := by decide +kernel
theorem dX4_send_27 : decode cX4_send 27 = .ok (.istore_n 3, 1) := by decide +kernel
theorem dX4_send_28 : decode cX4_send 28 = .ok (.iload_n 3, 1) := by decide +kernel
theorem dX4_send_29 : decode cX4_send 29 = .ok (.iload_n 2, 1) := by decide +kernel
theorem dX4_send_30 : decode cX4_send 30 = .ok (.if_icmp .ge 19, 3) := by decide +kernel
theorem dX4_send_33 : decode cX4_send 33 = .ok (.aload_n 0, 1) := by decide +kernel
theorem dX4_send_34 : decode cX4_send 34 = .ok (.aload_n 1, 1) := by decide +kernel
theorem dX4_send_35 : decode cX4_send 35 = .ok (.iload_n 3, 1) := by decide +kernel
theorem dX4_send_36 : decode cX4_send 36 = .ok (.aload_n 0, 1) := by decide +kernel
theorem dX4_send_37 : decode cX4_send 37 = .ok (.getfield 12, 3) := by decide +kernel
theorem dX4_send_40 : decode cX4_send 40 = .ok (.invokevirtual 82, 3) := by decide +kernel
theorem dX4_send_43 : decode cX4_send 43 = .ok (.iinc 3 1, 3) := by decide +kernel
theorem dX4_send_46 : decode cX4_send 46 = .ok (.goto (-18), 3) := by decide +kernel
theorem dX4_send_49 : decode cX4_send 49 = .ok (.aload_n 1, 1) := by decide +kernel
theorem dX4_send_50 : decode cX4_send 50 = .ok (.invokevirtual 86, 3) := by decide +kernel
theorem dX4_send_53 : decode cX4_send 53 = .ok (.istore_n 3, 1) := by decide +kernel
theorem dX4_send_54 : decode cX4_send 54 = .ok (.iload_n 3, 1) := by decide +kernel
theorem dX4_send_55 : decode cX4_send 55 = .ok (.aload_n 1, 1) := by decide +kernel
theorem dX4_send_56 : decode cX4_send 56 = .ok (.getfield 38, 3) := by decide +kernel
theorem dX4_send_59 : decode cX4_send 59 = .ok (.if_icmp .ge 19, 3) := by decide +kernel
theorem dX4_send_62 : decode cX4_send 62 = .ok (.aload_n 0, 1) := by decide +kernel
theorem dX4_send_63 : decode cX4_send 63 = .ok (.aload_n 1, 1) := by decide +kernel
theorem dX4_send_64 : decode cX4_send 64 = .ok (.iload_n 3, 1) := by decide +kernel
theorem dX4_send_65 : decode cX4_send 65 = .ok (.aload_n 0, 1) := by decide +kernel
theorem dX4_send_66 : decode cX4_send 66 = .ok (.getfield 18, 3) := by decide +kernel
theorem dX4_send_69 : decode cX4_send 69 = .ok (.invokevirtual 82, 3) := by decide +kernel
theorem dX4_send_72 : decode cX4_send 72 = .ok (.iinc 3 1, 3) := by decide +kernel
theorem dX4_send_75 : decode cX4_send 75 = .ok (.goto (-21), 3) := by decide +kernel
theorem dX4_send_78 : decode cX4_send 78 = .ok (.iconst 0, 1) := by decide +kernel
theorem dX4_send_79 : decode cX4_send 79 = .ok (.istore_n 3, 1) := by decide +kernel
theorem dX4_send_80 : decode cX4_send 80 = .ok (.iload_n 3, 1) := by decide +kernel
theorem dX4_send_81 : decode cX4_send 81 = .ok (.aload_n 1, 1) := by decide +kernel
theorem dX4_send_82 : decode cX4_send 82 = .ok (.getfield 52, 3) := by decide +kernel
theorem dX4_send_85 : decode cX4_send 85 = .ok (.if_icmp .ge 39, 3) := by decide +kernel
theorem dX4_send_88 : decode cX4_send 88 = .ok (.aload_n 1, 1) := by decide +kernel
theorem dX4_send_89 : decode cX4_send 89 = .ok (.iload_n 3, 1) := by decide +kernel
theorem dX4_send_90 : decode cX4_send 90 = .ok (.aload_n 0, 1) := by decide +kernel
theorem dX4_send_91 : decode cX4_send 91 = .ok (.getfield 12, 3) := by decide +kernel
theorem dX4_send_94 : decode cX4_send 94 = .ok (.getfield 89, 3) := by decide +kernel
theorem dX4_send_97 : decode cX4_send 97 = .ok (.iload_n 3, 1) := by decide +kernel
theorem dX4_send_98 : decode cX4_send 98 = .ok (.iaload, 1) := by decide +kernel
theorem dX4_send_99 : decode cX4_send 99 = .ok (.aload_n 0, 1) := by decide +kernel
theorem dX4_send_100 : decode cX4_send 100 = .ok (.getfield 18, 3) := by decide +kernel
theorem dX4_send_103 : decode cX4_send 103 = .ok (.getfield 89, 3) := by decide +kernel
theorem dX4_send_106 : decode cX4_send 106 = .ok (.iload_n 3, 1) := by decide +kernel
theorem dX4_send_107 : decode cX4_send 107 = .ok (.iaload, 1) := by decide +kernel
theorem dX4_send_108 : decode cX4_send 108 = .ok (.iadd, 1) := by decide +kernel
theorem dX4_send_109 : decode cX4_send 109 = .ok (.aload_n 0, 1) := by decide +kernel
theorem dX4_send_110 : decode cX4_send 110 = .ok (.aload_n 1, 1) := by decide +kernel
theorem dX4_send_111 : decode cX4_send 111 = .ok (.iload_n 3, 1) := by decide +kernel
theorem dX4_send_112 : decode cX4_send 112 = .ok (.invokevirtual 92, 3) := by decide +kernel
theorem dX4_send_115 : decode cX4_send 115 = .ok (.invokevirtual 59, 3) := by decide +kernel
theorem dX4_send_118 : decode cX4_send 118 = .ok (.iinc 3 1, 3) := by decide +kernel
theorem dX4_send_121 : decode cX4_send 121 = .ok (.goto (-41), 3) := by decide +kernel
theorem dX4_send_124 : decode cX4_send 124 = .ok (.aload_n 1, 1) := by decide +kernel
theorem dX4_send_125 : decode cX4_send 125 = .ok (.iconst 1, 1) := by decide +kernel
theorem dX4_send_126 : decode cX4_send 126 = .ok (.putfield 62, 3) := by decide +kernel
theorem dX4_send_129 : decode cX4_send 129 = .ok (.aload_n 1, 1) := by decide +kernel
theorem dX4_send_130 : decode cX4_send 130 = .ok (.invokevirtual 96, 3) := by decide +kernel
theorem dX4_send_133 : decode cX4_send 133 = .ok (.ifCond .eq 10, 3) := by decide +kernel
theorem dX4_send_136 : decode cX4_send 136 = .ok (.aload_n 1, 1) := by decide +kernel
theorem dX4_send_137 : decode cX4_send 137 = .ok (.invokevirtual 100, 3) := by decide +kernel
theorem dX4_send_140 : decode cX4_send 140 = .ok (.goto 7, 3) := by decide +kernel
theorem dX4_send_143 : decode cX4_send 143 = .ok (.aload_n 1, 1) := by decide +kernel
theorem dX4_send_144 : decode cX4_send 144 = .ok (.invokevirtual 103, 3) := by decide +kernel
theorem dX4_send_147 : decode cX4_send 147 = .ok (.return_, 1) := by decide +kernel
theorem dX4_pass_0 : decode cX4_pass 0 = .ok (.iconst 0, 1) := by decide +kernel
theorem dX4_pass_1 : decode cX4_pass 1 = .ok (.istore 4, 2) := by decide +kernel
theorem dX4_pass_3 : decode cX4_pass 3 = .ok (.iload 4, 2) := by decide +kernel
theorem dX4_pass_5 : decode cX4_pass 5 = .ok (.aload_n 1, 1) := by decide +kernel
theorem dX4_pass_6 : decode cX4_pass 6 = .ok (.getfield 52, 3) := by decide +kernel
theorem dX4_pass_9 : decode cX4_pass 9 = .ok (.if_icmp .ge 40, 3) := by decide +kernel
theorem dX4_pass_12 : decode cX4_pass 12 = .ok (.aload_n 3, 1) := by decide +kernel
theorem dX4_pass_13 : decode cX4_pass 13 = .ok (.aload_n 1, 1) := by decide +kernel
theorem dX4_pass_14 : decode cX4_pass 14 = .ok (.iload 4, 2) := by decide +kernel
theorem dX4_pass_16 : decode cX4_pass 16 = .ok (.iload_n 2, 1) := by decide +kernel
theorem dX4_pass_17 : decode cX4_pass 17 = .ok (.invokevirtual 106, 3) := by decide +kernel
theorem dX4_pass_20 : decode cX4_pass 20 = .ok (.ifCond .eq 23, 3) := by decide +kernel
theorem dX4_pass_23 : decode cX4_pass 23 = .ok (.aload_n 0, 1) := by decide +kernel
theorem dX4_pass_24 : decode cX4_pass 24 = .ok (.dup, 1) := by decide +kernel
theorem dX4_pass_25 : decode cX4_pass 25 = .ok (.getfield 21, 3) := by decide +kernel
theorem dX4_pass_28 : decode cX4_pass 28 = .ok (.iconst 1, 1) := by decide +kernel
theorem dX4_pass_29 : decode cX4_pass 29 = .ok (.iload_n 2, 1) := by decide +kernel
theorem dX4_pass_30 : decode cX4_pass 30 = .ok (.ishl, 1) := by decide +kernel
theorem dX4_pass_31 : decode cX4_pass 31 = .ok (.ior, 1) := by decide +kernel
theorem dX4_pass_32 : decode cX4_pass 32 = .ok (.putfield 21, 3) := by decide +kernel
theorem dX4_pass_35 : decode cX4_pass 35 = .ok (.aload_n 3, 1) := by decide +kernel
theorem dX4_pass_36 : decode cX4_pass 36 = .ok (.aload_n 1, 1) := by decide +kernel
theorem dX4_pass_37 : decode cX4_pass 37 = .ok (.iload 4, 2) := by decide +kernel
theorem dX4_pass_39 : decode cX4_pass 39 = .ok (.iload_n 2, 1) := by decide +kernel
theorem dX4_pass_40 : decode cX4_pass 40 = .ok (.invokevirtual 110, 3) := by decide +kernel
theorem dX4_pass_43 : decode cX4_pass 43 = .ok (.iinc 4 1, 3) := by decide +kernel
theorem dX4_pass_46 : decode cX4_pass 46 = .ok (.goto (-43), 3) := by decide +kernel
theorem dX4_pass_49 : decode cX4_pass 49 = .ok (.return_, 1) := by decide +kernel
theorem dX4_joinedData_0 : decode cX4_joinedData 0 = .ok (.aload_n 1, 1) := by decide +kernel
theorem dX4_joinedData_1 : decode cX4_joinedData 1 = .ok (.iload_n 2, 1) := by decide +kernel
theorem dX4_joinedData_2 : decode cX4_joinedData 2 = .ok (.iconst 0, 1) := by decide +kernel
theorem dX4_joinedData_3 : decode cX4_joinedData 3 = .ok (.invokevirtual 55, 3) := by decide +kernel
theorem dX4_joinedData_6 : decode cX4_joinedData 6 = .ok (.bipush 114, 2) := by decide +kernel
theorem dX4_joinedData_8 : decode cX4_joinedData 8 = .ok (.if_icmp .ne 34, 3) := by decide +kernel
theorem dX4_joinedData_11 : decode cX4_joinedData 11 = .ok (.aload_n 1, 1) := by decide +kernel
theorem dX4_joinedData_12 : decode cX4_joinedData 12 = .ok (.iload_n 2, 1) := by decide +kernel
theorem dX4_joinedData_13 : decode cX4_joinedData 13 = .ok (.iconst 1, 1) := by decide +kernel
theorem dX4_joinedData_14 : decode cX4_joinedData 14 = .ok (.invokevirtual 55, 3) := by decide +kernel
theorem dX4_joinedData_17 : decode cX4_joinedData 17 = .ok (.bipush 98, 2) := by decide +kernel
theorem dX4_joinedData_19 : decode cX4_joinedData 19 = .ok (.if_icmp .ne 23, 3) := by decide +kernel
theorem dX4_joinedData_22 : decode cX4_joinedData 22 = .ok (.aload_n 0, 1) := by decide +kernel
theorem dX4_joinedData_23 : decode cX4_joinedData 23 = .ok (.getfield 12, 3) := by decide +kernel
theorem dX4_joinedData_26 : decode cX4_joinedData 26 = .ok (.getfield 114, 3) := by decide +kernel
theorem dX4_joinedData_29 : decode cX4_joinedData 29 = .ok (.iload_n 2, 1) := by decide +kernel
theorem dX4_joinedData_30 : decode cX4_joinedData 30 = .ok (.iaload, 1) := by decide +kernel
theorem dX4_joinedData_31 : decode cX4_joinedData 31 = .ok (.aload_n 0, 1) := by decide +kernel
theorem dX4_joinedData_32 : decode cX4_joinedData 32 = .ok (.getfield 18, 3) := by decide +kernel
theorem dX4_joinedData_35 : decode cX4_joinedData 35 = .ok (.getfield 114, 3) := by decide +kernel
theorem dX4_joinedData_38 : decode cX4_joinedData 38 = .ok (.iload_n 2, 1) := by decide +kernel
theorem dX4_joinedData_39 : decode cX4_joinedData 39 = .ok (.iaload, 1) := by decide +kernel
theorem dX4_joinedData_40 : decode cX4_joinedData 40 = .ok (.ior, 1) := by decide +kernel
theorem dX4_joinedData_41 : decode cX4_joinedData 41 = .ok (.ireturn, 1) := by decide +kernel
theorem dX4_joinedData_42 : decode cX4_joinedData 42 = .ok (.aload_n 0, 1) := by decide +kernel
theorem dX4_joinedData_43 : decode cX4_joinedData 43 = .ok (.getfield 18, 3) := by decide +kernel
theorem dX4_joinedData_46 : decode cX4_joinedData 46 = .ok (.getfield 89, 3) := by decide +kernel
theorem dX4_joinedData_49 : decode cX4_joinedData 49 = .ok (.iload_n 2, 1) := by decide +kernel
theorem dX4_joinedData_50 : decode cX4_joinedData 50 = .ok (.iaload, 1) := by decide +kernel
theorem dX4_joinedData_51 : decode cX4_joinedData 51 = .ok (.ifCond .le 15, 3) := by decide +kernel
theorem dX4_joinedData_54 : decode cX4_joinedData 54 = .ok (.aload_n 0, 1) := by decide +kernel
theorem dX4_joinedData_55 : decode cX4_joinedData 55 = .ok (.getfield 18, 3) := by decide +kernel
theorem dX4_joinedData_58 : decode cX4_joinedData 58 = .ok (.getfield 114, 3) := by decide +kernel
theorem dX4_joinedData_61 : decode cX4_joinedData 61 = .ok (.iload_n 2, 1) := by decide +kernel
theorem dX4_joinedData_62 : decode cX4_joinedData 62 = .ok (.iaload, 1) := by decide +kernel
theorem dX4_joinedData_63 : decode cX4_joinedData 63 = .ok (.goto 12, 3) := by decide +kernel
theorem dX4_joinedData_66 : decode cX4_joinedData 66 = .ok (.aload_n 0, 1) := by decide +kernel
theorem dX4_joinedData_67 : decode cX4_joinedData 67 = .ok (.getfield 12, 3) := by decide +kernel
theorem dX4_joinedData_70 : decode cX4_joinedData 70 = .ok (.getfield 114, 3) := by decide +kernel
theorem dX4_joinedData_73 : decode cX4_joinedData 73 = .ok (.iload_n 2, 1) := by decide +kernel
theorem dX4_joinedData_74 : decode cX4_joinedData 74 = .ok (.iaload, 1) := by decide +kernel
theorem dX4_joinedData_75 : decode cX4_joinedData 75 = .ok (.ireturn, 1) := by decide +kernel
theorem dX5_init_0 : decode cX5_init 0 = .ok (.aload_n 0, 1) := by decide +kernel
theorem dX5_init_1 : decode cX5_init 1 = .ok (.invokespecial 3, 3) := by decide +kernel
theorem dX5_init_4 : decode cX5_init 4 = .ok (.aload_n 0, 1) := by decide +kernel
theorem dX5_init_5 : decode cX5_init 5 = .ok (.bipush 6, 2) := by decide +kernel
theorem dX5_init_7 : decode cX5_init 7 = .ok (.newarray .int, 2) := by decide +kernel
theorem dX5_init_9 : decode cX5_init 9 = .ok (.putfield 9, 3) := by decide +kernel
theorem dX5_init_12 : decode cX5_init 12 = .ok (.aload_n 0, 1) := by decide +kernel
theorem dX5_init_13 : decode cX5_init 13 = .ok (.bipush 6, 2) := by decide +kernel
theorem dX5_init_15 : decode cX5_init 15 = .ok (.newarray .int, 2) := by decide +kernel
theorem dX5_init_17 : decode cX5_init 17 = .ok (.putfield 15, 3) := by decide +kernel
theorem dX5_init_20 : decode cX5_init 20 = .ok (.return_, 1) := by decide +kernel
theorem dX5_append_0 : decode cX5_append 0 = .ok (.aload_n 0, 1) := by decide +kernel
theorem dX5_append_1 : decode cX5_append 1 = .ok (.getfield 18, 3) := by decide +kernel
theorem dX5_append_4 : decode cX5_append 4 = .ok (.bipush 6, 2) := by decide +kernel
theorem dX5_append_6 : decode cX5_append 6 = .ok (.if_icmp .ge 33, 3) := by decide +kernel
theorem dX5_append_9 : decode cX5_append 9 = .ok (.aload_n 0, 1) := by decide +kernel
theorem dX5_append_10 : decode cX5_append 10 = .ok (.getfield 9, 3) := by decide +kernel
theorem dX5_append_13 : decode cX5_append 13 = .ok (.aload_n 0, 1) := by decide +kernel
theorem dX5_append_14 : decode cX5_append 14 = .ok (.getfield 18, 3) := by decide +kernel
theorem dX5_append_17 : decode cX5_append 17 = .ok (.iload_n 1, 1) := by decide +kernel
theorem dX5_append_18 : decode cX5_append 18 = .ok (.iastore, 1) := by decide +kernel
theorem dX5_append_19 : decode cX5_append 19 = .ok (.aload_n 0, 1) := by decide +kernel
theorem dX5_append_20 : decode cX5_append 20 = .ok (.getfield 15, 3) := by decide +kernel
theorem dX5_append_23 : decode cX5_append 23 = .ok (.aload_n 0, 1) := by decide +kernel
theorem dX5_append_24 : decode cX5_append 24 = .ok (.getfield 18, 3) := by decide +kernel
theorem dX5_append_27 : decode cX5_append 27 = .ok (.iload_n 2, 1) := by decide +kernel
theorem dX5_append_28 : decode cX5_append 28 = .ok (.iastore, 1) := by decide +kernel
theorem dX5_append_29 : decode cX5_append 29 = .ok (.aload_n 0, 1) := by decide +kernel
theorem dX5_append_30 : decode cX5_append 30 = .ok (.dup, 1) := by decide +kernel
theorem dX5_append_31 : decode cX5_append 31 = .ok (.getfield 18, 3) := by decide +kernel
theorem dX5_append_34 : decode cX5_append 34 = .ok (.iconst 1, 1) := by decide +kernel
theorem dX5_append_35 : decode cX5_append 35 = .ok (.iadd, 1) := by decide +kernel
theorem dX5_append_36 : decode cX5_append 36 = .ok (.putfield 18, 3) := by decide +kernel
theorem dX5_append_39 : decode cX5_append 39 = .ok (.return_, 1) := by decide +kernel
theorem dX5_agreeWith_0 : decode cX5_agreeWith 0 = .ok (.iconst 0, 1) := by decide +kernel
theorem dX5_agreeWith_1 : decode cX5_agreeWith 1 = .ok (.istore_n 2, 1) := by decide +kernel
theorem dX5_agreeWith_2 : decode cX5_agreeWith 2 = .ok (.iload_n 2, 1) := by decide +kernel
theorem dX5_agreeWith_3 : decode cX5_agreeWith 3 = .ok (.aload_n 0, 1) := by decide +kernel
theorem dX5_agreeWith_4 : decode cX5_agreeWith 4 = .ok (.getfield 18, 3) := by decide +kernel
theorem dX5_agreeWith_7 : decode cX5_agreeWith 7 = .ok (.if_icmp .ge 30, 3) := by decide +kernel
theorem dX5_agreeWith_10 : decode cX5_agreeWith 10 = .ok (.aload_n 1, 1) := by decide +kernel
theorem dX5_agreeWith_11 : decode cX5_agreeWith 11 = .ok (.aload_n 0, 1) := by decide +kernel
theorem dX5_agreeWith_12 : decode cX5_agreeWith 12 = .ok (.getfield 9, 3) := by decide +kernel
theorem dX5_agreeWith_15 : decode cX5_agreeWith 15 = .ok (.iload_n 2, 1) := by decide +kernel
theorem dX5_agreeWith_16 : decode cX5_agreeWith 16 = .ok (.iaload, 1) := by decide +kernel
theorem dX5_agreeWith_17 : decode cX5_agreeWith 17 = .ok (.invokevirtual 22, 3) := by decide +kernel
theorem dX5_agreeWith_20 : decode cX5_agreeWith 20 = .ok (.aload_n 0, 1) := by decide +kernel
theorem dX5_agreeWith_21 : decode cX5_agreeWith 21 = .ok (.getfield 15, 3) := by decide +kernel
theorem dX5_agreeWith_24 : decode cX5_agreeWith 24 = .ok (.iload_n 2, 1) := by decide +kernel
theorem dX5_agreeWith_25 : decode cX5_agreeWith 25 = .ok (.iaload, 1) := by decide +kernel
theorem dX5_agreeWith_26 : decode cX5_agreeWith 26 = .ok (.if_icmp .eq 5, 3) := by decide +kernel
theorem dX5_agreeWith_29 : decode cX5_agreeWith 29 = .ok (.iconst 0, 1) := by decide +kernel
theorem dX5_agreeWith_30 : decode cX5_agreeWith 30 = .ok (.ireturn, 1) := by decide +kernel
theorem dX5_agreeWith_31 : decode cX5_agreeWith 31 = .ok (.iinc 2 1, 3) := by decide +kernel
theorem dX5_agreeWith_34 : decode cX5_agreeWith 34 = .ok (.goto (-32), 3) := by decide +kernel
theorem dX5_agreeWith_37 : decode cX5_agreeWith 37 = .ok (.iconst 1, 1) := by decide +kernel
theorem dX5_agreeWith_38 : decode cX5_agreeWith 38 = .ok (.ireturn, 1) := by decide +kernel
theorem dX6_init_0 : decode cX6_init 0 = .ok (.aload_n 0, 1) := by decide +kernel
theorem dX6_init_1 : decode cX6_init 1 = .ok (.invokespecial 3, 3) := by decide +kernel
theorem dX6_init_4 : decode cX6_init 4 = .ok (.aload_n 0, 1) := by decide +kernel
theorem dX6_init_5 : decode cX6_init 5 = .ok (.bipush 7, 2) := by decide +kernel
theorem dX6_init_7 : decode cX6_init 7 = .ok (.newarray .int, 2) := by decide +kernel
theorem dX6_init_9 : decode cX6_init 9 = .ok (.putfield 9, 3) := by decide +kernel
theorem dX6_init_12 : decode cX6_init 12 = .ok (.aload_n 0, 1) := by decide +kernel
theorem dX6_init_13 : decode cX6_init 13 = .ok (.bipush 42, 2) := by decide +kernel
theorem dX6_init_15 : decode cX6_init 15 = .ok (.newarray .int, 2) := by decide +kernel
theorem dX6_init_17 : decode cX6_init 17 = .ok (.putfield 15, 3) := by decide +kernel
theorem dX6_init_20 : decode cX6_init 20 = .ok (.return_, 1) := by decide +kernel
theorem dX6_append_0 : decode cX6_append 0 = .ok (.aload_n 0, 1) := by decide +kernel
theorem dX6_append_1 : decode cX6_append 1 = .ok (.getfield 18, 3) := by decide +kernel
theorem dX6_append_4 : decode cX6_append 4 = .ok (.bipush 7, 2) := by decide +kernel
theorem dX6_append_6 : decode cX6_append 6 = .ok (.if_icmp .ge 56, 3) := by decide +kernel
theorem dX6_append_9 : decode cX6_append 9 = .ok (.aload_n 0, 1) := by decide +kernel
theorem dX6_append_10 : decode cX6_append 10 = .ok (.getfield 9, 3) := by decide +kernel
theorem dX6_append_13 : decode cX6_append 13 = .ok (.aload_n 0, 1) := by decide +kernel
theorem dX6_append_14 : decode cX6_append 14 = .ok (.getfield 18, 3) := by decide +kernel
theorem dX6_append_17 : decode cX6_append 17 = .ok (.iload_n 1, 1) := by decide +kernel
theorem dX6_append_18 : decode cX6_append 18 = .ok (.iastore, 1) := by decide +kernel
theorem dX6_append_19 : decode cX6_append 19 = .ok (.iconst 0, 1) := by decide +kernel
theorem dX6_append_20 : decode cX6_append 20 = .ok (.istore_n 3, 1) := by decide +kernel
theorem dX6_append_21 : decode cX6_append 21 = .ok (.iload_n 3, 1) := by decide +kernel
theorem dX6_append_22 : decode cX6_append 22 = .ok (.bipush 6, 2) := by decide +kernel
theorem dX6_append_24 : decode cX6_append 24 = .ok (.if_icmp .ge 28, 3) := by decide +kernel
theorem dX6_append_27 : decode cX6_append 27 = .ok (.aload_n 0, 1) := by decide +kernel
theorem dX6_append_28 : decode cX6_append 28 = .ok (.getfield 15, 3) := by decide +kernel
theorem dX6_append_31 : decode cX6_append 31 = .ok (.aload_n 0, 1) := by decide +kernel
theorem dX6_append_32 : decode cX6_append 32 = .ok (.getfield 18, 3) := by decide +kernel
theorem dX6_append_35 : decode cX6_append 35 = .ok (.bipush 6, 2) := by decide +kernel
theorem dX6_append_37 : decode cX6_append 37 = .ok (.imul, 1) := by decide +kernel
theorem dX6_append_38 : decode cX6_append 38 = .ok (.iload_n 3, 1) := by decide +kernel
theorem dX6_append_39 : decode cX6_append 39 = .ok (.iadd, 1) := by decide +kernel
theorem dX6_append_40 : decode cX6_append 40 = .ok (.aload_n 2, 1) := by decide +kernel
theorem dX6_append_41 : decode cX6_append 41 = .ok (.iload_n 3, 1) := by decide +kernel
theorem dX6_append_42 : decode cX6_append 42 = .ok (.invokevirtual 22, 3) := by decide +kernel
theorem dX6_append_45 : decode cX6_append 45 = .ok (.iastore, 1) := by decide +kernel
theorem dX6_append_46 : decode cX6_append 46 = .ok (.iinc 3 1, 3) := by decide +kernel
theorem dX6_append_49 : decode cX6_append 49 = .ok (.goto (-28), 3) := by decide +kernel
theorem dX6_append_52 : decode cX6_append 52 = .ok (.aload_n 0, 1) := by decide +kernel
theorem dX6_append_53 : decode cX6_append 53 = .ok (.dup, 1) := by decide +kernel
theorem dX6_append_54 : decode cX6_append 54 = .ok (.getfield 18, 3) := by decide +kernel
theorem dX6_append_57 : decode cX6_append 57 = .ok (.iconst 1, 1) := by decide +kernel
theorem dX6_append_58 : decode cX6_append 58 = .ok (.iadd, 1) := by decide +kernel
theorem dX6_append_59 : decode cX6_append 59 = .ok (.putfield 18, 3) := by decide +kernel
theorem dX6_append_62 : decode cX6_append 62 = .ok (.return_, 1) := by decide +kernel
theorem dX6_bestLook_0 : decode cX6_bestLook 0 = .ok (.iconst 0, 1) := by decide +kernel
theorem dX6_bestLook_1 : decode cX6_bestLook 1 = .ok (.istore_n 1, 1) := by decide +kernel
theorem dX6_bestLook_2 : decode cX6_bestLook 2 = .ok (.aload_n 0, 1) := by decide +kernel
theorem dX6_bestLook_3 : decode cX6_bestLook 3 = .ok (.iconst 0, 1) := by decide +kernel
theorem dX6_bestLook_4 : decode cX6_bestLook 4 = .ok (.invokevirtual 28, 3) := by decide +kernel
theorem dX6_bestLook_7 : decode cX6_bestLook 7 = .ok (.istore_n 2, 1) := by decide +kernel
theorem dX6_bestLook_8 : decode cX6_bestLook 8 = .ok (.iconst 1, 1) := by decide +kernel
theorem dX6_bestLook_9 : decode cX6_bestLook 9 = .ok (.istore_n 3, 1) := by decide +kernel
theorem dX6_bestLook_10 : decode cX6_bestLook 10 = .ok (.iload_n 3, 1) := by decide +kernel
theorem dX6_bestLook_11 : decode cX6_bestLook 11 = .ok (.bipush 6, 2) := by decide +kernel
theorem dX6_bestLook_13 : decode cX6_bestLook 13 = .ok (.if_icmp .ge 27, 3) := by decide +kernel
theorem dX6_bestLook_16 : decode cX6_bestLook 16 = .ok (.aload_n 0, 1) := by decide +kernel
theorem dX6_bestLook_17 : decode cX6_bestLook 17 = .ok (.iload_n 3, 1) := by decide +kernel
theorem dX6_bestLook_18 : decode cX6_bestLook 18 = .ok (.invokevirtual 28, 3) := by decide +kernel
theorem dX6_bestLook_21 : decode cX6_bestLook 21 = .ok (.istore 4, 2) := by decide +kernel
theorem dX6_bestLook_23 : decode cX6_bestLook 23 = .ok (.iload 4, 2) := by decide +kernel
theorem dX6_bestLook_25 : decode cX6_bestLook 25 = .ok (.iload_n 2, 1) := by decide +kernel
theorem dX6_bestLook_26 : decode cX6_bestLook 26 = .ok (.if_icmp .ge 8, 3) := by decide +kernel
theorem dX6_bestLook_29 : decode cX6_bestLook 29 = .ok (.iload_n 3, 1) := by decide +kernel
theorem dX6_bestLook_30 : decode cX6_bestLook 30 = .ok (.istore_n 1, 1) := by decide +kernel
theorem dX6_bestLook_31 : decode cX6_bestLook 31 = .ok (.iload 4, 2) := by decide +kernel
theorem dX6_bestLook_33 : decode cX6_bestLook 33 = .ok (.istore_n 2, 1) := by decide +kernel
theorem dX6_bestLook_34 : decode cX6_bestLook 34 = .ok (.iinc 3 1, 3) := by decide +kernel
theorem dX6_bestLook_37 : decode cX6_bestLook 37 = .ok (.goto (-27), 3) := by decide +kernel
theorem dX6_bestLook_40 : decode cX6_bestLook 40 = .ok (.iload_n 1, 1) := by decide +kernel
theorem dX6_bestLook_41 : decode cX6_bestLook 41 = .ok (.ireturn, 1) := by decide +kernel
theorem dX6_mostAlike_0 : decode cX6_mostAlike 0 = .ok (.iconst 0, 1) := by decide +kernel
theorem dX6_mostAlike_1 : decode cX6_mostAlike 1 = .ok (.istore_n 2, 1) := by decide +kernel
theorem dX6_mostAlike_2 : decode cX6_mostAlike 2 = .ok (.iconst 0, 1) := by decide +kernel
theorem dX6_mostAlike_3 : decode cX6_mostAlike 3 = .ok (.istore_n 3, 1) := by decide +kernel
theorem dX6_mostAlike_4 : decode cX6_mostAlike 4 = .ok (.iload_n 3, 1) := by decide +kernel
theorem dX6_mostAlike_5 : decode cX6_mostAlike 5 = .ok (.aload_n 0, 1) := by decide +kernel
theorem dX6_mostAlike_6 : decode cX6_mostAlike 6 = .ok (.getfield 18, 3) := by decide +kernel
theorem dX6_mostAlike_9 : decode cX6_mostAlike 9 = .ok (.if_icmp .ge 20, 3) := by decide +kernel
theorem dX6_mostAlike_12 : decode cX6_mostAlike 12 = .ok (.iload_n 2, 1) := by decide +kernel
theorem dX6_mostAlike_13 : decode cX6_mostAlike 13 = .ok (.aload_n 0, 1) := by decide +kernel
theorem dX6_mostAlike_14 : decode cX6_mostAlike 14 = .ok (.iload_n 3, 1) := by decide +kernel
theorem dX6_mostAlike_15 : decode cX6_mostAlike 15 = .ok (.iload_n 1, 1) := by decide +kernel
theorem dX6_mostAlike_16 : decode cX6_mostAlike 16 = .ok (.invokevirtual 31, 3) := by decide +kernel
theorem dX6_mostAlike_19 : decode cX6_mostAlike 19 = .ok (.invokestatic 35, 3) := by decide +kernel
theorem dX6_mostAlike_22 : decode cX6_mostAlike 22 = .ok (.istore_n 2, 1) := by decide +kernel
theorem dX6_mostAlike_23 : decode cX6_mostAlike 23 = .ok (.iinc 3 1, 3) := by decide +kernel
theorem dX6_mostAlike_26 : decode cX6_mostAlike 26 = .ok (.goto (-22), 3) := by decide +kernel
theorem dX6_mostAlike_29 : decode cX6_mostAlike 29 = .ok (.iload_n 2, 1) := by decide +kernel
theorem dX6_mostAlike_30 : decode cX6_mostAlike 30 = .ok (.ireturn, 1) := by decide +kernel
theorem dX6_alikeWith_0 : decode cX6_alikeWith 0 = .ok (.iconst 0, 1) := by decide +kernel
theorem dX6_alikeWith_1 : decode cX6_alikeWith 1 = .ok (.istore_n 3, 1) := by decide +kernel
theorem dX6_alikeWith_2 : decode cX6_alikeWith 2 = .ok (.iconst 0, 1) := by decide +kernel
theorem dX6_alikeWith_3 : decode cX6_alikeWith 3 = .ok (.istore 4, 2) := by decide +kernel
theorem dX6_alikeWith_5 : decode cX6_alikeWith 5 = .ok (.iload 4, 2) := by decide +kernel
theorem dX6_alikeWith_7 : decode cX6_alikeWith 7 = .ok (.aload_n 0, 1) := by decide +kernel
theorem dX6_alikeWith_8 : decode cX6_alikeWith 8 = .ok (.getfield 18, 3) := by decide +kernel
theorem dX6_alikeWith_11 : decode cX6_alikeWith 11 = .ok (.if_icmp .ge 38, 3) := by decide +kernel
theorem dX6_alikeWith_14 : decode cX6_alikeWith 14 = .ok (.aload_n 0, 1) := by decide +kernel
theorem dX6_alikeWith_15 : decode cX6_alikeWith 15 = .ok (.getfield 15, 3) := by decide +kernel
theorem dX6_alikeWith_18 : decode cX6_alikeWith 18 = .ok (.iload 4, 2) := by decide +kernel
theorem dX6_alikeWith_20 : decode cX6_alikeWith 20 = .ok (.bipush 6, 2) := by decide +kernel
theorem dX6_alikeWith_22 : decode cX6_alikeWith 22 = .ok (.imul, 1) := by decide +kernel
theorem dX6_alikeWith_23 : decode cX6_alikeWith 23 = .ok (.iload_n 2, 1) := by decide +kernel
theorem dX6_alikeWith_24 : decode cX6_alikeWith 24 = .ok (.iadd, 1) := by decide +kernel
theorem dX6_alikeWith_25 : decode cX6_alikeWith 25 = .ok (.iaload, 1) := by decide +kernel
theorem dX6_alikeWith_26 : decode cX6_alikeWith 26 = .ok (.aload_n 0, 1) := by decide +kernel
theorem dX6_alikeWith_27 : decode cX6_alikeWith 27 = .ok (.getfield 15, 3) := by decide +kernel
theorem dX6_alikeWith_30 : decode cX6_alikeWith 30 = .ok (.iload_n 1, 1) := by decide +kernel
theorem dX6_alikeWith_31 : decode cX6_alikeWith 31 = .ok (.bipush 6, 2) := by decide +kernel
theorem dX6_alikeWith_33 : decode cX6_alikeWith 33 = .ok (.imul, 1) := by decide +kernel
theorem dX6_alikeWith_34 : decode cX6_alikeWith 34 = .ok (.iload_n 2, 1) := by decide +kernel
theorem dX6_alikeWith_35 : decode cX6_alikeWith 35 = .ok (.iadd, 1) := by decide +kernel
theorem dX6_alikeWith_36 : decode cX6_alikeWith 36 = .ok (.iaload, 1) := by decide +kernel
theorem dX6_alikeWith_37 : decode cX6_alikeWith 37 = .ok (.if_icmp .ne 6, 3) := by decide +kernel
theorem dX6_alikeWith_40 : decode cX6_alikeWith 40 = .ok (.iinc 3 1, 3) := by decide +kernel
theorem dX6_alikeWith_43 : decode cX6_alikeWith 43 = .ok (.iinc 4 1, 3) := by decide +kernel
theorem dX6_alikeWith_46 : decode cX6_alikeWith 46 = .ok (.goto (-41), 3) := by decide +kernel
theorem dX6_alikeWith_49 : decode cX6_alikeWith 49 = .ok (.iload_n 3, 1) := by decide +kernel
theorem dX6_alikeWith_50 : decode cX6_alikeWith 50 = .ok (.ireturn, 1) := by decide +kernel
theorem dX7_init_0 : decode cX7_init 0 = .ok (.aload_n 0, 1) := by decide +kernel
theorem dX7_init_1 : decode cX7_init 1 = .ok (.invokespecial 3, 3) := by decide +kernel
theorem dX7_init_4 : decode cX7_init 4 = .ok (.aload_n 0, 1) := by decide +kernel
theorem dX7_init_5 : decode cX7_init 5 = .ok (.bipush 120, 2) := by decide +kernel
theorem dX7_init_7 : decode cX7_init 7 = .ok (.newarray .int, 2) := by decide +kernel
theorem dX7_init_9 : decode cX7_init 9 = .ok (.putfield 9, 3) := by decide +kernel
theorem dX7_init_12 : decode cX7_init 12 = .ok (.return_, 1) := by decide +kernel
theorem dX7_append_0 : decode cX7_append 0 = .ok (.aload_n 0, 1) := by decide +kernel
theorem dX7_append_1 : decode cX7_append 1 = .ok (.getfield 15, 3) := by decide +kernel
theorem dX7_append_4 : decode cX7_append 4 = .ok (.bipush 120, 2) := by decide +kernel
theorem dX7_append_6 : decode cX7_append 6 = .ok (.if_icmp .ge 23, 3) := by decide +kernel
theorem dX7_append_9 : decode cX7_append 9 = .ok (.aload_n 0, 1) := by decide +kernel
theorem dX7_append_10 : decode cX7_append 10 = .ok (.getfield 9, 3) := by decide +kernel
theorem dX7_append_13 : decode cX7_append 13 = .ok (.aload_n 0, 1) := by decide +kernel
theorem dX7_append_14 : decode cX7_append 14 = .ok (.getfield 15, 3) := by decide +kernel
theorem dX7_append_17 : decode cX7_append 17 = .ok (.iload_n 1, 1) := by decide +kernel
theorem dX7_append_18 : decode cX7_append 18 = .ok (.iastore, 1) := by decide +kernel
theorem dX7_append_19 : decode cX7_append 19 = .ok (.aload_n 0, 1) := by decide +kernel
theorem dX7_append_20 : decode cX7_append 20 = .ok (.dup, 1) := by decide +kernel
theorem dX7_append_21 : decode cX7_append 21 = .ok (.getfield 15, 3) := by decide +kernel
theorem dX7_append_24 : decode cX7_append 24 = .ok (.iconst 1, 1) := by decide +kernel
theorem dX7_append_25 : decode cX7_append 25 = .ok (.iadd, 1) := by decide +kernel
theorem dX7_append_26 : decode cX7_append 26 = .ok (.putfield 15, 3) := by decide +kernel
theorem dX7_append_29 : decode cX7_append 29 = .ok (.return_, 1) := by decide +kernel
theorem dX7_begin_0 : decode cX7_begin 0 = .ok (.aload_n 0, 1) := by decide +kernel
theorem dX7_begin_1 : decode cX7_begin 1 = .ok (.iconst 0, 1) := by decide +kernel
theorem dX7_begin_2 : decode cX7_begin 2 = .ok (.putfield 19, 3) := by decide +kernel
theorem dX7_begin_5 : decode cX7_begin 5 = .ok (.aload_n 0, 1) := by decide +kernel
theorem dX7_begin_6 : decode cX7_begin 6 = .ok (.invokevirtual 22, 3) := by decide +kernel
theorem dX7_begin_9 : decode cX7_begin 9 = .ok (.return_, 1) := by decide +kernel
theorem dX7_step_0 : decode cX7_step 0 = .ok (.aload_n 0, 1) := by decide +kernel
theorem dX7_step_1 : decode cX7_step 1 = .ok (.getfield 19, 3) := by decide +kernel
theorem dX7_step_4 : decode cX7_step 4 = .ok (.aload_n 0, 1) := by decide +kernel
theorem dX7_step_5 : decode cX7_step 5 = .ok (.getfield 15, 3) := by decide +kernel
theorem dX7_step_8 : decode cX7_step 8 = .ok (.if_icmp .ge 30, 3) := by decide +kernel
theorem dX7_step_11 : decode cX7_step 11 = .ok (.aload_n 0, 1) := by decide +kernel
theorem dX7_step_12 : decode cX7_step 12 = .ok (.getfield 9, 3) := by decide +kernel
theorem dX7_step_15 : decode cX7_step 15 = .ok (.aload_n 0, 1) := by decide +kernel
theorem dX7_step_16 : decode cX7_step 16 = .ok (.getfield 19, 3) := by decide +kernel
theorem dX7_step_19 : decode cX7_step 19 = .ok (.iaload, 1) := by decide +kernel
theorem dX7_step_20 : decode cX7_step 20 = .ok (.bipush 32, 2) := by decide +kernel
theorem dX7_step_22 : decode cX7_step 22 = .ok (.if_icmp .ne 16, 3) := by decide +kernel
theorem dX7_step_25 : decode cX7_step 25 = .ok (.aload_n 0, 1) := by decide +kernel
theorem dX7_step_26 : decode cX7_step 26 = .ok (.dup, 1) := by decide +kernel
theorem dX7_step_27 : decode cX7_step 27 = .ok (.getfield 19, 3) := by decide +kernel
theorem dX7_step_30 : decode cX7_step 30 = .ok (.iconst 1, 1) := by decide +kernel
theorem dX7_step_31 : decode cX7_step 31 = .ok (.iadd, 1) := by decide +kernel
theorem dX7_step_32 : decode cX7_step 32 = .ok (.putfield 19, 3) := by decide +kernel
theorem dX7_step_35 : decode cX7_step 35 = .ok (.goto (-35), 3) := by decide +kernel
theorem dX7_step_38 : decode cX7_step 38 = .ok (.aload_n 0, 1) := by decide +kernel
theorem dX7_step_39 : decode cX7_step 39 = .ok (.aload_n 0, 1) := by decide +kernel
theorem dX7_step_40 : decode cX7_step 40 = .ok (.getfield 19, 3) := by decide +kernel
theorem dX7_step_43 : decode cX7_step 43 = .ok (.putfield 25, 3) := by decide +kernel
theorem dX7_step_46 : decode cX7_step 46 = .ok (.aload_n 0, 1) := by decide +kernel
theorem dX7_step_47 : decode cX7_step 47 = .ok (.getfield 19, 3) := by decide +kernel
theorem dX7_step_50 : decode cX7_step 50 = .ok (.aload_n 0, 1) := by decide +kernel
theorem dX7_step_51 : decode cX7_step 51 = .ok (.getfield 15, 3) := by decide +kernel
theorem dX7_step_54 : decode cX7_step 54 = .ok (.if_icmp .lt 13, 3) := by decide +kernel
theorem dX7_step_57 : decode cX7_step 57 = .ok (.aload_n 0, 1) := by decide +kernel
theorem dX7_step_58 : decode cX7_step 58 = .ok (.sipush 257, 3) := by decide +kernel
theorem dX7_step_61 : decode cX7_step 61 = .ok (.putfield 28, 3) := by decide +kernel
theorem dX7_step_64 : decode cX7_step 64 = .ok (.goto 48, 3) := by decide +kernel
theorem dX7_step_67 : decode cX7_step 67 = .ok (.aload_n 0, 1) := by decide +kernel
theorem dX7_step_68 : decode cX7_step 68 = .ok (.getfield 9, 3) := by decide +kernel
theorem dX7_step_71 : decode cX7_step 71 = .ok (.aload_n 0, 1) := by decide +kernel
theorem dX7_step_72 : decode cX7_step 72 = .ok (.getfield 19, 3) := by decide +kernel
theorem dX7_step_75 : decode cX7_step 75 = .ok (.iaload, 1) := by decide +kernel
theorem dX7_step_76 : decode cX7_step 76 = .ok (.invokestatic 31, 3) := by decide +kernel
theorem dX7_step_79 : decode cX7_step 79 = .ok (.ifCond .eq 10, 3) := by decide +kernel
theorem dX7_step_82 : decode cX7_step 82 = .ok (.aload_n 0, 1) := by decide +kernel
theorem dX7_step_83 : decode cX7_step 83 = .ok (.invokevirtual 35, 3) := by decide +kernel
theorem dX7_step_86 : decode cX7_step 86 = .ok (.goto 26, 3) := by decide +kernel
theorem dX7_step_89 : decode cX7_step 89 = .ok (.aload_n 0, 1) := by decide +kernel
theorem dX7_step_90 : decode cX7_step 90 = .ok (.aload_n 0, 1) := by decide +kernel
theorem dX7_step_91 : decode cX7_step 91 = .ok (.getfield 9, 3) := by decide +kernel
theorem dX7_step_94 : decode cX7_step 94 = .ok (.aload_n 0, 1) := by decide +kernel
theorem dX7_step_95 : decode cX7_step 95 = .ok (.getfield 19, 3) := by decide +kernel
theorem dX7_step_98 : decode cX7_step 98 = .ok (.iaload, 1) := by decide +kernel
theorem dX7_step_99 : decode cX7_step 99 = .ok (.putfield 28, 3) := by decide +kernel
theorem dX7_step_102 : decode cX7_step 102 = .ok (.aload_n 0, 1) := by decide +kernel
theorem dX7_step_103 : decode cX7_step 103 = .ok (.dup, 1) := by decide +kernel
theorem dX7_step_104 : decode cX7_step 104 = .ok (.getfield 19, 3) := by decide +kernel
theorem dX7_step_107 : decode cX7_step 107 = .ok (.iconst 1, 1) := by decide +kernel
theorem dX7_step_108 : decode cX7_step 108 = .ok (.iadd, 1) := by decide +kernel
theorem dX7_step_109 : decode cX7_step 109 = .ok (.putfield 19, 3) := by decide +kernel
theorem dX7_step_112 : decode cX7_step 112 = .ok (.return_, 1) := by decide +kernel
theorem dX7_stepOverFigures_0 : decode cX7_stepOverFigures 0 = .ok (.aload_n 0, 1) := by decide +kernel
theorem dX7_stepOverFigures_1 : decode cX7_stepOverFigures 1 = .ok (.iconst 0, 1) := by decide +kernel
theorem dX7_stepOverFigures_2 : decode cX7_stepOverFigures 2 = .ok (.putfield 38, 3) := by decide +kernel
theorem dX7_stepOverFigures_5 : decode cX7_stepOverFigures 5 = .ok (.aload_n 0, 1) := by decide +kernel
theorem dX7_stepOverFigures_6 : decode cX7_stepOverFigures 6 = .ok (.getfield 19, 3) := by decide +kernel
theorem dX7_stepOverFigures_9 : decode cX7_stepOverFigures 9 = .ok (.aload_n 0, 1) := by decide +kernel
theorem dX7_stepOverFigures_10 : decode cX7_stepOverFigures 10 = .ok (.getfield 15, 3) := by decide +kernel
theorem dX7_stepOverFigures_13 : decode cX7_stepOverFigures 13 = .ok (.if_icmp .ge 61, 3) := by decide +kernel
theorem dX7_stepOverFigures_16 : decode cX7_stepOverFigures 16 = .ok (.aload_n 0, 1) := by decide +kernel
theorem dX7_stepOverFigures_17 : decode cX7_stepOverFigures 17 = .ok (.getfield 9, 3) := by decide +kernel
theorem dX7_stepOverFigures_20 : decode cX7_stepOverFigures 20 = .ok (.aload_n 0, 1) := by decide +kernel
theorem dX7_stepOverFigures_21 : decode cX7_stepOverFigures 21 = .ok (.getfield 19, 3) := by decide +kernel
theorem dX7_stepOverFigures_24 : decode cX7_stepOverFigures 24 = .ok (.iaload, 1) := by decide +kernel
theorem dX7_stepOverFigures_25 : decode cX7_stepOverFigures 25 = .ok (.invokestatic 31, 3) := by decide +kernel
theorem dX7_stepOverFigures_28 : decode cX7_stepOverFigures 28 = .ok (.ifCond .eq 46, 3) := by decide +kernel
theorem dX7_stepOverFigures_31 : decode cX7_stepOverFigures 31 = .ok (.aload_n 0, 1) := by decide +kernel
theorem dX7_stepOverFigures_32 : decode cX7_stepOverFigures 32 = .ok (.bipush 10, 2) := by decide +kernel
theorem dX7_stepOverFigures_34 : decode cX7_stepOverFigures 34 = .ok (.aload_n 0, 1) := by decide +kernel
theorem dX7_stepOverFigures_35 : decode cX7_stepOverFigures 35 = .ok (.getfield 38, 3) := by decide +kernel
theorem dX7_stepOverFigures_38 : decode cX7_stepOverFigures 38 = .ok (.imul, 1) := by decide +kernel
theorem dX7_stepOverFigures_39 : decode cX7_stepOverFigures 39 = .ok (.aload_n 0, 1) := by decide +kernel
theorem dX7_stepOverFigures_40 : decode cX7_stepOverFigures 40 = .ok (.getfield 9, 3) := by decide +kernel
theorem dX7_stepOverFigures_43 : decode cX7_stepOverFigures 43 = .ok (.aload_n 0, 1) := by decide +kernel
theorem dX7_stepOverFigures_44 : decode cX7_stepOverFigures 44 = .ok (.getfield 19, 3) := by decide +kernel
theorem dX7_stepOverFigures_47 : decode cX7_stepOverFigures 47 = .ok (.iaload, 1) := by decide +kernel
theorem dX7_stepOverFigures_48 : decode cX7_stepOverFigures 48 = .ok (.iadd, 1) := by decide +kernel
theorem dX7_stepOverFigures_49 : decode cX7_stepOverFigures 49 = .ok (.bipush 48, 2) := by decide +kernel
theorem dX7_stepOverFigures_51 : decode cX7_stepOverFigures 51 = .ok (.isub, 1) := by decide +kernel
theorem dX7_stepOverFigures_52 : decode cX7_stepOverFigures 52 = .ok (.sipush 256, 3) := by decide +kernel
theorem dX7_stepOverFigures_55 : decode cX7_stepOverFigures 55 = .ok (.invokestatic 41, 3) := by decide +kernel
theorem dX7_stepOverFigures_58 : decode cX7_stepOverFigures 58 = .ok (.putfield 38, 3) := by decide +kernel
theorem dX7_stepOverFigures_61 : decode cX7_stepOverFigures 61 = .ok (.aload_n 0, 1) := by decide +kernel
theorem dX7_stepOverFigures_62 : decode cX7_stepOverFigures 62 = .ok (.dup, 1) := by decide +kernel
theorem dX7_stepOverFigures_63 : decode cX7_stepOverFigures 63 = .ok (.getfield 19, 3) := by decide +kernel
theorem dX7_stepOverFigures_66 : decode cX7_stepOverFigures 66 = .ok (.iconst 1, 1) := by decide +kernel
theorem dX7_stepOverFigures_67 : decode cX7_stepOverFigures 67 = .ok (.iadd, 1) := by decide +kernel
theorem dX7_stepOverFigures_68 : decode cX7_stepOverFigures 68 = .ok (.putfield 19, 3) := by decide +kernel
theorem dX7_stepOverFigures_71 : decode cX7_stepOverFigures 71 = .ok (.goto (-66), 3) := by decide +kernel
theorem dX7_stepOverFigures_74 : decode cX7_stepOverFigures 74 = .ok (.aload_n 0, 1) := by decide +kernel
theorem dX7_stepOverFigures_75 : decode cX7_stepOverFigures 75 = .ok (.getfield 9, 3) := by decide +kernel
theorem dX7_stepOverFigures_78 : decode cX7_stepOverFigures 78 = .ok (.aload_n 0, 1) := by decide +kernel
theorem dX7_stepOverFigures_79 : decode cX7_stepOverFigures 79 = .ok (.getfield 25, 3) := by decide +kernel
theorem dX7_stepOverFigures_82 : decode cX7_stepOverFigures 82 = .ok (.iaload, 1) := by decide +kernel
theorem dX7_stepOverFigures_83 : decode cX7_stepOverFigures 83 = .ok (.bipush 48, 2) := by decide +kernel
theorem dX7_stepOverFigures_85 : decode cX7_stepOverFigures 85 = .ok (.if_icmp .ne 20, 3) := by decide +kernel
theorem dX7_stepOverFigures_88 : decode cX7_stepOverFigures 88 = .ok (.aload_n 0, 1) := by decide +kernel
theorem dX7_stepOverFigures_89 : decode cX7_stepOverFigures 89 = .ok (.getfield 19, 3) := by decide +kernel
theorem dX7_stepOverFigures_92 : decode cX7_stepOverFigures 92 = .ok (.aload_n 0, 1) := by decide +kernel
theorem dX7_stepOverFigures_93 : decode cX7_stepOverFigures 93 = .ok (.getfield 25, 3) := by decide +kernel
theorem dX7_stepOverFigures_96 : decode cX7_stepOverFigures 96 = .ok (.isub, 1) := by decide +kernel
theorem dX7_stepOverFigures_97 : decode cX7_stepOverFigures 97 = .ok (.iconst 1, 1) := by decide +kernel
theorem dX7_stepOverFigures_98 : decode cX7_stepOverFigures 98 = .ok (.if_icmp .le 7, 3) := by decide +kernel
theorem dX7_stepOverFigures_101 : decode cX7_stepOverFigures 101 = .ok (.iconst 1, 1) := by decide +kernel
theorem dX7_stepOverFigures_102 : decode cX7_stepOverFigures 102 = .ok (.goto 4, 3) := by decide +kernel
theorem dX7_stepOverFigures_105 : decode cX7_stepOverFigures 105 = .ok (.iconst 0, 1) := by decide +kernel
theorem dX7_stepOverFigures_106 : decode cX7_stepOverFigures 106 = .ok (.istore_n 1, 1) := by decide +kernel
theorem dX7_stepOverFigures_107 : decode cX7_stepOverFigures 107 = .ok (.aload_n 0, 1) := by decide +kernel
theorem dX7_stepOverFigures_108 : decode cX7_stepOverFigures 108 = .ok (.iload_n 1, 1) := by decide +kernel
theorem dX7_stepOverFigures_109 : decode cX7_stepOverFigures 109 = .ok (.ifCond .ne 13, 3) := by decide +kernel
theorem dX7_stepOverFigures_112 : decode cX7_stepOverFigures 112 = .ok (.aload_n 0, 1) := by decide +kernel
theorem dX7_stepOverFigures_113 : decode cX7_stepOverFigures 113 = .ok (.getfield 38, 3) := by decide +kernel
theorem dX7_stepOverFigures_116 : decode cX7_stepOverFigures 116 = .ok (.sipush 255, 3) := by decide +kernel
theorem dX7_stepOverFigures_119 : decode cX7_stepOverFigures 119 = .ok (.if_icmp .le 9, 3) := by decide +kernel
theorem dX7_stepOverFigures_122 : decode cX7_stepOverFigures 122 = .ok (.sipush 258, 3) := by decide +kernel
theorem dX7_stepOverFigures_125 : decode cX7_stepOverFigures 125 = .ok (.goto 6, 3) := by decide +kernel
theorem dX7_stepOverFigures_128 : decode cX7_stepOverFigures 128 = .ok (.sipush 256, 3) := by decide +kernel
theorem dX7_stepOverFigures_131 : decode cX7_stepOverFigures 131 = .ok (.putfield 28, 3) := by decide +kernel
theorem dX7_stepOverFigures_134 : decode cX7_stepOverFigures 134 = .ok (.return_, 1) := by decide +kernel
theorem dX7_isFigure_0 : decode cX7_isFigure 0 = .ok (.iload_n 0, 1) := by decide +kernel
theorem dX7_isFigure_1 : decode cX7_isFigure 1 = .ok (.bipush 48, 2) := by decide +kernel
theorem dX7_isFigure_3 : decode cX7_isFigure 3 = .ok (.if_icmp .lt 13, 3) := by decide +kernel
theorem dX7_isFigure_6 : decode cX7_isFigure 6 = .ok (.iload_n 0, 1) := by decide +kernel
theorem dX7_isFigure_7 : decode cX7_isFigure 7 = .ok (.bipush 57, 2) := by decide +kernel
theorem dX7_isFigure_9 : decode cX7_isFigure 9 = .ok (.if_icmp .gt 7, 3) := by decide +kernel
theorem dX7_isFigure_12 : decode cX7_isFigure 12 = .ok (.iconst 1, 1) := by decide +kernel
theorem dX7_isFigure_13 : decode cX7_isFigure 13 = .ok (.goto 4, 3) := by decide +kernel
theorem dX7_isFigure_16 : decode cX7_isFigure 16 = .ok (.iconst 0, 1) := by decide +kernel
theorem dX7_isFigure_17 : decode cX7_isFigure 17 = .ok (.ireturn, 1) := by decide +kernel
theorem dX8_init_0 : decode cX8_init 0 = .ok (.aload_n 0, 1) := by decide +kernel
theorem dX8_init_1 : decode cX8_init 1 = .ok (.invokespecial 1, 3) := by decide +kernel
theorem dX8_init_4 : decode cX8_init 4 = .ok (.aload_n 0, 1) := by decide +kernel
theorem dX8_init_5 : decode cX8_init 5 = .ok (.new 7, 3) := by decide +kernel
theorem dX8_init_8 : decode cX8_init 8 = .ok (.dup, 1) := by decide +kernel
theorem dX8_init_9 : decode cX8_init 9 = .ok (.invokespecial 9, 3) := by decide +kernel
theorem dX8_init_12 : decode cX8_init 12 = .ok (.putfield 10, 3) := by decide +kernel
theorem dX8_init_15 : decode cX8_init 15 = .ok (.aload_n 0, 1) := by decide +kernel
theorem dX8_init_16 : decode cX8_init 16 = .ok (.new 7, 3) := by decide +kernel
theorem dX8_init_19 : decode cX8_init 19 = .ok (.dup, 1) := by decide +kernel
theorem dX8_init_20 : decode cX8_init 20 = .ok (.invokespecial 9, 3) := by decide +kernel
theorem dX8_init_23 : decode cX8_init 23 = .ok (.putfield 16, 3) := by decide +kernel
theorem dX8_init_26 : decode cX8_init 26 = .ok (.aload_n 0, 1) := by decide +kernel
theorem dX8_init_27 : decode cX8_init 27 = .ok (.new 7, 3) := by decide +kernel
theorem dX8_init_30 : decode cX8_init 30 = .ok (.dup, 1) := by decide +kernel
theorem dX8_init_31 : decode cX8_init 31 = .ok (.invokespecial 9, 3) := by decide +kernel
theorem dX8_init_34 : decode cX8_init 34 = .ok (.putfield 19, 3) := by decide +kernel
theorem dX8_init_37 : decode cX8_init 37 = .ok (.aload_n 0, 1) := by decide +kernel
theorem dX8_init_38 : decode cX8_init 38 = .ok (.new 22, 3) := by decide +kernel
theorem dX8_init_41 : decode cX8_init 41 = .ok (.dup, 1) := by decide +kernel
theorem dX8_init_42 : decode cX8_init 42 = .ok (.invokespecial 24, 3) := by decide +kernel
theorem dX8_init_45 : decode cX8_init 45 = .ok (.putfield 25, 3) := by decide +kernel
theorem dX8_init_48 : decode cX8_init 48 = .ok (.aload_n 0, 1) := by decide +kernel
theorem dX8_init_49 : decode cX8_init 49 = .ok (.new 29, 3) := by decide +kernel
theorem dX8_init_52 : decode cX8_init 52 = .ok (.dup, 1) := by decide +kernel
theorem dX8_init_53 : decode cX8_init 53 = .ok (.aload_n 0, 1) := by decide +kernel
theorem dX8_init_54 : decode cX8_init 54 = .ok (.getfield 25, 3) := by decide +kernel
theorem dX8_init_57 : decode cX8_init 57 = .ok (.invokespecial 31, 3) := by decide +kernel
theorem dX8_init_60 : decode cX8_init 60 = .ok (.putfield 34, 3) := by decide +kernel
theorem dX8_init_63 : decode cX8_init 63 = .ok (.aload_n 0, 1) := by decide +kernel
theorem dX8_init_64 : decode cX8_init 64 = .ok (.new 38, 3) := by decide +kernel
theorem dX8_init_67 : decode cX8_init 67 = .ok (.dup, 1) := by decide +kernel
theorem dX8_init_68 : decode cX8_init 68 = .ok (.invokespecial 40, 3) := by decide +kernel
theorem dX8_init_71 : decode cX8_init 71 = .ok (.putfield 41, 3) := by decide +kernel
theorem dX8_init_74 : decode cX8_init 74 = .ok (.aload_n 0, 1) := by decide +kernel
theorem dX8_init_75 : decode cX8_init 75 = .ok (.new 45, 3) := by decide +kernel
theorem dX8_init_78 : decode cX8_init 78 = .ok (.dup, 1) := by decide +kernel
theorem dX8_init_79 : decode cX8_init 79 = .ok (.invokespecial 47, 3) := by decide +kernel
theorem dX8_init_82 : decode cX8_init 82 = .ok (.putfield 48, 3) := by decide +kernel
theorem dX8_init_85 : decode cX8_init 85 = .ok (.aload_n 0, 1) := by decide +kernel
theorem dX8_init_86 : decode cX8_init 86 = .ok (.iconst 2, 1) := by decide +kernel
theorem dX8_init_87 : decode cX8_init 87 = .ok (.anewarray 7, 3) := by decide +kernel
theorem dX8_init_90 : decode cX8_init 90 = .ok (.putfield 52, 3) := by decide +kernel
theorem dX8_init_93 : decode cX8_init 93 = .ok (.iconst 0, 1) := by decide +kernel
theorem dX8_init_94 : decode cX8_init 94 = .ok (.istore_n 1, 1) := by decide +kernel
theorem dX8_init_95 : decode cX8_init 95 = .ok (.iload_n 1, 1) := by decide +kernel
theorem dX8_init_96 : decode cX8_init 96 = .ok (.iconst 2, 1) := by decide +kernel
theorem dX8_init_97 : decode cX8_init 97 = .ok (.if_icmp .ge 22, 3) := by decide +kernel
theorem dX8_init_100 : decode cX8_init 100 = .ok (.aload_n 0, 1) := by decide +kernel
theorem dX8_init_101 : decode cX8_init 101 = .ok (.getfield 52, 3) := by decide +kernel
theorem dX8_init_104 : decode cX8_init 104 = .ok (.iload_n 1, 1) := by decide +kernel
theorem dX8_init_105 : decode cX8_init 105 = .ok (.new 7, 3) := by decide +kernel
theorem dX8_init_108 : decode cX8_init 108 = .ok (.dup, 1) := by decide +kernel
theorem dX8_init_109 : decode cX8_init 109 = .ok (.invokespecial 9, 3) := by decide +kernel
theorem dX8_init_112 : decode cX8_init 112 = .ok (.aastore, 1) := by decide +kernel
theorem dX8_init_113 : decode cX8_init 113 = .ok (.iinc 1 1, 3) := by decide +kernel
theorem dX8_init_116 : decode cX8_init 116 = .ok (.goto (-21), 3) := by decide +kernel
theorem dX8_init_119 : decode cX8_init 119 = .ok (.aload_n 0, 1) := by decide +kernel
theorem dX8_init_120 : decode cX8_init 120 = .ok (.iconst 2, 1) := by decide +kernel
theorem dX8_init_121 : decode cX8_init 121 = .ok (.newarray .boolean, 2) := by decide +kernel
theorem dX8_init_123 : decode cX8_init 123 = .ok (.putfield 56, 3) := by decide +kernel
theorem dX8_init_126 : decode cX8_init 126 = .ok (.aload_n 0, 1) := by decide +kernel
theorem dX8_init_127 : decode cX8_init 127 = .ok (.new 60, 3) := by decide +kernel
theorem dX8_init_130 : decode cX8_init 130 = .ok (.dup, 1) := by decide +kernel
theorem dX8_init_131 : decode cX8_init 131 = .ok (.invokespecial 62, 3) := by decide +kernel
theorem dX8_init_134 : decode cX8_init 134 = .ok (.putfield 63, 3) := by decide +kernel
theorem dX8_init_137 : decode cX8_init 137 = .ok (.aload_n 0, 1) := by decide +kernel
theorem dX8_init_138 : decode cX8_init 138 = .ok (.new 67, 3) := by decide +kernel
theorem dX8_init_141 : decode cX8_init 141 = .ok (.dup, 1) := by decide +kernel
theorem dX8_init_142 : decode cX8_init 142 = .ok (.invokespecial 69, 3) := by decide +kernel
theorem dX8_init_145 : decode cX8_init 145 = .ok (.putfield 70, 3) := by decide +kernel
theorem dX8_init_148 : decode cX8_init 148 = .ok (.return_, 1) := by decide +kernel
theorem dX8_type_0 : decode cX8_type 0 = .ok (.iload_n 1, 1) := by decide +kernel
theorem dX8_type_1 : decode cX8_type 1 = .ok (.ifCond .lt 10, 3) := by decide +kernel
theorem dX8_type_4 : decode cX8_type 4 = .ok (.iload_n 1, 1) := by decide +kernel
theorem dX8_type_5 : decode cX8_type 5 = .ok (.sipush 255, 3) := by decide +kernel
theorem dX8_type_8 : decode cX8_type 8 = .ok (.if_icmp .le 5, 3) := by decide +kernel
theorem dX8_type_11 : decode cX8_type 11 = .ok (.iconst (-1), 1) := by decide +kernel
theorem dX8_type_12 : decode cX8_type 12 = .ok (.ireturn, 1) := by decide +kernel
theorem dX8_type_13 : decode cX8_type 13 = .ok (.aload_n 0, 1) := by decide +kernel
theorem dX8_type_14 : decode cX8_type 14 = .ok (.getfield 25, 3) := by decide +kernel
theorem dX8_type_17 : decode cX8_type 17 = .ok (.getfield 74, 3) := by decide +kernel
theorem dX8_type_20 : decode cX8_type 20 = .ok (.bipush 120, 2) := by decide +kernel
theorem dX8_type_22 : decode cX8_type 22 = .ok (.if_icmp .lt 6, 3) := by decide +kernel
theorem dX8_type_25 : decode cX8_type 25 = .ok (.bipush (-3), 2) := by decide +kernel
theorem dX8_type_27 : decode cX8_type 27 = .ok (.ireturn, 1) := by decide +kernel
theorem dX8_type_28 : decode cX8_type 28 = .ok (.aload_n 0, 1) := by decide +kernel
theorem dX8_type_29 : decode cX8_type 29 = .ok (.getfield 25, 3) := by decide +kernel
theorem dX8_type_32 : decode cX8_type 32 = .ok (.iload_n 1, 1) := by decide +kernel
theorem dX8_type_33 : decode cX8_type 33 = .ok (.invokevirtual 78, 3) := by decide +kernel
theorem dX8_type_36 : decode cX8_type 36 = .ok (.aload_n 0, 1) := by decide +kernel
theorem dX8_type_37 : decode cX8_type 37 = .ok (.getfield 25, 3) := by decide +kernel
theorem dX8_type_40 : decode cX8_type 40 = .ok (.getfield 74, 3) := by decide +kernel
theorem dX8_type_43 : decode cX8_type 43 = .ok (.ireturn, 1) := by decide +kernel
theorem dX8_clear_0 : decode cX8_clear 0 = .ok (.aload_n 0, 1) := by decide +kernel
theorem dX8_clear_1 : decode cX8_clear 1 = .ok (.getfield 25, 3) := by decide +kernel
theorem dX8_clear_4 : decode cX8_clear 4 = .ok (.getfield 74, 3) := by decide +kernel
theorem dX8_clear_7 : decode cX8_clear 7 = .ok (.istore_n 1, 1) := by decide +kernel
theorem dX8_clear_8 : decode cX8_clear 8 = .ok (.aload_n 0, 1) := by decide +kernel
theorem dX8_clear_9 : decode cX8_clear 9 = .ok (.getfield 25, 3) := by decide +kernel
theorem dX8_clear_12 : decode cX8_clear 12 = .ok (.iconst 0, 1) := by decide +kernel
theorem dX8_clear_13 : decode cX8_clear 13 = .ok (.putfield 74, 3) := by decide +kernel
theorem dX8_clear_16 : decode cX8_clear 16 = .ok (.iload_n 1, 1) := by decide +kernel
theorem dX8_clear_17 : decode cX8_clear 17 = .ok (.ireturn, 1) := by decide +kernel
theorem dX8_wires_0 : decode cX8_wires 0 = .ok (.aload_n 0, 1) := by decide +kernel
theorem dX8_wires_1 : decode cX8_wires 1 = .ok (.getfield 34, 3) := by decide +kernel
theorem dX8_wires_4 : decode cX8_wires 4 = .ok (.aload_n 0, 1) := by decide +kernel
theorem dX8_wires_5 : decode cX8_wires 5 = .ok (.getfield 16, 3) := by decide +kernel
theorem dX8_wires_8 : decode cX8_wires 8 = .ok (.invokevirtual 82, 3) := by decide +kernel
theorem dX8_wires_11 : decode cX8_wires 11 = .ok (.ifCond .ne 14, 3) := by decide +kernel
theorem dX8_wires_14 : decode cX8_wires 14 = .ok (.bipush (-10), 2) := by decide +kernel
theorem dX8_wires_16 : decode cX8_wires 16 = .ok (.aload_n 0, 1) := by decide +kernel
theorem dX8_wires_17 : decode cX8_wires 17 = .ok (.getfield 25, 3) := by decide +kernel
theorem dX8_wires_20 : decode cX8_wires 20 = .ok (.getfield 86, 3) := by decide +kernel
theorem dX8_wires_23 : decode cX8_wires 23 = .ok (.isub, 1) := by decide +kernel
theorem dX8_wires_24 : decode cX8_wires 24 = .ok (.ireturn, 1) := by decide +kernel
theorem dX8_wires_25 : decode cX8_wires 25 = .ok (.aload_n 0, 1) := by decide +kernel
theorem dX8_wires_26 : decode cX8_wires 26 = .ok (.invokevirtual 89, 3) := by decide +kernel
theorem dX8_wires_29 : decode cX8_wires 29 = .ok (.aload_n 0, 1) := by decide +kernel
theorem dX8_wires_30 : decode cX8_wires 30 = .ok (.getfield 10, 3) := by decide +kernel
theorem dX8_wires_33 : decode cX8_wires 33 = .ok (.getfield 92, 3) := by decide +kernel
theorem dX8_wires_36 : decode cX8_wires 36 = .ok (.ireturn, 1) := by decide +kernel
theorem dX8_frames_0 : decode cX8_frames 0 = .ok (.aload_n 0, 1) := by decide +kernel
theorem dX8_frames_1 : decode cX8_frames 1 = .ok (.getfield 16, 3) := by decide +kernel
theorem dX8_frames_4 : decode cX8_frames 4 = .ok (.aload_n 0, 1) := by decide +kernel
theorem dX8_frames_5 : decode cX8_frames 5 = .ok (.getfield 10, 3) := by decide +kernel
theorem dX8_frames_8 : decode cX8_frames 8 = .ok (.invokevirtual 95, 3) := by decide +kernel
theorem dX8_frames_11 : decode cX8_frames 11 = .ok (.aload_n 0, 1) := by decide +kernel
theorem dX8_frames_12 : decode cX8_frames 12 = .ok (.getfield 34, 3) := by decide +kernel
theorem dX8_frames_15 : decode cX8_frames 15 = .ok (.aload_n 0, 1) := by decide +kernel
theorem dX8_frames_16 : decode cX8_frames 16 = .ok (.getfield 16, 3) := by decide +kernel
theorem dX8_frames_19 : decode cX8_frames 19 = .ok (.invokevirtual 99, 3) := by decide +kernel
theorem dX8_frames_22 : decode cX8_frames 22 = .ok (.ifCond .ne 14, 3) := by decide +kernel
theorem dX8_frames_25 : decode cX8_frames 25 = .ok (.bipush (-10), 2) := by decide +kernel
theorem dX8_frames_27 : decode cX8_frames 27 = .ok (.aload_n 0, 1) := by decide +kernel
theorem dX8_frames_28 : decode cX8_frames 28 = .ok (.getfield 25, 3) := by decide +kernel
theorem dX8_frames_31 : decode cX8_frames 31 = .ok (.getfield 86, 3) := by decide +kernel
theorem dX8_frames_34 : decode cX8_frames 34 = .ok (.isub, 1) := by decide +kernel
theorem dX8_frames_35 : decode cX8_frames 35 = .ok (.ireturn, 1) := by decide +kernel
theorem dX8_frames_36 : decode cX8_frames 36 = .ok (.aload_n 0, 1) := by decide +kernel
theorem dX8_frames_37 : decode cX8_frames 37 = .ok (.invokevirtual 89, 3) := by decide +kernel
theorem dX8_frames_40 : decode cX8_frames 40 = .ok (.aload_n 0, 1) := by decide +kernel
theorem dX8_frames_41 : decode cX8_frames 41 = .ok (.getfield 10, 3) := by decide +kernel
theorem dX8_frames_44 : decode cX8_frames 44 = .ok (.getfield 102, 3) := by decide +kernel
theorem dX8_frames_47 : decode cX8_frames 47 = .ok (.ireturn, 1) := by decide +kernel
theorem dX8_adoptDraft_0 : decode cX8_adoptDraft 0 = .ok (.aload_n 0, 1) := by decide +kernel
theorem dX8_adoptDraft_1 : decode cX8_adoptDraft 1 = .ok (.getfield 48, 3) := by decide +kernel
theorem dX8_adoptDraft_4 : decode cX8_adoptDraft 4 = .ok (.aload_n 0, 1) := by decide +kernel
theorem dX8_adoptDraft_5 : decode cX8_adoptDraft 5 = .ok (.getfield 10, 3) := by decide +kernel
theorem dX8_adoptDraft_8 : decode cX8_adoptDraft 8 = .ok (.invokevirtual 105, 3) := by decide +kernel
theorem dX8_adoptDraft_11 : decode cX8_adoptDraft 11 = .ok (.aload_n 0, 1) := by decide +kernel
theorem dX8_adoptDraft_12 : decode cX8_adoptDraft 12 = .ok (.getfield 10, 3) := by decide +kernel
theorem dX8_adoptDraft_15 : decode cX8_adoptDraft 15 = .ok (.aload_n 0, 1) := by decide +kernel
theorem dX8_adoptDraft_16 : decode cX8_adoptDraft 16 = .ok (.getfield 16, 3) := by decide +kernel
theorem dX8_adoptDraft_19 : decode cX8_adoptDraft 19 = .ok (.invokevirtual 95, 3) := by decide +kernel
theorem dX8_adoptDraft_22 : decode cX8_adoptDraft 22 = .ok (.aload_n 0, 1) := by decide +kernel
theorem dX8_adoptDraft_23 : decode cX8_adoptDraft 23 = .ok (.getfield 25, 3) := by decide +kernel
theorem dX8_adoptDraft_26 : decode cX8_adoptDraft 26 = .ok (.iconst 0, 1) := by decide +kernel
theorem dX8_adoptDraft_27 : decode cX8_adoptDraft 27 = .ok (.putfield 74, 3) := by decide +kernel
theorem dX8_adoptDraft_30 : decode cX8_adoptDraft 30 = .ok (.return_, 1) := by decide +kernel
theorem dX8_cuts_0 : decode cX8_cuts 0 = .ok (.aload_n 0, 1) := by decide +kernel
theorem dX8_cuts_1 : decode cX8_cuts 1 = .ok (.getfield 10, 3) := by decide +kernel
theorem dX8_cuts_4 : decode cX8_cuts 4 = .ok (.iload_n 1, 1) := by decide +kernel
theorem dX8_cuts_5 : decode cX8_cuts 5 = .ok (.invokevirtual 108, 3) := by decide +kernel
theorem dX8_cuts_8 : decode cX8_cuts 8 = .ok (.ifCond .ne 5, 3) := by decide +kernel
theorem dX8_cuts_11 : decode cX8_cuts 11 = .ok (.iconst (-1), 1) := by decide +kernel
theorem dX8_cuts_12 : decode cX8_cuts 12 = .ok (.ireturn, 1) := by decide +kernel
theorem dX8_cuts_13 : decode cX8_cuts 13 = .ok (.aload_n 0, 1) := by decide +kernel
theorem dX8_cuts_14 : decode cX8_cuts 14 = .ok (.getfield 10, 3) := by decide +kernel
theorem dX8_cuts_17 : decode cX8_cuts 17 = .ok (.iload_n 1, 1) := by decide +kernel
theorem dX8_cuts_18 : decode cX8_cuts 18 = .ok (.invokevirtual 112, 3) := by decide +kernel
theorem dX8_cuts_21 : decode cX8_cuts 21 = .ok (.ifCond .eq 6, 3) := by decide +kernel
theorem dX8_cuts_24 : decode cX8_cuts 24 = .ok (.bipush (-2), 2) := by decide +kernel
theorem dX8_cuts_26 : decode cX8_cuts 26 = .ok (.ireturn, 1) := by decide +kernel
theorem dX8_cuts_27 : decode cX8_cuts 27 = .ok (.aload_n 0, 1) := by decide +kernel
theorem dX8_cuts_28 : decode cX8_cuts 28 = .ok (.getfield 48, 3) := by decide +kernel
theorem dX8_cuts_31 : decode cX8_cuts 31 = .ok (.aload_n 0, 1) := by decide +kernel
theorem dX8_cuts_32 : decode cX8_cuts 32 = .ok (.getfield 10, 3) := by decide +kernel
theorem dX8_cuts_35 : decode cX8_cuts 35 = .ok (.invokevirtual 105, 3) := by decide +kernel
theorem dX8_cuts_38 : decode cX8_cuts 38 = .ok (.aload_n 0, 1) := by decide +kernel
theorem dX8_cuts_39 : decode cX8_cuts 39 = .ok (.getfield 10, 3) := by decide +kernel
theorem dX8_cuts_42 : decode cX8_cuts 42 = .ok (.iload_n 1, 1) := by decide +kernel
theorem dX8_cuts_43 : decode cX8_cuts 43 = .ok (.iconst 1, 1) := by decide +kernel
theorem dX8_cuts_44 : decode cX8_cuts 44 = .ok (.iconst 1, 1) := by decide +kernel
theorem dX8_cuts_45 : decode cX8_cuts 45 = .ok (.invokevirtual 115, 3) := by decide +kernel
theorem dX8_cuts_48 : decode cX8_cuts 48 = .ok (.aload_n 0, 1) := by decide +kernel
theorem dX8_cuts_49 : decode cX8_cuts 49 = .ok (.getfield 10, 3) := by decide +kernel
theorem dX8_cuts_52 : decode cX8_cuts 52 = .ok (.iconst 1, 1) := by decide +kernel
theorem dX8_cuts_53 : decode cX8_cuts 53 = .ok (.putfield 119, 3) := by decide +kernel
theorem dX8_cuts_56 : decode cX8_cuts 56 = .ok (.aload_n 0, 1) := by decide +kernel
theorem dX8_cuts_57 : decode cX8_cuts 57 = .ok (.getfield 10, 3) := by decide +kernel
theorem dX8_cuts_60 : decode cX8_cuts 60 = .ok (.invokevirtual 123, 3) := by decide +kernel
theorem dX8_cuts_63 : decode cX8_cuts 63 = .ok (.ireturn, 1) := by decide +kernel
theorem dX8_heals_0 : decode cX8_heals 0 = .ok (.aload_n 0, 1) := by decide +kernel
theorem dX8_heals_1 : decode cX8_heals 1 = .ok (.getfield 10, 3) := by decide +kernel
theorem dX8_heals_4 : decode cX8_heals 4 = .ok (.iload_n 1, 1) := by decide +kernel
theorem dX8_heals_5 : decode cX8_heals 5 = .ok (.invokevirtual 108, 3) := by decide +kernel
theorem dX8_heals_8 : decode cX8_heals 8 = .ok (.ifCond .ne 5, 3) := by decide +kernel
theorem dX8_heals_11 : decode cX8_heals 11 = .ok (.iconst (-1), 1) := by decide +kernel
theorem dX8_heals_12 : decode cX8_heals 12 = .ok (.ireturn, 1) := by decide +kernel
theorem dX8_heals_13 : decode cX8_heals 13 = .ok (.aload_n 0, 1) := by decide +kernel
theorem dX8_heals_14 : decode cX8_heals 14 = .ok (.getfield 10, 3) := by decide +kernel
theorem dX8_heals_17 : decode cX8_heals 17 = .ok (.iload_n 1, 1) := by decide +kernel
theorem dX8_heals_18 : decode cX8_heals 18 = .ok (.invokevirtual 112, 3) := by decide +kernel
theorem dX8_heals_21 : decode cX8_heals 21 = .ok (.ifCond .ne 6, 3) := by decide +kernel
theorem dX8_heals_24 : decode cX8_heals 24 = .ok (.bipush (-2), 2) := by decide +kernel
theorem dX8_heals_26 : decode cX8_heals 26 = .ok (.ireturn, 1) := by decide +kernel
theorem dX8_heals_27 : decode cX8_heals 27 = .ok (.aload_n 0, 1) := by decide +kernel
theorem dX8_heals_28 : decode cX8_heals 28 = .ok (.getfield 48, 3) := by decide +kernel
theorem dX8_heals_31 : decode cX8_heals 31 = .ok (.aload_n 0, 1) := by decide +kernel
theorem dX8_heals_32 : decode cX8_heals 32 = .ok (.getfield 10, 3) := by decide +kernel
theorem dX8_heals_35 : decode cX8_heals 35 = .ok (.invokevirtual 105, 3) := by decide +kernel
theorem dX8_heals_38 : decode cX8_heals 38 = .ok (.aload_n 0, 1) := by decide +kernel
theorem dX8_heals_39 : decode cX8_heals 39 = .ok (.getfield 10, 3) := by decide +kernel
theorem dX8_heals_42 : decode cX8_heals 42 = .ok (.iload_n 1, 1) := by decide +kernel
theorem dX8_heals_43 : decode cX8_heals 43 = .ok (.iconst 1, 1) := by decide +kernel
theorem dX8_heals_44 : decode cX8_heals 44 = .ok (.iconst 0, 1) := by decide +kernel
theorem dX8_heals_45 : decode cX8_heals 45 = .ok (.invokevirtual 115, 3) := by decide +kernel
theorem dX8_heals_48 : decode cX8_heals 48 = .ok (.aload_n 0, 1) := by decide +kernel
theorem dX8_heals_49 : decode cX8_heals 49 = .ok (.getfield 10, 3) := by decide +kernel
theorem dX8_heals_52 : decode cX8_heals 52 = .ok (.invokevirtual 123, 3) := by decide +kernel
theorem dX8_heals_55 : decode cX8_heals 55 = .ok (.ireturn, 1) := by decide +kernel
theorem dX8_cycles_0 : decode cX8_cycles 0 = .ok (.iload_n 1, 1) := by decide +kernel
theorem dX8_cycles_1 : decode cX8_cycles 1 = .ok (.iconst 1, 1) := by decide +kernel
theorem dX8_cycles_2 : decode cX8_cycles 2 = .ok (.if_icmp .lt 9, 3) := by decide +kernel
theorem dX8_cycles_5 : decode cX8_cycles 5 = .ok (.iload_n 1, 1) := by decide +kernel
theorem dX8_cycles_6 : decode cX8_cycles 6 = .ok (.bipush 20, 2) := by decide +kernel
theorem dX8_cycles_8 : decode cX8_cycles 8 = .ok (.if_icmp .le 5, 3) := by decide +kernel
theorem dX8_cycles_11 : decode cX8_cycles 11 = .ok (.iconst (-1), 1) := by decide +kernel
theorem dX8_cycles_12 : decode cX8_cycles 12 = .ok (.ireturn, 1) := by decide +kernel
theorem dX8_cycles_13 : decode cX8_cycles 13 = .ok (.aload_n 0, 1) := by decide +kernel
theorem dX8_cycles_14 : decode cX8_cycles 14 = .ok (.getfield 10, 3) := by decide +kernel
theorem dX8_cycles_17 : decode cX8_cycles 17 = .ok (.getfield 102, 3) := by decide +kernel
theorem dX8_cycles_20 : decode cX8_cycles 20 = .ok (.ifCond .ne 6, 3) := by decide +kernel
theorem dX8_cycles_23 : decode cX8_cycles 23 = .ok (.bipush (-2), 2) := by decide +kernel
theorem dX8_cycles_25 : decode cX8_cycles 25 = .ok (.ireturn, 1) := by decide +kernel
theorem dX8_cycles_26 : decode cX8_cycles 26 = .ok (.aload_n 0, 1) := by decide +kernel
theorem dX8_cycles_27 : decode cX8_cycles 27 = .ok (.getfield 48, 3) := by decide +kernel
theorem dX8_cycles_30 : decode cX8_cycles 30 = .ok (.aload_n 0, 1) := by decide +kernel
theorem dX8_cycles_31 : decode cX8_cycles 31 = .ok (.getfield 10, 3) := by decide +kernel
theorem dX8_cycles_34 : decode cX8_cycles 34 = .ok (.invokevirtual 105, 3) := by decide +kernel
theorem dX8_cycles_37 : decode cX8_cycles 37 = .ok (.iconst 0, 1) := by decide +kernel
theorem dX8_cycles_38 : decode cX8_cycles 38 = .ok (.istore_n 2, 1) := by decide +kernel
theorem dX8_cycles_39 : decode cX8_cycles 39 = .ok (.iload_n 2, 1) := by decide +kernel
theorem dX8_cycles_40 : decode cX8_cycles 40 = .ok (.iload_n 1, 1) := by decide +kernel
theorem dX8_cycles_41 : decode cX8_cycles 41 = .ok (.if_icmp .ge 20, 3) := by decide +kernel
theorem dX8_cycles_44 : decode cX8_cycles 44 = .ok (.aload_n 0, 1) := by decide +kernel
theorem dX8_cycles_45 : decode cX8_cycles 45 = .ok (.getfield 41, 3) := by decide +kernel
theorem dX8_cycles_48 : decode cX8_cycles 48 = .ok (.aload_n 0, 1) := by decide +kernel
theorem dX8_cycles_49 : decode cX8_cycles 49 = .ok (.getfield 10, 3) := by decide +kernel
theorem dX8_cycles_52 : decode cX8_cycles 52 = .ok (.invokevirtual 127, 3) := by decide +kernel
theorem dX8_cycles_55 : decode cX8_cycles 55 = .ok (.iinc 2 1, 3) := by decide +kernel
theorem dX8_cycles_58 : decode cX8_cycles 58 = .ok (.goto (-19), 3) := by decide +kernel
theorem dX8_cycles_61 : decode cX8_cycles 61 = .ok (.aload_n 0, 1) := by decide +kernel
theorem dX8_cycles_62 : decode cX8_cycles 62 = .ok (.getfield 10, 3) := by decide +kernel
theorem dX8_cycles_65 : decode cX8_cycles 65 = .ok (.invokevirtual 130, 3) := by decide +kernel
theorem dX8_cycles_68 : decode cX8_cycles 68 = .ok (.ireturn, 1) := by decide +kernel
theorem dX8_resets_0 : decode cX8_resets 0 = .ok (.aload_n 0, 1) := by decide +kernel
theorem dX8_resets_1 : decode cX8_resets 1 = .ok (.getfield 10, 3) := by decide +kernel
theorem dX8_resets_4 : decode cX8_resets 4 = .ok (.iload_n 1, 1) := by decide +kernel
theorem dX8_resets_5 : decode cX8_resets 5 = .ok (.invokevirtual 133, 3) := by decide +kernel
theorem dX8_resets_8 : decode cX8_resets 8 = .ok (.ifCond .ne 5, 3) := by decide +kernel
theorem dX8_resets_11 : decode cX8_resets 11 = .ok (.iconst (-1), 1) := by decide +kernel
theorem dX8_resets_12 : decode cX8_resets 12 = .ok (.ireturn, 1) := by decide +kernel
theorem dX8_resets_13 : decode cX8_resets 13 = .ok (.aload_n 0, 1) := by decide +kernel
theorem dX8_resets_14 : decode cX8_resets 14 = .ok (.getfield 10, 3) := by decide +kernel
theorem dX8_resets_17 : decode cX8_resets 17 = .ok (.iload_n 1, 1) := by decide +kernel
theorem dX8_resets_18 : decode cX8_resets 18 = .ok (.iconst 5, 1) := by decide +kernel
theorem dX8_resets_19 : decode cX8_resets 19 = .ok (.invokevirtual 136, 3) := by decide +kernel
theorem dX8_resets_22 : decode cX8_resets 22 = .ok (.istore_n 2, 1) := by decide +kernel
theorem dX8_resets_23 : decode cX8_resets 23 = .ok (.aload_n 0, 1) := by decide +kernel
theorem dX8_resets_24 : decode cX8_resets 24 = .ok (.getfield 10, 3) := by decide +kernel
theorem dX8_resets_27 : decode cX8_resets 27 = .ok (.iload_n 1, 1) := by decide +kernel
theorem dX8_resets_28 : decode cX8_resets 28 = .ok (.invokevirtual 140, 3) := by decide +kernel
theorem dX8_resets_31 : decode cX8_resets 31 = .ok (.ifCond .ne 10, 3) := by decide +kernel
theorem dX8_resets_34 : decode cX8_resets 34 = .ok (.iload_n 2, 1) := by decide +kernel
theorem dX8_resets_35 : decode cX8_resets 35 = .ok (.ifCond .ne 6, 3) := by decide +kernel
theorem dX8_resets_38 : decode cX8_resets 38 = .ok (.bipush (-2), 2) := by decide +kernel
theorem dX8_resets_40 : decode cX8_resets 40 = .ok (.ireturn, 1) := by decide +kernel
theorem dX8_resets_41 : decode cX8_resets 41 = .ok (.aload_n 0, 1) := by decide +kernel
theorem dX8_resets_42 : decode cX8_resets 42 = .ok (.getfield 48, 3) := by decide +kernel
theorem dX8_resets_45 : decode cX8_resets 45 = .ok (.aload_n 0, 1) := by decide +kernel
theorem dX8_resets_46 : decode cX8_resets 46 = .ok (.getfield 10, 3) := by decide +kernel
theorem dX8_resets_49 : decode cX8_resets 49 = .ok (.invokevirtual 105, 3) := by decide +kernel
theorem dX8_resets_52 : decode cX8_resets 52 = .ok (.aload_n 0, 1) := by decide +kernel
theorem dX8_resets_53 : decode cX8_resets 53 = .ok (.getfield 10, 3) := by decide +kernel
theorem dX8_resets_56 : decode cX8_resets 56 = .ok (.iload_n 1, 1) := by decide +kernel
theorem dX8_resets_57 : decode cX8_resets 57 = .ok (.bipush 6, 2) := by decide +kernel
theorem dX8_resets_59 : decode cX8_resets 59 = .ok (.iconst 0, 1) := by decide +kernel
theorem dX8_resets_60 : decode cX8_resets 60 = .ok (.invokevirtual 143, 3) := by decide +kernel
theorem dX8_resets_63 : decode cX8_resets 63 = .ok (.aload_n 0, 1) := by decide +kernel
theorem dX8_resets_64 : decode cX8_resets 64 = .ok (.getfield 10, 3) := by decide +kernel
theorem dX8_resets_67 : decode cX8_resets 67 = .ok (.iload_n 1, 1) := by decide +kernel
theorem dX8_resets_68 : decode cX8_resets 68 = .ok (.iconst 5, 1) := by decide +kernel
theorem dX8_resets_69 : decode cX8_resets 69 = .ok (.iconst 0, 1) := by decide +kernel
theorem dX8_resets_70 : decode cX8_resets 70 = .ok (.invokevirtual 143, 3) := by decide +kernel
theorem dX8_resets_73 : decode cX8_resets 73 = .ok (.iload_n 2, 1) := by decide +kernel
theorem dX8_resets_74 : decode cX8_resets 74 = .ok (.ireturn, 1) := by decide +kernel
theorem dX8_sets_0 : decode cX8_sets 0 = .ok (.aload_n 0, 1) := by decide +kernel
theorem dX8_sets_1 : decode cX8_sets 1 = .ok (.getfield 10, 3) := by decide +kernel
theorem dX8_sets_4 : decode cX8_sets 4 = .ok (.iload_n 1, 1) := by decide +kernel
theorem dX8_sets_5 : decode cX8_sets 5 = .ok (.invokevirtual 133, 3) := by decide +kernel
theorem dX8_sets_8 : decode cX8_sets 8 = .ok (.ifCond .eq 23, 3) := by decide +kernel
theorem dX8_sets_11 : decode cX8_sets 11 = .ok (.iload_n 2, 1) := by decide +kernel
theorem dX8_sets_12 : decode cX8_sets 12 = .ok (.ifCond .lt 19, 3) := by decide +kernel
theorem dX8_sets_15 : decode cX8_sets 15 = .ok (.iload_n 2, 1) := by decide +kernel
theorem dX8_sets_16 : decode cX8_sets 16 = .ok (.iconst 4, 1) := by decide +kernel
theorem dX8_sets_17 : decode cX8_sets 17 = .ok (.if_icmp .ge 14, 3) := by decide +kernel
theorem dX8_sets_20 : decode cX8_sets 20 = .ok (.iload_n 3, 1) := by decide +kernel
theorem dX8_sets_21 : decode cX8_sets 21 = .ok (.ifCond .lt 10, 3) := by decide +kernel
theorem dX8_sets_24 : decode cX8_sets 24 = .ok (.iload_n 3, 1) := by decide +kernel
theorem dX8_sets_25 : decode cX8_sets 25 = .ok (.sipush 255, 3) := by decide +kernel
theorem dX8_sets_28 : decode cX8_sets 28 = .ok (.if_icmp .le 5, 3) := by decide +kernel
theorem dX8_sets_31 : decode cX8_sets 31 = .ok (.iconst (-1), 1) := by decide +kernel
theorem dX8_sets_32 : decode cX8_sets 32 = .ok (.ireturn, 1) := by decide +kernel
theorem dX8_sets_33 : decode cX8_sets 33 = .ok (.aload_n 0, 1) := by decide +kernel
theorem dX8_sets_34 : decode cX8_sets 34 = .ok (.getfield 10, 3) := by decide +kernel
theorem dX8_sets_37 : decode cX8_sets 37 = .ok (.iload_n 1, 1) := by decide +kernel
theorem dX8_sets_38 : decode cX8_sets 38 = .ok (.iconst 1, 1) := by decide +kernel
theorem dX8_sets_39 : decode cX8_sets 39 = .ok (.iload_n 2, 1) := by decide +kernel
theorem dX8_sets_40 : decode cX8_sets 40 = .ok (.iadd, 1) := by decide +kernel
theorem dX8_sets_41 : decode cX8_sets 41 = .ok (.invokevirtual 136, 3) := by decide +kernel
theorem dX8_sets_44 : decode cX8_sets 44 = .ok (.istore 4, 2) := by decide +kernel
theorem dX8_sets_46 : decode cX8_sets 46 = .ok (.iload 4, 2) := by decide +kernel
theorem dX8_sets_48 : decode cX8_sets 48 = .ok (.iload_n 3, 1) := by decide +kernel
theorem dX8_sets_49 : decode cX8_sets 49 = .ok (.if_icmp .eq 14, 3) := by decide +kernel
theorem dX8_sets_52 : decode cX8_sets 52 = .ok (.aload_n 0, 1) := by decide +kernel
theorem dX8_sets_53 : decode cX8_sets 53 = .ok (.getfield 10, 3) := by decide +kernel
theorem dX8_sets_56 : decode cX8_sets 56 = .ok (.iload_n 1, 1) := by decide +kernel
theorem dX8_sets_57 : decode cX8_sets 57 = .ok (.invokevirtual 140, 3) := by decide +kernel
theorem dX8_sets_60 : decode cX8_sets 60 = .ok (.ifCond .eq 6, 3) := by decide +kernel
theorem dX8_sets_63 : decode cX8_sets 63 = .ok (.bipush (-2), 2) := by decide +kernel
theorem dX8_sets_65 : decode cX8_sets 65 = .ok (.ireturn, 1) := by decide +kernel
theorem dX8_sets_66 : decode cX8_sets 66 = .ok (.aload_n 0, 1) := by decide +kernel
theorem dX8_sets_67 : decode cX8_sets 67 = .ok (.getfield 48, 3) := by decide +kernel
theorem dX8_sets_70 : decode cX8_sets 70 = .ok (.aload_n 0, 1) := by decide +kernel
theorem dX8_sets_71 : decode cX8_sets 71 = .ok (.getfield 10, 3) := by decide +kernel
theorem dX8_sets_74 : decode cX8_sets 74 = .ok (.invokevirtual 105, 3) := by decide +kernel
theorem dX8_sets_77 : decode cX8_sets 77 = .ok (.aload_n 0, 1) := by decide +kernel
theorem dX8_sets_78 : decode cX8_sets 78 = .ok (.getfield 10, 3) := by decide +kernel
theorem dX8_sets_81 : decode cX8_sets 81 = .ok (.iload_n 1, 1) := by decide +kernel
theorem dX8_sets_82 : decode cX8_sets 82 = .ok (.iconst 1, 1) := by decide +kernel
theorem dX8_sets_83 : decode cX8_sets 83 = .ok (.iload_n 2, 1) := by decide +kernel
theorem dX8_sets_84 : decode cX8_sets 84 = .ok (.iadd, 1) := by decide +kernel
theorem dX8_sets_85 : decode cX8_sets 85 = .ok (.iload_n 3, 1) := by decide +kernel
theorem dX8_sets_86 : decode cX8_sets 86 = .ok (.invokevirtual 143, 3) := by decide +kernel
theorem dX8_sets_89 : decode cX8_sets 89 = .ok (.iload 4, 2) := by decide +kernel
theorem dX8_sets_91 : decode cX8_sets 91 = .ok (.ireturn, 1) := by decide +kernel
theorem dX8_drifts_0 : decode cX8_drifts 0 = .ok (.aload_n 0, 1) := by decide +kernel
theorem dX8_drifts_1 : decode cX8_drifts 1 = .ok (.getfield 10, 3) := by decide +kernel
theorem dX8_drifts_4 : decode cX8_drifts 4 = .ok (.iload_n 1, 1) := by decide +kernel
theorem dX8_drifts_5 : decode cX8_drifts 5 = .ok (.invokevirtual 133, 3) := by decide +kernel
theorem dX8_drifts_8 : decode cX8_drifts 8 = .ok (.ifCond .eq 15, 3) := by decide +kernel
theorem dX8_drifts_11 : decode cX8_drifts 11 = .ok (.iload_n 2, 1) := by decide +kernel
theorem dX8_drifts_12 : decode cX8_drifts 12 = .ok (.bipush (-50), 2) := by decide +kernel
theorem dX8_drifts_14 : decode cX8_drifts 14 = .ok (.if_icmp .lt 9, 3) := by decide +kernel
theorem dX8_drifts_17 : decode cX8_drifts 17 = .ok (.iload_n 2, 1) := by decide +kernel
theorem dX8_drifts_18 : decode cX8_drifts 18 = .ok (.bipush 50, 2) := by decide +kernel
theorem dX8_drifts_20 : decode cX8_drifts 20 = .ok (.if_icmp .le 5, 3) := by decide +kernel
theorem dX8_drifts_23 : decode cX8_drifts 23 = .ok (.iconst (-1), 1) := by decide +kernel
theorem dX8_drifts_24 : decode cX8_drifts 24 = .ok (.ireturn, 1) := by decide +kernel
theorem dX8_drifts_25 : decode cX8_drifts 25 = .ok (.aload_n 0, 1) := by decide +kernel
theorem dX8_drifts_26 : decode cX8_drifts 26 = .ok (.getfield 10, 3) := by decide +kernel
theorem dX8_drifts_29 : decode cX8_drifts 29 = .ok (.iload_n 1, 1) := by decide +kernel
theorem dX8_drifts_30 : decode cX8_drifts 30 = .ok (.bipush 7, 2) := by decide +kernel
theorem dX8_drifts_32 : decode cX8_drifts 32 = .ok (.invokevirtual 136, 3) := by decide +kernel
theorem dX8_drifts_35 : decode cX8_drifts 35 = .ok (.iload_n 2, 1) := by decide +kernel
theorem dX8_drifts_36 : decode cX8_drifts 36 = .ok (.if_icmp .ne 6, 3) := by decide +kernel
theorem dX8_drifts_39 : decode cX8_drifts 39 = .ok (.bipush (-2), 2) := by decide +kernel
theorem dX8_drifts_41 : decode cX8_drifts 41 = .ok (.ireturn, 1) := by decide +kernel
theorem dX8_drifts_42 : decode cX8_drifts 42 = .ok (.aload_n 0, 1) := by decide +kernel
theorem dX8_drifts_43 : decode cX8_drifts 43 = .ok (.getfield 48, 3) := by decide +kernel
theorem dX8_drifts_46 : decode cX8_drifts 46 = .ok (.aload_n 0, 1) := by decide +kernel
theorem dX8_drifts_47 : decode cX8_drifts 47 = .ok (.getfield 10, 3) := by decide +kernel
theorem dX8_drifts_50 : decode cX8_drifts 50 = .ok (.invokevirtual 105, 3) := by decide +kernel
theorem dX8_drifts_53 : decode cX8_drifts 53 = .ok (.aload_n 0, 1) := by decide +kernel
theorem dX8_drifts_54 : decode cX8_drifts 54 = .ok (.getfield 10, 3) := by decide +kernel
theorem dX8_drifts_57 : decode cX8_drifts 57 = .ok (.iload_n 1, 1) := by decide +kernel
theorem dX8_drifts_58 : decode cX8_drifts 58 = .ok (.bipush 7, 2) := by decide +kernel
theorem dX8_drifts_60 : decode cX8_drifts 60 = .ok (.iload_n 2, 1) := by decide +kernel
theorem dX8_drifts_61 : decode cX8_drifts 61 = .ok (.invokevirtual 143, 3) := by decide +kernel
theorem dX8_drifts_64 : decode cX8_drifts 64 = .ok (.iconst 1, 1) := by decide +kernel
theorem dX8_drifts_65 : decode cX8_drifts 65 = .ok (.ireturn, 1) := by decide +kernel
theorem dX8_measures_0 : decode cX8_measures 0 = .ok (.aload_n 0, 1) := by decide +kernel
theorem dX8_measures_1 : decode cX8_measures 1 = .ok (.getfield 10, 3) := by decide +kernel
theorem dX8_measures_4 : decode cX8_measures 4 = .ok (.invokevirtual 146, 3) := by decide +kernel
theorem dX8_measures_7 : decode cX8_measures 7 = .ok (.istore_n 1, 1) := by decide +kernel
theorem dX8_measures_8 : decode cX8_measures 8 = .ok (.iload_n 1, 1) := by decide +kernel
theorem dX8_measures_9 : decode cX8_measures 9 = .ok (.ifCond .ne 6, 3) := by decide +kernel
theorem dX8_measures_12 : decode cX8_measures 12 = .ok (.bipush (-2), 2) := by decide +kernel
theorem dX8_measures_14 : decode cX8_measures 14 = .ok (.ireturn, 1) := by decide +kernel
theorem dX8_measures_15 : decode cX8_measures 15 = .ok (.aload_n 0, 1) := by decide +kernel
theorem dX8_measures_16 : decode cX8_measures 16 = .ok (.getfield 48, 3) := by decide +kernel
theorem dX8_measures_19 : decode cX8_measures 19 = .ok (.aload_n 0, 1) := by decide +kernel
theorem dX8_measures_20 : decode cX8_measures 20 = .ok (.getfield 10, 3) := by decide +kernel
theorem dX8_measures_23 : decode cX8_measures 23 = .ok (.invokevirtual 105, 3) := by decide +kernel
theorem dX8_measures_26 : decode cX8_measures 26 = .ok (.aload_n 0, 1) := by decide +kernel
theorem dX8_measures_27 : decode cX8_measures 27 = .ok (.getfield 10, 3) := by decide +kernel
theorem dX8_measures_30 : decode cX8_measures 30 = .ok (.iload_n 1, 1) := by decide +kernel
theorem dX8_measures_31 : decode cX8_measures 31 = .ok (.invokevirtual 149, 3) := by decide +kernel
theorem dX8_measures_34 : decode cX8_measures 34 = .ok (.iload_n 1, 1) := by decide +kernel
theorem dX8_measures_35 : decode cX8_measures 35 = .ok (.invokestatic 152, 3) := by decide +kernel
theorem dX8_measures_38 : decode cX8_measures 38 = .ok (.ireturn, 1) := by decide +kernel
theorem dX8_undo_0 : decode cX8_undo 0 = .ok (.aload_n 0, 1) := by decide +kernel
theorem dX8_undo_1 : decode cX8_undo 1 = .ok (.getfield 48, 3) := by decide +kernel
theorem dX8_undo_4 : decode cX8_undo 4 = .ok (.getfield 158, 3) := by decide +kernel
theorem dX8_undo_7 : decode cX8_undo 7 = .ok (.ifCond .ne 6, 3) := by decide +kernel
theorem dX8_undo_10 : decode cX8_undo 10 = .ok (.bipush (-2), 2) := by decide +kernel
theorem dX8_undo_12 : decode cX8_undo 12 = .ok (.ireturn, 1) := by decide +kernel
theorem dX8_undo_13 : decode cX8_undo 13 = .ok (.aload_n 0, 1) := by decide +kernel
theorem dX8_undo_14 : decode cX8_undo 14 = .ok (.getfield 48, 3) := by decide +kernel
theorem dX8_undo_17 : decode cX8_undo 17 = .ok (.aload_n 0, 1) := by decide +kernel
theorem dX8_undo_18 : decode cX8_undo 18 = .ok (.getfield 10, 3) := by decide +kernel
theorem dX8_undo_21 : decode cX8_undo 21 = .ok (.invokevirtual 159, 3) := by decide +kernel
theorem dX8_undo_24 : decode cX8_undo 24 = .ok (.aload_n 0, 1) := by decide +kernel
theorem dX8_undo_25 : decode cX8_undo 25 = .ok (.getfield 48, 3) := by decide +kernel
theorem dX8_undo_28 : decode cX8_undo 28 = .ok (.getfield 158, 3) := by decide +kernel
theorem dX8_undo_31 : decode cX8_undo 31 = .ok (.ireturn, 1) := by decide +kernel
theorem dX8_drive_0 : decode cX8_drive 0 = .ok (.aload_n 0, 1) := by decide +kernel
theorem dX8_drive_1 : decode cX8_drive 1 = .ok (.getfield 10, 3) := by decide +kernel
theorem dX8_drive_4 : decode cX8_drive 4 = .ok (.iload_n 1, 1) := by decide +kernel
theorem dX8_drive_5 : decode cX8_drive 5 = .ok (.invokevirtual 133, 3) := by decide +kernel
theorem dX8_drive_8 : decode cX8_drive 8 = .ok (.ifCond .eq 13, 3) := by decide +kernel
theorem dX8_drive_11 : decode cX8_drive 11 = .ok (.iload_n 2, 1) := by decide +kernel
theorem dX8_drive_12 : decode cX8_drive 12 = .ok (.ifCond .lt 9, 3) := by decide +kernel
theorem dX8_drive_15 : decode cX8_drive 15 = .ok (.iload_n 2, 1) := by decide +kernel
theorem dX8_drive_16 : decode cX8_drive 16 = .ok (.bipush 9, 2) := by decide +kernel
theorem dX8_drive_18 : decode cX8_drive 18 = .ok (.if_icmp .le 6, 3) := by decide +kernel
theorem dX8_drive_21 : decode cX8_drive 21 = .ok (.ldc 162, 2) := by decide +kernel
theorem dX8_drive_23 : decode cX8_drive 23 = .ok (.ireturn, 1) := by decide +kernel
theorem dX8_drive_24 : decode cX8_drive 24 = .ok (.iload_n 2, 1) := by decide +kernel
theorem dX8_drive_25 : decode cX8_drive 25 = .ok (.bipush 9, 2) := by decide +kernel
theorem dX8_drive_27 : decode cX8_drive 27 = .ok (.if_icmp .ne 14, 3) := by decide +kernel
theorem dX8_drive_30 : decode cX8_drive 30 = .ok (.aload_n 0, 1) := by decide +kernel
theorem dX8_drive_31 : decode cX8_drive 31 = .ok (.getfield 10, 3) := by decide +kernel
theorem dX8_drive_34 : decode cX8_drive 34 = .ok (.iload_n 1, 1) := by decide +kernel
theorem dX8_drive_35 : decode cX8_drive 35 = .ok (.invokevirtual 163, 3) := by decide +kernel
theorem dX8_drive_38 : decode cX8_drive 38 = .ok (.goto 12, 3) := by decide +kernel
theorem dX8_drive_41 : decode cX8_drive 41 = .ok (.aload_n 0, 1) := by decide +kernel
theorem dX8_drive_42 : decode cX8_drive 42 = .ok (.getfield 10, 3) := by decide +kernel
theorem dX8_drive_45 : decode cX8_drive 45 = .ok (.iload_n 1, 1) := by decide +kernel
theorem dX8_drive_46 : decode cX8_drive 46 = .ok (.iload_n 2, 1) := by decide +kernel
theorem dX8_drive_47 : decode cX8_drive 47 = .ok (.invokevirtual 136, 3) := by decide +kernel
theorem dX8_drive_50 : decode cX8_drive 50 = .ok (.ireturn, 1) := by decide +kernel
theorem dX8_link_0 : decode cX8_link 0 = .ok (.aload_n 0, 1) := by decide +kernel
theorem dX8_link_1 : decode cX8_link 1 = .ok (.getfield 10, 3) := by decide +kernel
theorem dX8_link_4 : decode cX8_link 4 = .ok (.iload_n 1, 1) := by decide +kernel
theorem dX8_link_5 : decode cX8_link 5 = .ok (.invokevirtual 108, 3) := by decide +kernel
theorem dX8_link_8 : decode cX8_link 8 = .ok (.ifCond .eq 12, 3) := by decide +kernel
theorem dX8_link_11 : decode cX8_link 11 = .ok (.iload_n 2, 1) := by decide +kernel
theorem dX8_link_12 : decode cX8_link 12 = .ok (.ifCond .lt 8, 3) := by decide +kernel
theorem dX8_link_15 : decode cX8_link 15 = .ok (.iload_n 2, 1) := by decide +kernel
theorem dX8_link_16 : decode cX8_link 16 = .ok (.iconst 2, 1) := by decide +kernel
theorem dX8_link_17 : decode cX8_link 17 = .ok (.if_icmp .lt 5, 3) := by decide +kernel
theorem dX8_link_20 : decode cX8_link 20 = .ok (.iconst (-1), 1) := by decide +kernel
theorem dX8_link_21 : decode cX8_link 21 = .ok (.ireturn, 1) := by decide +kernel
theorem dX8_link_22 : decode cX8_link 22 = .ok (.aload_n 0, 1) := by decide +kernel
theorem dX8_link_23 : decode cX8_link 23 = .ok (.getfield 10, 3) := by decide +kernel
theorem dX8_link_26 : decode cX8_link 26 = .ok (.iload_n 1, 1) := by decide +kernel
theorem dX8_link_27 : decode cX8_link 27 = .ok (.iload_n 2, 1) := by decide +kernel
theorem dX8_link_28 : decode cX8_link 28 = .ok (.invokevirtual 166, 3) := by decide +kernel
theorem dX8_link_31 : decode cX8_link 31 = .ok (.ireturn, 1) := by decide +kernel
theorem dX8_order_0 : decode cX8_order 0 = .ok (.aload_n 0, 1) := by decide +kernel
theorem dX8_order_1 : decode cX8_order 1 = .ok (.getfield 10, 3) := by decide +kernel
theorem dX8_order_4 : decode cX8_order 4 = .ok (.iload_n 1, 1) := by decide +kernel
theorem dX8_order_5 : decode cX8_order 5 = .ok (.invokevirtual 169, 3) := by decide +kernel
theorem dX8_order_8 : decode cX8_order 8 = .ok (.ifCond .eq 12, 3) := by decide +kernel
theorem dX8_order_11 : decode cX8_order 11 = .ok (.iload_n 2, 1) := by decide +kernel
theorem dX8_order_12 : decode cX8_order 12 = .ok (.ifCond .lt 8, 3) := by decide +kernel
theorem dX8_order_15 : decode cX8_order 15 = .ok (.iload_n 2, 1) := by decide +kernel
theorem dX8_order_16 : decode cX8_order 16 = .ok (.iconst 5, 1) := by decide +kernel
theorem dX8_order_17 : decode cX8_order 17 = .ok (.if_icmp .lt 5, 3) := by decide +kernel
theorem dX8_order_20 : decode cX8_order 20 = .ok (.iconst (-1), 1) := by decide +kernel
theorem dX8_order_21 : decode cX8_order 21 = .ok (.ireturn, 1) := by decide +kernel
theorem dX8_order_22 : decode cX8_order 22 = .ok (.aload_n 0, 1) := by decide +kernel
theorem dX8_order_23 : decode cX8_order 23 = .ok (.getfield 10, 3) := by decide +kernel
theorem dX8_order_26 : decode cX8_order 26 = .ok (.iload_n 1, 1) := by decide +kernel
theorem dX8_order_27 : decode cX8_order 27 = .ok (.iload_n 2, 1) := by decide +kernel
theorem dX8_order_28 : decode cX8_order 28 = .ok (.invokevirtual 172, 3) := by decide +kernel
theorem dX8_order_31 : decode cX8_order 31 = .ok (.ireturn, 1) := by decide +kernel
theorem dX8_result_0 : decode cX8_result 0 = .ok (.aload_n 0, 1) := by decide +kernel
theorem dX8_result_1 : decode cX8_result 1 = .ok (.getfield 10, 3) := by decide +kernel
theorem dX8_result_4 : decode cX8_result 4 = .ok (.iload_n 1, 1) := by decide +kernel
theorem dX8_result_5 : decode cX8_result 5 = .ok (.invokevirtual 169, 3) := by decide +kernel
theorem dX8_result_8 : decode cX8_result 8 = .ok (.ifCond .eq 12, 3) := by decide +kernel
theorem dX8_result_11 : decode cX8_result 11 = .ok (.iload_n 2, 1) := by decide +kernel
theorem dX8_result_12 : decode cX8_result 12 = .ok (.ifCond .lt 8, 3) := by decide +kernel
theorem dX8_result_15 : decode cX8_result 15 = .ok (.iload_n 2, 1) := by decide +kernel
theorem dX8_result_16 : decode cX8_result 16 = .ok (.iconst 2, 1) := by decide +kernel
theorem dX8_result_17 : decode cX8_result 17 = .ok (.if_icmp .lt 5, 3) := by decide +kernel
theorem dX8_result_20 : decode cX8_result 20 = .ok (.iconst (-1), 1) := by decide +kernel
theorem dX8_result_21 : decode cX8_result 21 = .ok (.ireturn, 1) := by decide +kernel
theorem dX8_result_22 : decode cX8_result 22 = .ok (.aload_n 0, 1) := by decide +kernel
theorem dX8_result_23 : decode cX8_result 23 = .ok (.getfield 10, 3) := by decide +kernel
theorem dX8_result_26 : decode cX8_result 26 = .ok (.getfield 175, 3) := by decide +kernel
theorem dX8_result_29 : decode cX8_result 29 = .ok (.ifCond .eq 15, 3) := by decide +kernel
theorem dX8_result_32 : decode cX8_result 32 = .ok (.aload_n 0, 1) := by decide +kernel
theorem dX8_result_33 : decode cX8_result 33 = .ok (.getfield 10, 3) := by decide +kernel
theorem dX8_result_36 : decode cX8_result 36 = .ok (.iload_n 1, 1) := by decide +kernel
theorem dX8_result_37 : decode cX8_result 37 = .ok (.iload_n 2, 1) := by decide +kernel
theorem dX8_result_38 : decode cX8_result 38 = .ok (.invokevirtual 178, 3) := by decide +kernel
theorem dX8_result_41 : decode cX8_result 41 = .ok (.goto 5, 3) := by decide +kernel
theorem dX8_result_44 : decode cX8_result 44 = .ok (.bipush (-9), 2) := by decide +kernel
theorem dX8_result_46 : decode cX8_result 46 = .ok (.ireturn, 1) := by decide +kernel
theorem dX8_time_0 : decode cX8_time 0 = .ok (.iload_n 1, 1) := by decide +kernel
theorem dX8_time_1 : decode cX8_time 1 = .ok (.ifCond .lt 8, 3) := by decide +kernel
theorem dX8_time_4 : decode cX8_time 4 = .ok (.iload_n 1, 1) := by decide +kernel
theorem dX8_time_5 : decode cX8_time 5 = .ok (.iconst 2, 1) := by decide +kernel
theorem dX8_time_6 : decode cX8_time 6 = .ok (.if_icmp .lt 5, 3) := by decide +kernel
theorem dX8_time_9 : decode cX8_time 9 = .ok (.iconst (-1), 1) := by decide +kernel
theorem dX8_time_10 : decode cX8_time 10 = .ok (.ireturn, 1) := by decide +kernel
theorem dX8_time_11 : decode cX8_time 11 = .ok (.aload_n 0, 1) := by decide +kernel
theorem dX8_time_12 : decode cX8_time 12 = .ok (.getfield 10, 3) := by decide +kernel
theorem dX8_time_15 : decode cX8_time 15 = .ok (.getfield 181, 3) := by decide +kernel
theorem dX8_time_18 : decode cX8_time 18 = .ok (.iload_n 1, 1) := by decide +kernel
theorem dX8_time_19 : decode cX8_time 19 = .ok (.iaload, 1) := by decide +kernel
theorem dX8_time_20 : decode cX8_time 20 = .ok (.ireturn, 1) := by decide +kernel
theorem dX8_reached_0 : decode cX8_reached 0 = .ok (.iload_n 1, 1) := by decide +kernel
theorem dX8_reached_1 : decode cX8_reached 1 = .ok (.ifCond .lt 8, 3) := by decide +kernel
theorem dX8_reached_4 : decode cX8_reached 4 = .ok (.iload_n 1, 1) := by decide +kernel
theorem dX8_reached_5 : decode cX8_reached 5 = .ok (.iconst 1, 1) := by decide +kernel
theorem dX8_reached_6 : decode cX8_reached 6 = .ok (.if_icmp .le 5, 3) := by decide +kernel
theorem dX8_reached_9 : decode cX8_reached 9 = .ok (.iconst (-1), 1) := by decide +kernel
theorem dX8_reached_10 : decode cX8_reached 10 = .ok (.ireturn, 1) := by decide +kernel
theorem dX8_reached_11 : decode cX8_reached 11 = .ok (.iload_n 1, 1) := by decide +kernel
theorem dX8_reached_12 : decode cX8_reached 12 = .ok (.ifCond .ne 13, 3) := by decide +kernel
theorem dX8_reached_15 : decode cX8_reached 15 = .ok (.aload_n 0, 1) := by decide +kernel
theorem dX8_reached_16 : decode cX8_reached 16 = .ok (.getfield 10, 3) := by decide +kernel
theorem dX8_reached_19 : decode cX8_reached 19 = .ok (.invokevirtual 185, 3) := by decide +kernel
theorem dX8_reached_22 : decode cX8_reached 22 = .ok (.goto 10, 3) := by decide +kernel
theorem dX8_reached_25 : decode cX8_reached 25 = .ok (.aload_n 0, 1) := by decide +kernel
theorem dX8_reached_26 : decode cX8_reached 26 = .ok (.getfield 10, 3) := by decide +kernel
theorem dX8_reached_29 : decode cX8_reached 29 = .ok (.invokevirtual 188, 3) := by decide +kernel
theorem dX8_reached_32 : decode cX8_reached 32 = .ok (.ireturn, 1) := by decide +kernel
theorem dX8_would_0 : decode cX8_would 0 = .ok (.iload_n 1, 1) := by decide +kernel
theorem dX8_would_1 : decode cX8_would 1 = .ok (.ifCond .lt 9, 3) := by decide +kernel
theorem dX8_would_4 : decode cX8_would 4 = .ok (.iload_n 1, 1) := by decide +kernel
theorem dX8_would_5 : decode cX8_would 5 = .ok (.bipush 6, 2) := by decide +kernel
theorem dX8_would_7 : decode cX8_would 7 = .ok (.if_icmp .lt 5, 3) := by decide +kernel
theorem dX8_would_10 : decode cX8_would 10 = .ok (.iconst (-1), 1) := by decide +kernel
theorem dX8_would_11 : decode cX8_would 11 = .ok (.ireturn, 1) := by decide +kernel
theorem dX8_would_12 : decode cX8_would 12 = .ok (.aload_n 0, 1) := by decide +kernel
theorem dX8_would_13 : decode cX8_would 13 = .ok (.bipush (-9), 2) := by decide +kernel
theorem dX8_would_15 : decode cX8_would 15 = .ok (.invokevirtual 191, 3) := by decide +kernel
theorem dX8_would_18 : decode cX8_would 18 = .ok (.aload_n 0, 1) := by decide +kernel
theorem dX8_would_19 : decode cX8_would 19 = .ok (.getfield 19, 3) := by decide +kernel
theorem dX8_would_22 : decode cX8_would 22 = .ok (.iload_n 1, 1) := by decide +kernel
theorem dX8_would_23 : decode cX8_would 23 = .ok (.invokevirtual 194, 3) := by decide +kernel
theorem dX8_would_26 : decode cX8_would 26 = .ok (.ireturn, 1) := by decide +kernel
theorem dX8_sendTrial_0 : decode cX8_sendTrial 0 = .ok (.aload_n 0, 1) := by decide +kernel
theorem dX8_sendTrial_1 : decode cX8_sendTrial 1 = .ok (.getfield 19, 3) := by decide +kernel
theorem dX8_sendTrial_4 : decode cX8_sendTrial 4 = .ok (.aload_n 0, 1) := by decide +kernel
theorem dX8_sendTrial_5 : decode cX8_sendTrial 5 = .ok (.getfield 10, 3) := by decide +kernel
theorem dX8_sendTrial_8 : decode cX8_sendTrial 8 = .ok (.invokevirtual 95, 3) := by decide +kernel
theorem dX8_sendTrial_11 : decode cX8_sendTrial 11 = .ok (.aload_n 0, 1) := by decide +kernel
theorem dX8_sendTrial_12 : decode cX8_sendTrial 12 = .ok (.getfield 19, 3) := by decide +kernel
theorem dX8_sendTrial_15 : decode cX8_sendTrial 15 = .ok (.iload_n 1, 1) := by decide +kernel
theorem dX8_sendTrial_16 : decode cX8_sendTrial 16 = .ok (.invokevirtual 108, 3) := by decide +kernel
theorem dX8_sendTrial_19 : decode cX8_sendTrial 19 = .ok (.ifCond .eq 13, 3) := by decide +kernel
theorem dX8_sendTrial_22 : decode cX8_sendTrial 22 = .ok (.aload_n 0, 1) := by decide +kernel
theorem dX8_sendTrial_23 : decode cX8_sendTrial 23 = .ok (.getfield 19, 3) := by decide +kernel
theorem dX8_sendTrial_26 : decode cX8_sendTrial 26 = .ok (.iload_n 1, 1) := by decide +kernel
theorem dX8_sendTrial_27 : decode cX8_sendTrial 27 = .ok (.iconst 1, 1) := by decide +kernel
theorem dX8_sendTrial_28 : decode cX8_sendTrial 28 = .ok (.iconst 1, 1) := by decide +kernel
theorem dX8_sendTrial_29 : decode cX8_sendTrial 29 = .ok (.invokevirtual 115, 3) := by decide +kernel
theorem dX8_sendTrial_32 : decode cX8_sendTrial 32 = .ok (.aload_n 0, 1) := by decide +kernel
theorem dX8_sendTrial_33 : decode cX8_sendTrial 33 = .ok (.getfield 41, 3) := by decide +kernel
theorem dX8_sendTrial_36 : decode cX8_sendTrial 36 = .ok (.aload_n 0, 1) := by decide +kernel
theorem dX8_sendTrial_37 : decode cX8_sendTrial 37 = .ok (.getfield 19, 3) := by decide +kernel
theorem dX8_sendTrial_40 : decode cX8_sendTrial 40 = .ok (.invokevirtual 197, 3) := by decide +kernel
theorem dX8_sendTrial_43 : decode cX8_sendTrial 43 = .ok (.return_, 1) := by decide +kernel
theorem dX8_sees_0 : decode cX8_sees 0 = .ok (.iload_n 1, 1) := by decide +kernel
theorem dX8_sees_1 : decode cX8_sees 1 = .ok (.iconst 4, 1) := by decide +kernel
theorem dX8_sees_2 : decode cX8_sees 2 = .ok (.if_icmp .lt 13, 3) := by decide +kernel
theorem dX8_sees_5 : decode cX8_sees 5 = .ok (.iload_n 2, 1) := by decide +kernel
theorem dX8_sees_6 : decode cX8_sees 6 = .ok (.bipush (-9), 2) := by decide +kernel
theorem dX8_sees_8 : decode cX8_sees 8 = .ok (.if_icmp .ne 7, 3) := by decide +kernel
theorem dX8_sees_11 : decode cX8_sees 11 = .ok (.iconst 1, 1) := by decide +kernel
theorem dX8_sees_12 : decode cX8_sees 12 = .ok (.goto 4, 3) := by decide +kernel
theorem dX8_sees_15 : decode cX8_sees 15 = .ok (.iconst 0, 1) := by decide +kernel
theorem dX8_sees_16 : decode cX8_sees 16 = .ok (.istore_n 3, 1) := by decide +kernel
theorem dX8_sees_17 : decode cX8_sees 17 = .ok (.iload_n 1, 1) := by decide +kernel
theorem dX8_sees_18 : decode cX8_sees 18 = .ok (.ifCond .lt 24, 3) := by decide +kernel
theorem dX8_sees_21 : decode cX8_sees 21 = .ok (.iload_n 1, 1) := by decide +kernel
theorem dX8_sees_22 : decode cX8_sees 22 = .ok (.bipush 6, 2) := by decide +kernel
theorem dX8_sees_24 : decode cX8_sees 24 = .ok (.if_icmp .ge 18, 3) := by decide +kernel
theorem dX8_sees_27 : decode cX8_sees 27 = .ok (.iload_n 3, 1) := by decide +kernel
theorem dX8_sees_28 : decode cX8_sees 28 = .ok (.ifCond .ne 16, 3) := by decide +kernel
theorem dX8_sees_31 : decode cX8_sees 31 = .ok (.iload_n 2, 1) := by decide +kernel
theorem dX8_sees_32 : decode cX8_sees 32 = .ok (.ifCond .lt 10, 3) := by decide +kernel
theorem dX8_sees_35 : decode cX8_sees 35 = .ok (.iload_n 2, 1) := by decide +kernel
theorem dX8_sees_36 : decode cX8_sees 36 = .ok (.sipush 255, 3) := by decide +kernel
theorem dX8_sees_39 : decode cX8_sees 39 = .ok (.if_icmp .le 5, 3) := by decide +kernel
theorem dX8_sees_42 : decode cX8_sees 42 = .ok (.iconst (-1), 1) := by decide +kernel
theorem dX8_sees_43 : decode cX8_sees 43 = .ok (.ireturn, 1) := by decide +kernel
theorem dX8_sees_44 : decode cX8_sees 44 = .ok (.aload_n 0, 1) := by decide +kernel
theorem dX8_sees_45 : decode cX8_sees 45 = .ok (.getfield 63, 3) := by decide +kernel
theorem dX8_sees_48 : decode cX8_sees 48 = .ok (.getfield 200, 3) := by decide +kernel
theorem dX8_sees_51 : decode cX8_sees 51 = .ok (.bipush 6, 2) := by decide +kernel
theorem dX8_sees_53 : decode cX8_sees 53 = .ok (.if_icmp .lt 6, 3) := by decide +kernel
theorem dX8_sees_56 : decode cX8_sees 56 = .ok (.bipush (-3), 2) := by decide +kernel
theorem dX8_sees_58 : decode cX8_sees 58 = .ok (.ireturn, 1) := by decide +kernel
theorem dX8_sees_59 : decode cX8_sees 59 = .ok (.aload_n 0, 1) := by decide +kernel
theorem dX8_sees_60 : decode cX8_sees 60 = .ok (.getfield 63, 3) := by decide +kernel
theorem dX8_sees_63 : decode cX8_sees 63 = .ok (.iload_n 1, 1) := by decide +kernel
theorem dX8_sees_64 : decode cX8_sees 64 = .ok (.iload_n 2, 1) := by decide +kernel
theorem dX8_sees_65 : decode cX8_sees 65 = .ok (.invokevirtual 201, 3) := by decide +kernel
theorem dX8_sees_68 : decode cX8_sees 68 = .ok (.aload_n 0, 1) := by decide +kernel
theorem dX8_sees_69 : decode cX8_sees 69 = .ok (.getfield 63, 3) := by decide +kernel
theorem dX8_sees_72 : decode cX8_sees 72 = .ok (.getfield 200, 3) := by decide +kernel
theorem dX8_sees_75 : decode cX8_sees 75 = .ok (.ireturn, 1) := by decide +kernel
theorem dX8_forget_0 : decode cX8_forget 0 = .ok (.aload_n 0, 1) := by decide +kernel
theorem dX8_forget_1 : decode cX8_forget 1 = .ok (.getfield 63, 3) := by decide +kernel
theorem dX8_forget_4 : decode cX8_forget 4 = .ok (.getfield 200, 3) := by decide +kernel
theorem dX8_forget_7 : decode cX8_forget 7 = .ok (.istore_n 1, 1) := by decide +kernel
theorem dX8_forget_8 : decode cX8_forget 8 = .ok (.aload_n 0, 1) := by decide +kernel
theorem dX8_forget_9 : decode cX8_forget 9 = .ok (.getfield 63, 3) := by decide +kernel
theorem dX8_forget_12 : decode cX8_forget 12 = .ok (.iconst 0, 1) := by decide +kernel
theorem dX8_forget_13 : decode cX8_forget 13 = .ok (.putfield 200, 3) := by decide +kernel
theorem dX8_forget_16 : decode cX8_forget 16 = .ok (.iload_n 1, 1) := by decide +kernel
theorem dX8_forget_17 : decode cX8_forget 17 = .ok (.ireturn, 1) := by decide +kernel
theorem dX8_which_0 : decode cX8_which 0 = .ok (.iload_n 1, 1) := by decide +kernel
theorem dX8_which_1 : decode cX8_which 1 = .ok (.ifCond .lt 8, 3) := by decide +kernel
theorem dX8_which_4 : decode cX8_which 4 = .ok (.iload_n 1, 1) := by decide +kernel
theorem dX8_which_5 : decode cX8_which 5 = .ok (.iconst 2, 1) := by decide +kernel
theorem dX8_which_6 : decode cX8_which 6 = .ok (.if_icmp .le 5, 3) := by decide +kernel
theorem dX8_which_9 : decode cX8_which 9 = .ok (.iconst (-1), 1) := by decide +kernel
theorem dX8_which_10 : decode cX8_which 10 = .ok (.ireturn, 1) := by decide +kernel
theorem dX8_which_11 : decode cX8_which 11 = .ok (.iload_n 1, 1) := by decide +kernel
theorem dX8_which_12 : decode cX8_which 12 = .ok (.iconst 2, 1) := by decide +kernel
theorem dX8_which_13 : decode cX8_which 13 = .ok (.if_icmp .ne 29, 3) := by decide +kernel
theorem dX8_which_16 : decode cX8_which 16 = .ok (.aload_n 0, 1) := by decide +kernel
theorem dX8_which_17 : decode cX8_which 17 = .ok (.bipush (-9), 2) := by decide +kernel
theorem dX8_which_19 : decode cX8_which 19 = .ok (.invokevirtual 191, 3) := by decide +kernel
theorem dX8_which_22 : decode cX8_which 22 = .ok (.aload_n 0, 1) := by decide +kernel
theorem dX8_which_23 : decode cX8_which 23 = .ok (.getfield 63, 3) := by decide +kernel
theorem dX8_which_26 : decode cX8_which 26 = .ok (.aload_n 0, 1) := by decide +kernel
theorem dX8_which_27 : decode cX8_which 27 = .ok (.getfield 19, 3) := by decide +kernel
theorem dX8_which_30 : decode cX8_which 30 = .ok (.invokevirtual 204, 3) := by decide +kernel
theorem dX8_which_33 : decode cX8_which 33 = .ok (.ifCond .eq 7, 3) := by decide +kernel
theorem dX8_which_36 : decode cX8_which 36 = .ok (.iconst 1, 1) := by decide +kernel
theorem dX8_which_37 : decode cX8_which 37 = .ok (.goto 4, 3) := by decide +kernel
theorem dX8_which_40 : decode cX8_which 40 = .ok (.iconst 0, 1) := by decide +kernel
theorem dX8_which_41 : decode cX8_which 41 = .ok (.ireturn, 1) := by decide +kernel
theorem dX8_which_42 : decode cX8_which 42 = .ok (.aload_n 0, 1) := by decide +kernel
theorem dX8_which_43 : decode cX8_which 43 = .ok (.invokevirtual 207, 3) := by decide +kernel
theorem dX8_which_46 : decode cX8_which 46 = .ok (.iload_n 1, 1) := by decide +kernel
theorem dX8_which_47 : decode cX8_which 47 = .ok (.ifCond .ne 11, 3) := by decide +kernel
theorem dX8_which_50 : decode cX8_which 50 = .ok (.aload_n 0, 1) := by decide +kernel
theorem dX8_which_51 : decode cX8_which 51 = .ok (.getfield 70, 3) := by decide +kernel
theorem dX8_which_54 : decode cX8_which 54 = .ok (.getfield 210, 3) := by decide +kernel
theorem dX8_which_57 : decode cX8_which 57 = .ok (.ireturn, 1) := by decide +kernel
theorem dX8_which_58 : decode cX8_which 58 = .ok (.aload_n 0, 1) := by decide +kernel
theorem dX8_which_59 : decode cX8_which 59 = .ok (.getfield 70, 3) := by decide +kernel
theorem dX8_which_62 : decode cX8_which 62 = .ok (.getfield 210, 3) := by decide +kernel
theorem dX8_which_65 : decode cX8_which 65 = .ok (.ifCond .ne 8, 3) := by decide +kernel
theorem dX8_which_68 : decode cX8_which 68 = .ok (.bipush (-9), 2) := by decide +kernel
theorem dX8_which_70 : decode cX8_which 70 = .ok (.goto 12, 3) := by decide +kernel
theorem dX8_which_73 : decode cX8_which 73 = .ok (.aload_n 0, 1) := by decide +kernel
theorem dX8_which_74 : decode cX8_which 74 = .ok (.getfield 70, 3) := by decide +kernel
theorem dX8_which_77 : decode cX8_which 77 = .ok (.getfield 211, 3) := by decide +kernel
theorem dX8_which_80 : decode cX8_which 80 = .ok (.iconst 0, 1) := by decide +kernel
theorem dX8_which_81 : decode cX8_which 81 = .ok (.iaload, 1) := by decide +kernel
theorem dX8_which_82 : decode cX8_which 82 = .ok (.ireturn, 1) := by decide +kernel
theorem dX8_ask_0 : decode cX8_ask 0 = .ok (.aload_n 0, 1) := by decide +kernel
theorem dX8_ask_1 : decode cX8_ask 1 = .ok (.invokevirtual 207, 3) := by decide +kernel
theorem dX8_ask_4 : decode cX8_ask 4 = .ok (.aload_n 0, 1) := by decide +kernel
theorem dX8_ask_5 : decode cX8_ask 5 = .ok (.getfield 70, 3) := by decide +kernel
theorem dX8_ask_8 : decode cX8_ask 8 = .ok (.getfield 210, 3) := by decide +kernel
theorem dX8_ask_11 : decode cX8_ask 11 = .ok (.iconst 1, 1) := by decide +kernel
theorem dX8_ask_12 : decode cX8_ask 12 = .ok (.if_icmp .gt 8, 3) := by decide +kernel
theorem dX8_ask_15 : decode cX8_ask 15 = .ok (.bipush (-9), 2) := by decide +kernel
theorem dX8_ask_17 : decode cX8_ask 17 = .ok (.goto 10, 3) := by decide +kernel
theorem dX8_ask_20 : decode cX8_ask 20 = .ok (.aload_n 0, 1) := by decide +kernel
theorem dX8_ask_21 : decode cX8_ask 21 = .ok (.getfield 70, 3) := by decide +kernel
theorem dX8_ask_24 : decode cX8_ask 24 = .ok (.invokevirtual 214, 3) := by decide +kernel
theorem dX8_ask_27 : decode cX8_ask 27 = .ok (.ireturn, 1) := by decide +kernel
theorem dX8_findSuspects_0 : decode cX8_findSuspects 0 = .ok (.aload_n 0, 1) := by decide +kernel
theorem dX8_findSuspects_1 : decode cX8_findSuspects 1 = .ok (.getfield 70, 3) := by decide +kernel
theorem dX8_findSuspects_4 : decode cX8_findSuspects 4 = .ok (.iconst 0, 1) := by decide +kernel
theorem dX8_findSuspects_5 : decode cX8_findSuspects 5 = .ok (.putfield 210, 3) := by decide +kernel
theorem dX8_findSuspects_8 : decode cX8_findSuspects 8 = .ok (.aload_n 0, 1) := by decide +kernel
theorem dX8_findSuspects_9 : decode cX8_findSuspects 9 = .ok (.getfield 10, 3) := by decide +kernel
theorem dX8_findSuspects_12 : decode cX8_findSuspects 12 = .ok (.invokevirtual 217, 3) := by decide +kernel
theorem dX8_findSuspects_15 : decode cX8_findSuspects 15 = .ok (.istore_n 1, 1) := by decide +kernel
theorem dX8_findSuspects_16 : decode cX8_findSuspects 16 = .ok (.iconst 0, 1) := by decide +kernel
theorem dX8_findSuspects_17 : decode cX8_findSuspects 17 = .ok (.istore_n 2, 1) := by decide +kernel
theorem dX8_findSuspects_18 : decode cX8_findSuspects 18 = .ok (.iload_n 2, 1) := by decide +kernel
theorem dX8_findSuspects_19 : decode cX8_findSuspects 19 = .ok (.iload_n 1, 1) := by decide +kernel
theorem dX8_findSuspects_20 : decode cX8_findSuspects 20 = .ok (.if_icmp .ge 51, 3) := by decide +kernel
theorem dX8_findSuspects_23 : decode cX8_findSuspects 23 = .ok (.aload_n 0, 1) := by decide +kernel
theorem dX8_findSuspects_24 : decode cX8_findSuspects 24 = .ok (.getfield 10, 3) := by decide +kernel
theorem dX8_findSuspects_27 : decode cX8_findSuspects 27 = .ok (.iload_n 2, 1) := by decide +kernel
theorem dX8_findSuspects_28 : decode cX8_findSuspects 28 = .ok (.invokevirtual 112, 3) := by decide +kernel
theorem dX8_findSuspects_31 : decode cX8_findSuspects 31 = .ok (.ifCond .ne 34, 3) := by decide +kernel
theorem dX8_findSuspects_34 : decode cX8_findSuspects 34 = .ok (.aload_n 0, 1) := by decide +kernel
theorem dX8_findSuspects_35 : decode cX8_findSuspects 35 = .ok (.iload_n 2, 1) := by decide +kernel
theorem dX8_findSuspects_36 : decode cX8_findSuspects 36 = .ok (.invokevirtual 191, 3) := by decide +kernel
theorem dX8_findSuspects_39 : decode cX8_findSuspects 39 = .ok (.aload_n 0, 1) := by decide +kernel
theorem dX8_findSuspects_40 : decode cX8_findSuspects 40 = .ok (.getfield 63, 3) := by decide +kernel
theorem dX8_findSuspects_43 : decode cX8_findSuspects 43 = .ok (.aload_n 0, 1) := by decide +kernel
theorem dX8_findSuspects_44 : decode cX8_findSuspects 44 = .ok (.getfield 19, 3) := by decide +kernel
theorem dX8_findSuspects_47 : decode cX8_findSuspects 47 = .ok (.invokevirtual 204, 3) := by decide +kernel
theorem dX8_findSuspects_50 : decode cX8_findSuspects 50 = .ok (.ifCond .eq 15, 3) := by decide +kernel
theorem dX8_findSuspects_53 : decode cX8_findSuspects 53 = .ok (.aload_n 0, 1) := by decide +kernel
theorem dX8_findSuspects_54 : decode cX8_findSuspects 54 = .ok (.getfield 70, 3) := by decide +kernel
theorem dX8_findSuspects_57 : decode cX8_findSuspects 57 = .ok (.iload_n 2, 1) := by decide +kernel
theorem dX8_findSuspects_58 : decode cX8_findSuspects 58 = .ok (.aload_n 0, 1) := by decide +kernel
theorem dX8_findSuspects_59 : decode cX8_findSuspects 59 = .ok (.getfield 19, 3) := by decide +kernel
theorem dX8_findSuspects_62 : decode cX8_findSuspects 62 = .ok (.invokevirtual 219, 3) := by decide +kernel
theorem dX8_findSuspects_65 : decode cX8_findSuspects 65 = .ok (.iinc 2 1, 3) := by decide +kernel
theorem dX8_findSuspects_68 : decode cX8_findSuspects 68 = .ok (.goto (-50), 3) := by decide +kernel
theorem dX8_findSuspects_71 : decode cX8_findSuspects 71 = .ok (.return_, 1) := by decide +kernel
theorem dX8_keep_0 : decode cX8_keep 0 = .ok (.iload_n 1, 1) := by decide +kernel
theorem dX8_keep_1 : decode cX8_keep 1 = .ok (.ifCond .lt 8, 3) := by decide +kernel
theorem dX8_keep_4 : decode cX8_keep 4 = .ok (.iload_n 1, 1) := by decide +kernel
theorem dX8_keep_5 : decode cX8_keep 5 = .ok (.iconst 2, 1) := by decide +kernel
theorem dX8_keep_6 : decode cX8_keep 6 = .ok (.if_icmp .lt 5, 3) := by decide +kernel
theorem dX8_keep_9 : decode cX8_keep 9 = .ok (.iconst (-1), 1) := by decide +kernel
theorem dX8_keep_10 : decode cX8_keep 10 = .ok (.ireturn, 1) := by decide +kernel
theorem dX8_keep_11 : decode cX8_keep 11 = .ok (.aload_n 0, 1) := by decide +kernel
theorem dX8_keep_12 : decode cX8_keep 12 = .ok (.getfield 52, 3) := by decide +kernel
theorem dX8_keep_15 : decode cX8_keep 15 = .ok (.iload_n 1, 1) := by decide +kernel
theorem dX8_keep_16 : decode cX8_keep 16 = .ok (.aaload, 1) := by decide +kernel
theorem dX8_keep_17 : decode cX8_keep 17 = .ok (.aload_n 0, 1) := by decide +kernel
theorem dX8_keep_18 : decode cX8_keep 18 = .ok (.getfield 10, 3) := by decide +kernel
theorem dX8_keep_21 : decode cX8_keep 21 = .ok (.invokevirtual 95, 3) := by decide +kernel
theorem dX8_keep_24 : decode cX8_keep 24 = .ok (.aload_n 0, 1) := by decide +kernel
theorem dX8_keep_25 : decode cX8_keep 25 = .ok (.getfield 56, 3) := by decide +kernel
theorem dX8_keep_28 : decode cX8_keep 28 = .ok (.iload_n 1, 1) := by decide +kernel
theorem dX8_keep_29 : decode cX8_keep 29 = .ok (.iconst 1, 1) := by decide +kernel
theorem dX8_keep_30 : decode cX8_keep 30 = .ok (.bastore, 1) := by decide +kernel
theorem dX8_keep_31 : decode cX8_keep 31 = .ok (.aload_n 0, 1) := by decide +kernel
theorem dX8_keep_32 : decode cX8_keep 32 = .ok (.getfield 10, 3) := by decide +kernel
theorem dX8_keep_35 : decode cX8_keep 35 = .ok (.getfield 92, 3) := by decide +kernel
theorem dX8_keep_38 : decode cX8_keep 38 = .ok (.ireturn, 1) := by decide +kernel
theorem dX8_back_0 : decode cX8_back 0 = .ok (.iload_n 1, 1) := by decide +kernel
theorem dX8_back_1 : decode cX8_back 1 = .ok (.ifCond .lt 8, 3) := by decide +kernel
theorem dX8_back_4 : decode cX8_back 4 = .ok (.iload_n 1, 1) := by decide +kernel
theorem dX8_back_5 : decode cX8_back 5 = .ok (.iconst 2, 1) := by decide +kernel
theorem dX8_back_6 : decode cX8_back 6 = .ok (.if_icmp .lt 5, 3) := by decide +kernel
theorem dX8_back_9 : decode cX8_back 9 = .ok (.iconst (-1), 1) := by decide +kernel
theorem dX8_back_10 : decode cX8_back 10 = .ok (.ireturn, 1) := by decide +kernel
theorem dX8_back_11 : decode cX8_back 11 = .ok (.aload_n 0, 1) := by decide +kernel
theorem dX8_back_12 : decode cX8_back 12 = .ok (.getfield 56, 3) := by decide +kernel
theorem dX8_back_15 : decode cX8_back 15 = .ok (.iload_n 1, 1) := by decide +kernel
theorem dX8_back_16 : decode cX8_back 16 = .ok (.baload, 1) := by decide +kernel
theorem dX8_back_17 : decode cX8_back 17 = .ok (.ifCond .ne 6, 3) := by decide +kernel
theorem dX8_back_20 : decode cX8_back 20 = .ok (.bipush (-2), 2) := by decide +kernel
theorem dX8_back_22 : decode cX8_back 22 = .ok (.ireturn, 1) := by decide +kernel
theorem dX8_back_23 : decode cX8_back 23 = .ok (.aload_n 0, 1) := by decide +kernel
theorem dX8_back_24 : decode cX8_back 24 = .ok (.getfield 10, 3) := by decide +kernel
theorem dX8_back_27 : decode cX8_back 27 = .ok (.aload_n 0, 1) := by decide +kernel
theorem dX8_back_28 : decode cX8_back 28 = .ok (.getfield 52, 3) := by decide +kernel
theorem dX8_back_31 : decode cX8_back 31 = .ok (.iload_n 1, 1) := by decide +kernel
theorem dX8_back_32 : decode cX8_back 32 = .ok (.aaload, 1) := by decide +kernel
theorem dX8_back_33 : decode cX8_back 33 = .ok (.invokevirtual 95, 3) := by decide +kernel
theorem dX8_back_36 : decode cX8_back 36 = .ok (.aload_n 0, 1) := by decide +kernel
theorem dX8_back_37 : decode cX8_back 37 = .ok (.getfield 48, 3) := by decide +kernel
theorem dX8_back_40 : decode cX8_back 40 = .ok (.iconst 0, 1) := by decide +kernel
theorem dX8_back_41 : decode cX8_back 41 = .ok (.putfield 158, 3) := by decide +kernel
theorem dX8_back_44 : decode cX8_back 44 = .ok (.aload_n 0, 1) := by decide +kernel
theorem dX8_back_45 : decode cX8_back 45 = .ok (.getfield 10, 3) := by decide +kernel
theorem dX8_back_48 : decode cX8_back 48 = .ok (.getfield 92, 3) := by decide +kernel
theorem dX8_back_51 : decode cX8_back 51 = .ok (.ireturn, 1) := by decide +kernel
theorem dX8_count_0 : decode cX8_count 0 = .ok (.iload_n 1, 1) := by decide +kernel
theorem dX8_count_1 : decode cX8_count 1 = .ok (.tableswitch 187 0 12 #[67, 75, 83, 99, 107, 115, 123, 131, 139, 155, 163, 171, 179], 67) := by decide +kernel
theorem dX8_count_68 : decode cX8_count 68 = .ok (.aload_n 0, 1) := by decide +kernel
theorem dX8_count_69 : decode cX8_count 69 = .ok (.getfield 10, 3) := by decide +kernel
theorem dX8_count_72 : decode cX8_count 72 = .ok (.getfield 92, 3) := by decide +kernel
theorem dX8_count_75 : decode cX8_count 75 = .ok (.ireturn, 1) := by decide +kernel
theorem dX8_count_76 : decode cX8_count 76 = .ok (.aload_n 0, 1) := by decide +kernel
theorem dX8_count_77 : decode cX8_count 77 = .ok (.getfield 10, 3) := by decide +kernel
theorem dX8_count_80 : decode cX8_count 80 = .ok (.invokevirtual 217, 3) := by decide +kernel
theorem dX8_count_83 : decode cX8_count 83 = .ok (.ireturn, 1) := by decide +kernel
theorem dX8_count_84 : decode cX8_count 84 = .ok (.aload_n 0, 1) := by decide +kernel
theorem dX8_count_85 : decode cX8_count 85 = .ok (.getfield 10, 3) := by decide +kernel
theorem dX8_count_88 : decode cX8_count 88 = .ok (.getfield 222, 3) := by decide +kernel
theorem dX8_count_91 : decode cX8_count 91 = .ok (.ifCond .eq 7, 3) := by decide +kernel
theorem dX8_count_94 : decode cX8_count 94 = .ok (.iconst 1, 1) := by decide +kernel
theorem dX8_count_95 : decode cX8_count 95 = .ok (.goto 4, 3) := by decide +kernel
theorem dX8_count_98 : decode cX8_count 98 = .ok (.iconst 0, 1) := by decide +kernel
theorem dX8_count_99 : decode cX8_count 99 = .ok (.ireturn, 1) := by decide +kernel
theorem dX8_count_100 : decode cX8_count 100 = .ok (.aload_n 0, 1) := by decide +kernel
theorem dX8_count_101 : decode cX8_count 101 = .ok (.getfield 10, 3) := by decide +kernel
theorem dX8_count_104 : decode cX8_count 104 = .ok (.getfield 225, 3) := by decide +kernel
theorem dX8_count_107 : decode cX8_count 107 = .ok (.ireturn, 1) := by decide +kernel
theorem dX8_count_108 : decode cX8_count 108 = .ok (.aload_n 0, 1) := by decide +kernel
theorem dX8_count_109 : decode cX8_count 109 = .ok (.getfield 10, 3) := by decide +kernel
theorem dX8_count_112 : decode cX8_count 112 = .ok (.getfield 102, 3) := by decide +kernel
theorem dX8_count_115 : decode cX8_count 115 = .ok (.ireturn, 1) := by decide +kernel
theorem dX8_count_116 : decode cX8_count 116 = .ok (.aload_n 0, 1) := by decide +kernel
theorem dX8_count_117 : decode cX8_count 117 = .ok (.getfield 10, 3) := by decide +kernel
theorem dX8_count_120 : decode cX8_count 120 = .ok (.invokevirtual 123, 3) := by decide +kernel
theorem dX8_count_123 : decode cX8_count 123 = .ok (.ireturn, 1) := by decide +kernel
theorem dX8_count_124 : decode cX8_count 124 = .ok (.aload_n 0, 1) := by decide +kernel
theorem dX8_count_125 : decode cX8_count 125 = .ok (.getfield 10, 3) := by decide +kernel
theorem dX8_count_128 : decode cX8_count 128 = .ok (.invokevirtual 130, 3) := by decide +kernel
theorem dX8_count_131 : decode cX8_count 131 = .ok (.ireturn, 1) := by decide +kernel
theorem dX8_count_132 : decode cX8_count 132 = .ok (.aload_n 0, 1) := by decide +kernel
theorem dX8_count_133 : decode cX8_count 133 = .ok (.getfield 10, 3) := by decide +kernel
theorem dX8_count_136 : decode cX8_count 136 = .ok (.getfield 228, 3) := by decide +kernel
theorem dX8_count_139 : decode cX8_count 139 = .ok (.ireturn, 1) := by decide +kernel
theorem dX8_count_140 : decode cX8_count 140 = .ok (.aload_n 0, 1) := by decide +kernel
theorem dX8_count_141 : decode cX8_count 141 = .ok (.getfield 10, 3) := by decide +kernel
theorem dX8_count_144 : decode cX8_count 144 = .ok (.getfield 119, 3) := by decide +kernel
theorem dX8_count_147 : decode cX8_count 147 = .ok (.ifCond .eq 7, 3) := by decide +kernel
theorem dX8_count_150 : decode cX8_count 150 = .ok (.iconst 1, 1) := by decide +kernel
theorem dX8_count_151 : decode cX8_count 151 = .ok (.goto 4, 3) := by decide +kernel
theorem dX8_count_154 : decode cX8_count 154 = .ok (.iconst 0, 1) := by decide +kernel
theorem dX8_count_155 : decode cX8_count 155 = .ok (.ireturn, 1) := by decide +kernel
theorem dX8_count_156 : decode cX8_count 156 = .ok (.aload_n 0, 1) := by decide +kernel
theorem dX8_count_157 : decode cX8_count 157 = .ok (.getfield 10, 3) := by decide +kernel
theorem dX8_count_160 : decode cX8_count 160 = .ok (.invokevirtual 231, 3) := by decide +kernel
theorem dX8_count_163 : decode cX8_count 163 = .ok (.ireturn, 1) := by decide +kernel
theorem dX8_count_164 : decode cX8_count 164 = .ok (.aload_n 0, 1) := by decide +kernel
theorem dX8_count_165 : decode cX8_count 165 = .ok (.getfield 63, 3) := by decide +kernel
theorem dX8_count_168 : decode cX8_count 168 = .ok (.getfield 200, 3) := by decide +kernel
theorem dX8_count_171 : decode cX8_count 171 = .ok (.ireturn, 1) := by decide +kernel
theorem dX8_count_172 : decode cX8_count 172 = .ok (.aload_n 0, 1) := by decide +kernel
theorem dX8_count_173 : decode cX8_count 173 = .ok (.getfield 25, 3) := by decide +kernel
theorem dX8_count_176 : decode cX8_count 176 = .ok (.getfield 74, 3) := by decide +kernel
theorem dX8_count_179 : decode cX8_count 179 = .ok (.ireturn, 1) := by decide +kernel
theorem dX8_count_180 : decode cX8_count 180 = .ok (.aload_n 0, 1) := by decide +kernel
theorem dX8_count_181 : decode cX8_count 181 = .ok (.getfield 48, 3) := by decide +kernel
theorem dX8_count_184 : decode cX8_count 184 = .ok (.getfield 158, 3) := by decide +kernel
theorem dX8_count_187 : decode cX8_count 187 = .ok (.ireturn, 1) := by decide +kernel
theorem dX8_count_188 : decode cX8_count 188 = .ok (.iconst (-1), 1) := by decide +kernel
theorem dX8_count_189 : decode cX8_count 189 = .ok (.ireturn, 1) := by decide +kernel
theorem dX9_init_0 : decode cX9_init 0 = .ok (.aload_n 0, 1) := by decide +kernel
theorem dX9_init_1 : decode cX9_init 1 = .ok (.invokespecial 1, 3) := by decide +kernel
theorem dX9_init_4 : decode cX9_init 4 = .ok (.aload_n 0, 1) := by decide +kernel
theorem dX9_init_5 : decode cX9_init 5 = .ok (.bipush 99, 2) := by decide +kernel
theorem dX9_init_7 : decode cX9_init 7 = .ok (.newarray .int, 2) := by decide +kernel
theorem dX9_init_9 : decode cX9_init 9 = .ok (.putfield 7, 3) := by decide +kernel
theorem dX9_init_12 : decode cX9_init 12 = .ok (.aload_n 0, 1) := by decide +kernel
theorem dX9_init_13 : decode cX9_init 13 = .ok (.bipush 99, 2) := by decide +kernel
theorem dX9_init_15 : decode cX9_init 15 = .ok (.newarray .int, 2) := by decide +kernel
theorem dX9_init_17 : decode cX9_init 17 = .ok (.putfield 13, 3) := by decide +kernel
theorem dX9_init_20 : decode cX9_init 20 = .ok (.aload_n 0, 1) := by decide +kernel
theorem dX9_init_21 : decode cX9_init 21 = .ok (.sipush 594, 3) := by decide +kernel
theorem dX9_init_24 : decode cX9_init 24 = .ok (.newarray .int, 2) := by decide +kernel
theorem dX9_init_26 : decode cX9_init 26 = .ok (.putfield 16, 3) := by decide +kernel
theorem dX9_init_29 : decode cX9_init 29 = .ok (.aload_n 0, 1) := by decide +kernel
theorem dX9_init_30 : decode cX9_init 30 = .ok (.sipush 198, 3) := by decide +kernel
theorem dX9_init_33 : decode cX9_init 33 = .ok (.newarray .int, 2) := by decide +kernel
theorem dX9_init_35 : decode cX9_init 35 = .ok (.putfield 19, 3) := by decide +kernel
theorem dX9_init_38 : decode cX9_init 38 = .ok (.aload_n 0, 1) := by decide +kernel
theorem dX9_init_39 : decode cX9_init 39 = .ok (.iconst 2, 1) := by decide +kernel
theorem dX9_init_40 : decode cX9_init 40 = .ok (.newarray .boolean, 2) := by decide +kernel
theorem dX9_init_42 : decode cX9_init 42 = .ok (.putfield 22, 3) := by decide +kernel
theorem dX9_init_45 : decode cX9_init 45 = .ok (.aload_n 0, 1) := by decide +kernel
theorem dX9_init_46 : decode cX9_init 46 = .ok (.bipush 120, 2) := by decide +kernel
theorem dX9_init_48 : decode cX9_init 48 = .ok (.newarray .int, 2) := by decide +kernel
theorem dX9_init_50 : decode cX9_init 50 = .ok (.putfield 26, 3) := by decide +kernel
theorem dX9_init_53 : decode cX9_init 53 = .ok (.aload_n 0, 1) := by decide +kernel
theorem dX9_init_54 : decode cX9_init 54 = .ok (.bipush 6, 2) := by decide +kernel
theorem dX9_init_56 : decode cX9_init 56 = .ok (.newarray .int, 2) := by decide +kernel
theorem dX9_init_58 : decode cX9_init 58 = .ok (.putfield 29, 3) := by decide +kernel
theorem dX9_init_61 : decode cX9_init 61 = .ok (.aload_n 0, 1) := by decide +kernel
theorem dX9_init_62 : decode cX9_init 62 = .ok (.bipush 6, 2) := by decide +kernel
theorem dX9_init_64 : decode cX9_init 64 = .ok (.newarray .int, 2) := by decide +kernel
theorem dX9_init_66 : decode cX9_init 66 = .ok (.putfield 32, 3) := by decide +kernel
theorem dX9_init_69 : decode cX9_init 69 = .ok (.aload_n 0, 1) := by decide +kernel
theorem dX9_init_70 : decode cX9_init 70 = .ok (.bipush 8, 2) := by decide +kernel
theorem dX9_init_72 : decode cX9_init 72 = .ok (.newarray .int, 2) := by decide +kernel
theorem dX9_init_74 : decode cX9_init 74 = .ok (.putfield 35, 3) := by decide +kernel
theorem dX9_init_77 : decode cX9_init 77 = .ok (.aload_n 0, 1) := by decide +kernel
theorem dX9_init_78 : decode cX9_init 78 = .ok (.bipush 8, 2) := by decide +kernel
theorem dX9_init_80 : decode cX9_init 80 = .ok (.newarray .int, 2) := by decide +kernel
theorem dX9_init_82 : decode cX9_init 82 = .ok (.putfield 38, 3) := by decide +kernel
theorem dX9_init_85 : decode cX9_init 85 = .ok (.aload_n 0, 1) := by decide +kernel
theorem dX9_init_86 : decode cX9_init 86 = .ok (.iconst 4, 1) := by decide +kernel
theorem dX9_init_87 : decode cX9_init 87 = .ok (.newarray .int, 2) := by decide +kernel
theorem dX9_init_89 : decode cX9_init 89 = .ok (.putfield 41, 3) := by decide +kernel
theorem dX9_init_92 : decode cX9_init 92 = .ok (.aload_n 0, 1) := by decide +kernel
theorem dX9_init_93 : decode cX9_init 93 = .ok (.bipush 6, 2) := by decide +kernel
theorem dX9_init_95 : decode cX9_init 95 = .ok (.newarray .boolean, 2) := by decide +kernel
theorem dX9_init_97 : decode cX9_init 97 = .ok (.putfield 44, 3) := by decide +kernel
theorem dX9_init_100 : decode cX9_init 100 = .ok (.aload_n 0, 1) := by decide +kernel
theorem dX9_init_101 : decode cX9_init 101 = .ok (.bipush 6, 2) := by decide +kernel
theorem dX9_init_103 : decode cX9_init 103 = .ok (.newarray .int, 2) := by decide +kernel
theorem dX9_init_105 : decode cX9_init 105 = .ok (.putfield 47, 3) := by decide +kernel
theorem dX9_init_108 : decode cX9_init 108 = .ok (.aload_n 0, 1) := by decide +kernel
theorem dX9_init_109 : decode cX9_init 109 = .ok (.bipush 99, 2) := by decide +kernel
theorem dX9_init_111 : decode cX9_init 111 = .ok (.newarray .int, 2) := by decide +kernel
theorem dX9_init_113 : decode cX9_init 113 = .ok (.putfield 50, 3) := by decide +kernel
theorem dX9_init_116 : decode cX9_init 116 = .ok (.aload_n 0, 1) := by decide +kernel
theorem dX9_init_117 : decode cX9_init 117 = .ok (.bipush 42, 2) := by decide +kernel
theorem dX9_init_119 : decode cX9_init 119 = .ok (.newarray .int, 2) := by decide +kernel
theorem dX9_init_121 : decode cX9_init 121 = .ok (.putfield 53, 3) := by decide +kernel
theorem dX9_init_124 : decode cX9_init 124 = .ok (.aload_n 0, 1) := by decide +kernel
theorem dX9_init_125 : decode cX9_init 125 = .ok (.invokevirtual 56, 3) := by decide +kernel
theorem dX9_init_128 : decode cX9_init 128 = .ok (.aload_n 0, 1) := by decide +kernel
theorem dX9_init_129 : decode cX9_init 129 = .ok (.getfield 13, 3) := by decide +kernel
theorem dX9_init_132 : decode cX9_init 132 = .ok (.iconst 0, 1) := by decide +kernel
theorem dX9_init_133 : decode cX9_init 133 = .ok (.iconst 1, 1) := by decide +kernel
theorem dX9_init_134 : decode cX9_init 134 = .ok (.iastore, 1) := by decide +kernel
theorem dX9_init_135 : decode cX9_init 135 = .ok (.aload_n 0, 1) := by decide +kernel
theorem dX9_init_136 : decode cX9_init 136 = .ok (.getfield 13, 3) := by decide +kernel
theorem dX9_init_139 : decode cX9_init 139 = .ok (.bipush 9, 2) := by decide +kernel
theorem dX9_init_141 : decode cX9_init 141 = .ok (.iconst 1, 1) := by decide +kernel
theorem dX9_init_142 : decode cX9_init 142 = .ok (.iastore, 1) := by decide +kernel
theorem dX9_init_143 : decode cX9_init 143 = .ok (.aload_n 0, 1) := by decide +kernel
theorem dX9_init_144 : decode cX9_init 144 = .ok (.getfield 13, 3) := by decide +kernel
theorem dX9_init_147 : decode cX9_init 147 = .ok (.iconst 0, 1) := by decide +kernel
theorem dX9_init_148 : decode cX9_init 148 = .ok (.aload_n 0, 1) := by decide +kernel
theorem dX9_init_149 : decode cX9_init 149 = .ok (.getfield 7, 3) := by decide +kernel
theorem dX9_init_152 : decode cX9_init 152 = .ok (.iconst 0, 1) := by decide +kernel
theorem dX9_init_153 : decode cX9_init 153 = .ok (.invokestatic 59, 3) := by decide +kernel
theorem dX9_init_156 : decode cX9_init 156 = .ok (.return_, 1) := by decide +kernel
theorem dX9_in_0 : decode cX9_in 0 = .ok (.iload_n 0, 1) := by decide +kernel
theorem dX9_in_1 : decode cX9_in 1 = .ok (.iload_n 1, 1) := by decide +kernel
theorem dX9_in_2 : decode cX9_in 2 = .ok (.if_icmp .lt 12, 3) := by decide +kernel
theorem dX9_in_5 : decode cX9_in 5 = .ok (.iload_n 0, 1) := by decide +kernel
theorem dX9_in_6 : decode cX9_in 6 = .ok (.iload_n 2, 1) := by decide +kernel
theorem dX9_in_7 : decode cX9_in 7 = .ok (.if_icmp .gt 7, 3) := by decide +kernel
theorem dX9_in_10 : decode cX9_in 10 = .ok (.iconst 1, 1) := by decide +kernel
theorem dX9_in_11 : decode cX9_in 11 = .ok (.goto 4, 3) := by decide +kernel
theorem dX9_in_14 : decode cX9_in 14 = .ok (.iconst 0, 1) := by decide +kernel
theorem dX9_in_15 : decode cX9_in 15 = .ok (.ireturn, 1) := by decide +kernel
theorem dX9_bring_0 : decode cX9_bring 0 = .ok (.iconst 0, 1) := by decide +kernel
theorem dX9_bring_1 : decode cX9_bring 1 = .ok (.istore 4, 2) := by decide +kernel
theorem dX9_bring_3 : decode cX9_bring 3 = .ok (.iload 4, 2) := by decide +kernel
theorem dX9_bring_5 : decode cX9_bring 5 = .ok (.bipush 99, 2) := by decide +kernel
theorem dX9_bring_7 : decode cX9_bring 7 = .ok (.if_icmp .ge 21, 3) := by decide +kernel
theorem dX9_bring_10 : decode cX9_bring 10 = .ok (.aload_n 2, 1) := by decide +kernel
theorem dX9_bring_11 : decode cX9_bring 11 = .ok (.iload_n 3, 1) := by decide +kernel
theorem dX9_bring_12 : decode cX9_bring 12 = .ok (.iload 4, 2) := by decide +kernel
theorem dX9_bring_14 : decode cX9_bring 14 = .ok (.iadd, 1) := by decide +kernel
theorem dX9_bring_15 : decode cX9_bring 15 = .ok (.aload_n 0, 1) := by decide +kernel
theorem dX9_bring_16 : decode cX9_bring 16 = .ok (.iload_n 1, 1) := by decide +kernel
theorem dX9_bring_17 : decode cX9_bring 17 = .ok (.iload 4, 2) := by decide +kernel
theorem dX9_bring_19 : decode cX9_bring 19 = .ok (.iadd, 1) := by decide +kernel
theorem dX9_bring_20 : decode cX9_bring 20 = .ok (.iaload, 1) := by decide +kernel
theorem dX9_bring_21 : decode cX9_bring 21 = .ok (.iastore, 1) := by decide +kernel
theorem dX9_bring_22 : decode cX9_bring 22 = .ok (.iinc 4 1, 3) := by decide +kernel
theorem dX9_bring_25 : decode cX9_bring 25 = .ok (.goto (-22), 3) := by decide +kernel
theorem dX9_bring_28 : decode cX9_bring 28 = .ok (.return_, 1) := by decide +kernel
theorem dX9_beginRead_0 : decode cX9_beginRead 0 = .ok (.iconst 0, 1) := by decide +kernel
theorem dX9_beginRead_1 : decode cX9_beginRead 1 = .ok (.istore_n 1, 1) := by decide +kernel
theorem dX9_beginRead_2 : decode cX9_beginRead 2 = .ok (.iload_n 1, 1) := by decide +kernel
theorem dX9_beginRead_3 : decode cX9_beginRead 3 = .ok (.bipush 99, 2) := by decide +kernel
theorem dX9_beginRead_5 : decode cX9_beginRead 5 = .ok (.if_icmp .ge 16, 3) := by decide +kernel
theorem dX9_beginRead_8 : decode cX9_beginRead 8 = .ok (.aload_n 0, 1) := by decide +kernel
theorem dX9_beginRead_9 : decode cX9_beginRead 9 = .ok (.getfield 13, 3) := by decide +kernel
theorem dX9_beginRead_12 : decode cX9_beginRead 12 = .ok (.iload_n 1, 1) := by decide +kernel
theorem dX9_beginRead_13 : decode cX9_beginRead 13 = .ok (.iconst 0, 1) := by decide +kernel
theorem dX9_beginRead_14 : decode cX9_beginRead 14 = .ok (.iastore, 1) := by decide +kernel
theorem dX9_beginRead_15 : decode cX9_beginRead 15 = .ok (.iinc 1 1, 3) := by decide +kernel
theorem dX9_beginRead_18 : decode cX9_beginRead 18 = .ok (.goto (-16), 3) := by decide +kernel
theorem dX9_beginRead_21 : decode cX9_beginRead 21 = .ok (.aload_n 0, 1) := by decide +kernel
theorem dX9_beginRead_22 : decode cX9_beginRead 22 = .ok (.getfield 13, 3) := by decide +kernel
theorem dX9_beginRead_25 : decode cX9_beginRead 25 = .ok (.iconst 2, 1) := by decide +kernel
theorem dX9_beginRead_26 : decode cX9_beginRead 26 = .ok (.iconst 3, 1) := by decide +kernel
theorem dX9_beginRead_27 : decode cX9_beginRead 27 = .ok (.iastore, 1) := by decide +kernel
theorem dX9_beginRead_28 : decode cX9_beginRead 28 = .ok (.aload_n 0, 1) := by decide +kernel
theorem dX9_beginRead_29 : decode cX9_beginRead 29 = .ok (.getfield 13, 3) := by decide +kernel
theorem dX9_beginRead_32 : decode cX9_beginRead 32 = .ok (.iconst 5, 1) := by decide +kernel
theorem dX9_beginRead_33 : decode cX9_beginRead 33 = .ok (.bipush (-9), 2) := by decide +kernel
theorem dX9_beginRead_35 : decode cX9_beginRead 35 = .ok (.iastore, 1) := by decide +kernel
theorem dX9_beginRead_36 : decode cX9_beginRead 36 = .ok (.aload_n 0, 1) := by decide +kernel
theorem dX9_beginRead_37 : decode cX9_beginRead 37 = .ok (.getfield 13, 3) := by decide +kernel
theorem dX9_beginRead_40 : decode cX9_beginRead 40 = .ok (.bipush 6, 2) := by decide +kernel
theorem dX9_beginRead_42 : decode cX9_beginRead 42 = .ok (.bipush (-9), 2) := by decide +kernel
theorem dX9_beginRead_44 : decode cX9_beginRead 44 = .ok (.iastore, 1) := by decide +kernel
theorem dX9_beginRead_45 : decode cX9_beginRead 45 = .ok (.return_, 1) := by decide +kernel
theorem dX9_isLetter_0 : decode cX9_isLetter 0 = .ok (.iload_n 0, 1) := by decide +kernel
theorem dX9_isLetter_1 : decode cX9_isLetter 1 = .ok (.bipush 100, 2) := by decide +kernel
theorem dX9_isLetter_3 : decode cX9_isLetter 3 = .ok (.if_icmp .eq 51, 3) := by decide +kernel
theorem dX9_isLetter_6 : decode cX9_isLetter 6 = .ok (.iload_n 0, 1) := by decide +kernel
theorem dX9_isLetter_7 : decode cX9_isLetter 7 = .ok (.bipush 122, 2) := by decide +kernel
theorem dX9_isLetter_9 : decode cX9_isLetter 9 = .ok (.if_icmp .eq 45, 3) := by decide +kernel
theorem dX9_isLetter_12 : decode cX9_isLetter 12 = .ok (.iload_n 0, 1) := by decide +kernel
theorem dX9_isLetter_13 : decode cX9_isLetter 13 = .ok (.bipush 109, 2) := by decide +kernel
theorem dX9_isLetter_15 : decode cX9_isLetter 15 = .ok (.if_icmp .eq 39, 3) := by decide +kernel
theorem dX9_isLetter_18 : decode cX9_isLetter 18 = .ok (.iload_n 0, 1) := by decide +kernel
theorem dX9_isLetter_19 : decode cX9_isLetter 19 = .ok (.bipush 114, 2) := by decide +kernel
theorem dX9_isLetter_21 : decode cX9_isLetter 21 = .ok (.if_icmp .eq 33, 3) := by decide +kernel
theorem dX9_isLetter_24 : decode cX9_isLetter 24 = .ok (.iload_n 0, 1) := by decide +kernel
theorem dX9_isLetter_25 : decode cX9_isLetter 25 = .ok (.bipush 119, 2) := by decide +kernel
theorem dX9_isLetter_27 : decode cX9_isLetter 27 = .ok (.if_icmp .eq 27, 3) := by decide +kernel
theorem dX9_isLetter_30 : decode cX9_isLetter 30 = .ok (.iload_n 0, 1) := by decide +kernel
theorem dX9_isLetter_31 : decode cX9_isLetter 31 = .ok (.bipush 120, 2) := by decide +kernel
theorem dX9_isLetter_33 : decode cX9_isLetter 33 = .ok (.if_icmp .eq 21, 3) := by decide +kernel
theorem dX9_isLetter_36 : decode cX9_isLetter 36 = .ok (.iload_n 0, 1) := by decide +kernel
theorem dX9_isLetter_37 : decode cX9_isLetter 37 = .ok (.bipush 112, 2) := by decide +kernel
theorem dX9_isLetter_39 : decode cX9_isLetter 39 = .ok (.if_icmp .eq 15, 3) := by decide +kernel
theorem dX9_isLetter_42 : decode cX9_isLetter 42 = .ok (.iload_n 0, 1) := by decide +kernel
theorem dX9_isLetter_43 : decode cX9_isLetter 43 = .ok (.bipush 115, 2) := by decide +kernel
theorem dX9_isLetter_45 : decode cX9_isLetter 45 = .ok (.if_icmp .eq 9, 3) := by decide +kernel
theorem dX9_isLetter_48 : decode cX9_isLetter 48 = .ok (.iload_n 0, 1) := by decide +kernel
theorem dX9_isLetter_49 : decode cX9_isLetter 49 = .ok (.bipush 98, 2) := by decide +kernel
theorem dX9_isLetter_51 : decode cX9_isLetter 51 = .ok (.if_icmp .ne 7, 3) := by decide +kernel
theorem dX9_isLetter_54 : decode cX9_isLetter 54 = .ok (.iconst 1, 1) := by decide +kernel
theorem dX9_isLetter_55 : decode cX9_isLetter 55 = .ok (.goto 4, 3) := by decide +kernel
theorem dX9_isLetter_58 : decode cX9_isLetter 58 = .ok (.iconst 0, 1) := by decide +kernel
theorem dX9_isLetter_59 : decode cX9_isLetter 59 = .ok (.ireturn, 1) := by decide +kernel
theorem dX9_scan_0 : decode cX9_scan 0 = .ok (.aload_n 0, 1) := by decide +kernel
theorem dX9_scan_1 : decode cX9_scan 1 = .ok (.getfield 63, 3) := by decide +kernel
theorem dX9_scan_4 : decode cX9_scan 4 = .ok (.aload_n 0, 1) := by decide +kernel
theorem dX9_scan_5 : decode cX9_scan 5 = .ok (.getfield 67, 3) := by decide +kernel
theorem dX9_scan_8 : decode cX9_scan 8 = .ok (.if_icmp .ge 30, 3) := by decide +kernel
theorem dX9_scan_11 : decode cX9_scan 11 = .ok (.aload_n 0, 1) := by decide +kernel
theorem dX9_scan_12 : decode cX9_scan 12 = .ok (.getfield 26, 3) := by decide +kernel
theorem dX9_scan_15 : decode cX9_scan 15 = .ok (.aload_n 0, 1) := by decide +kernel
theorem dX9_scan_16 : decode cX9_scan 16 = .ok (.getfield 63, 3) := by decide +kernel
theorem dX9_scan_19 : decode cX9_scan 19 = .ok (.iaload, 1) := by decide +kernel
theorem dX9_scan_20 : decode cX9_scan 20 = .ok (.bipush 32, 2) := by decide +kernel
theorem dX9_scan_22 : decode cX9_scan 22 = .ok (.if_icmp .ne 16, 3) := by decide +kernel
theorem dX9_scan_25 : decode cX9_scan 25 = .ok (.aload_n 0, 1) := by decide +kernel
theorem dX9_scan_26 : decode cX9_scan 26 = .ok (.dup, 1) := by decide +kernel
theorem dX9_scan_27 : decode cX9_scan 27 = .ok (.getfield 63, 3) := by decide +kernel
theorem dX9_scan_30 : decode cX9_scan 30 = .ok (.iconst 1, 1) := by decide +kernel
theorem dX9_scan_31 : decode cX9_scan 31 = .ok (.iadd, 1) := by decide +kernel
theorem dX9_scan_32 : decode cX9_scan 32 = .ok (.putfield 63, 3) := by decide +kernel
theorem dX9_scan_35 : decode cX9_scan 35 = .ok (.goto (-35), 3) := by decide +kernel
theorem dX9_scan_38 : decode cX9_scan 38 = .ok (.aload_n 0, 1) := by decide +kernel
theorem dX9_scan_39 : decode cX9_scan 39 = .ok (.aload_n 0, 1) := by decide +kernel
theorem dX9_scan_40 : decode cX9_scan 40 = .ok (.getfield 63, 3) := by decide +kernel
theorem dX9_scan_43 : decode cX9_scan 43 = .ok (.putfield 70, 3) := by decide +kernel
theorem dX9_scan_46 : decode cX9_scan 46 = .ok (.aload_n 0, 1) := by decide +kernel
theorem dX9_scan_47 : decode cX9_scan 47 = .ok (.getfield 63, 3) := by decide +kernel
theorem dX9_scan_50 : decode cX9_scan 50 = .ok (.aload_n 0, 1) := by decide +kernel
theorem dX9_scan_51 : decode cX9_scan 51 = .ok (.getfield 67, 3) := by decide +kernel
theorem dX9_scan_54 : decode cX9_scan 54 = .ok (.if_icmp .ge 15, 3) := by decide +kernel
theorem dX9_scan_57 : decode cX9_scan 57 = .ok (.aload_n 0, 1) := by decide +kernel
theorem dX9_scan_58 : decode cX9_scan 58 = .ok (.getfield 26, 3) := by decide +kernel
theorem dX9_scan_61 : decode cX9_scan 61 = .ok (.aload_n 0, 1) := by decide +kernel
theorem dX9_scan_62 : decode cX9_scan 62 = .ok (.getfield 63, 3) := by decide +kernel
theorem dX9_scan_65 : decode cX9_scan 65 = .ok (.iaload, 1) := by decide +kernel
theorem dX9_scan_66 : decode cX9_scan 66 = .ok (.goto 4, 3) := by decide +kernel
theorem dX9_scan_69 : decode cX9_scan 69 = .ok (.iconst 0, 1) := by decide +kernel
theorem dX9_scan_70 : decode cX9_scan 70 = .ok (.istore_n 1, 1) := by decide +kernel
theorem dX9_scan_71 : decode cX9_scan 71 = .ok (.aload_n 0, 1) := by decide +kernel
theorem dX9_scan_72 : decode cX9_scan 72 = .ok (.getfield 63, 3) := by decide +kernel
theorem dX9_scan_75 : decode cX9_scan 75 = .ok (.aload_n 0, 1) := by decide +kernel
theorem dX9_scan_76 : decode cX9_scan 76 = .ok (.getfield 67, 3) := by decide +kernel
theorem dX9_scan_79 : decode cX9_scan 79 = .ok (.if_icmp .ne 11, 3) := by decide +kernel
theorem dX9_scan_82 : decode cX9_scan 82 = .ok (.aload_n 0, 1) := by decide +kernel
theorem dX9_scan_83 : decode cX9_scan 83 = .ok (.iconst 2, 1) := by decide +kernel
theorem dX9_scan_84 : decode cX9_scan 84 = .ok (.putfield 73, 3) := by decide +kernel
theorem dX9_scan_87 : decode cX9_scan 87 = .ok (.goto 176, 3) := by decide +kernel
theorem dX9_scan_90 : decode cX9_scan 90 = .ok (.iload_n 1, 1) := by decide +kernel
theorem dX9_scan_91 : decode cX9_scan 91 = .ok (.bipush 48, 2) := by decide +kernel
theorem dX9_scan_93 : decode cX9_scan 93 = .ok (.bipush 57, 2) := by decide +kernel
theorem dX9_scan_95 : decode cX9_scan 95 = .ok (.invokestatic 76, 3) := by decide +kernel
theorem dX9_scan_98 : decode cX9_scan 98 = .ok (.ifCond .eq 133, 3) := by decide +kernel
theorem dX9_scan_101 : decode cX9_scan 101 = .ok (.aload_n 0, 1) := by decide +kernel
theorem dX9_scan_102 : decode cX9_scan 102 = .ok (.iconst 0, 1) := by decide +kernel
theorem dX9_scan_103 : decode cX9_scan 103 = .ok (.putfield 80, 3) := by decide +kernel
theorem dX9_scan_106 : decode cX9_scan 106 = .ok (.aload_n 0, 1) := by decide +kernel
theorem dX9_scan_107 : decode cX9_scan 107 = .ok (.getfield 63, 3) := by decide +kernel
theorem dX9_scan_110 : decode cX9_scan 110 = .ok (.aload_n 0, 1) := by decide +kernel
theorem dX9_scan_111 : decode cX9_scan 111 = .ok (.getfield 67, 3) := by decide +kernel
theorem dX9_scan_114 : decode cX9_scan 114 = .ok (.if_icmp .ge 76, 3) := by decide +kernel
theorem dX9_scan_117 : decode cX9_scan 117 = .ok (.aload_n 0, 1) := by decide +kernel
theorem dX9_scan_118 : decode cX9_scan 118 = .ok (.getfield 26, 3) := by decide +kernel
theorem dX9_scan_121 : decode cX9_scan 121 = .ok (.aload_n 0, 1) := by decide +kernel
theorem dX9_scan_122 : decode cX9_scan 122 = .ok (.getfield 63, 3) := by decide +kernel
theorem dX9_scan_125 : decode cX9_scan 125 = .ok (.iaload, 1) := by decide +kernel
theorem dX9_scan_126 : decode cX9_scan 126 = .ok (.bipush 48, 2) := by decide +kernel
theorem dX9_scan_128 : decode cX9_scan 128 = .ok (.bipush 57, 2) := by decide +kernel
theorem dX9_scan_130 : decode cX9_scan 130 = .ok (.invokestatic 76, 3) := by decide +kernel
theorem dX9_scan_133 : decode cX9_scan 133 = .ok (.ifCond .eq 57, 3) := by decide +kernel
theorem dX9_scan_136 : decode cX9_scan 136 = .ok (.aload_n 0, 1) := by decide +kernel
theorem dX9_scan_137 : decode cX9_scan 137 = .ok (.aload_n 0, 1) := by decide +kernel
theorem dX9_scan_138 : decode cX9_scan 138 = .ok (.getfield 80, 3) := by decide +kernel
theorem dX9_scan_141 : decode cX9_scan 141 = .ok (.sipush 255, 3) := by decide +kernel
theorem dX9_scan_144 : decode cX9_scan 144 = .ok (.if_icmp .le 10, 3) := by decide +kernel
theorem dX9_scan_147 : decode cX9_scan 147 = .ok (.aload_n 0, 1) := by decide +kernel
theorem dX9_scan_148 : decode cX9_scan 148 = .ok (.getfield 80, 3) := by decide +kernel
theorem dX9_scan_151 : decode cX9_scan 151 = .ok (.goto 23, 3) := by decide +kernel
theorem dX9_scan_154 : decode cX9_scan 154 = .ok (.bipush 10, 2) := by decide +kernel
theorem dX9_scan_156 : decode cX9_scan 156 = .ok (.aload_n 0, 1) := by decide +kernel
theorem dX9_scan_157 : decode cX9_scan 157 = .ok (.getfield 80, 3) := by decide +kernel
theorem dX9_scan_160 : decode cX9_scan 160 = .ok (.imul, 1) := by decide +kernel
theorem dX9_scan_161 : decode cX9_scan 161 = .ok (.aload_n 0, 1) := by decide +kernel
theorem dX9_scan_162 : decode cX9_scan 162 = .ok (.getfield 26, 3) := by decide +kernel
theorem dX9_scan_165 : decode cX9_scan 165 = .ok (.aload_n 0, 1) := by decide +kernel
theorem dX9_scan_166 : decode cX9_scan 166 = .ok (.getfield 63, 3) := by decide +kernel
theorem dX9_scan_169 : decode cX9_scan 169 = .ok (.iaload, 1) := by decide +kernel
theorem dX9_scan_170 : decode cX9_scan 170 = .ok (.iadd, 1) := by decide +kernel
theorem dX9_scan_171 : decode cX9_scan 171 = .ok (.bipush 48, 2) := by decide +kernel
theorem dX9_scan_173 : decode cX9_scan 173 = .ok (.isub, 1) := by decide +kernel
theorem dX9_scan_174 : decode cX9_scan 174 = .ok (.putfield 80, 3) := by decide +kernel
theorem dX9_scan_177 : decode cX9_scan 177 = .ok (.aload_n 0, 1) := by decide +kernel
theorem dX9_scan_178 : decode cX9_scan 178 = .ok (.dup, 1) := by decide +kernel
theorem dX9_scan_179 : decode cX9_scan 179 = .ok (.getfield 63, 3) := by decide +kernel
theorem dX9_scan_182 : decode cX9_scan 182 = .ok (.iconst 1, 1) := by decide +kernel
theorem dX9_scan_183 : decode cX9_scan 183 = .ok (.iadd, 1) := by decide +kernel
theorem dX9_scan_184 : decode cX9_scan 184 = .ok (.putfield 63, 3) := by decide +kernel
theorem dX9_scan_187 : decode cX9_scan 187 = .ok (.goto (-81), 3) := by decide +kernel
theorem dX9_scan_190 : decode cX9_scan 190 = .ok (.aload_n 0, 1) := by decide +kernel
theorem dX9_scan_191 : decode cX9_scan 191 = .ok (.aload_n 0, 1) := by decide +kernel
theorem dX9_scan_192 : decode cX9_scan 192 = .ok (.getfield 80, 3) := by decide +kernel
theorem dX9_scan_195 : decode cX9_scan 195 = .ok (.sipush 255, 3) := by decide +kernel
theorem dX9_scan_198 : decode cX9_scan 198 = .ok (.if_icmp .gt 22, 3) := by decide +kernel
theorem dX9_scan_201 : decode cX9_scan 201 = .ok (.iload_n 1, 1) := by decide +kernel
theorem dX9_scan_202 : decode cX9_scan 202 = .ok (.bipush 48, 2) := by decide +kernel
theorem dX9_scan_204 : decode cX9_scan 204 = .ok (.if_icmp .ne 20, 3) := by decide +kernel
theorem dX9_scan_207 : decode cX9_scan 207 = .ok (.aload_n 0, 1) := by decide +kernel
theorem dX9_scan_208 : decode cX9_scan 208 = .ok (.getfield 63, 3) := by decide +kernel
theorem dX9_scan_211 : decode cX9_scan 211 = .ok (.aload_n 0, 1) := by decide +kernel
theorem dX9_scan_212 : decode cX9_scan 212 = .ok (.getfield 70, 3) := by decide +kernel
theorem dX9_scan_215 : decode cX9_scan 215 = .ok (.iconst 1, 1) := by decide +kernel
theorem dX9_scan_216 : decode cX9_scan 216 = .ok (.iadd, 1) := by decide +kernel
theorem dX9_scan_217 : decode cX9_scan 217 = .ok (.if_icmp .le 7, 3) := by decide +kernel
theorem dX9_scan_220 : decode cX9_scan 220 = .ok (.iconst 3, 1) := by decide +kernel
theorem dX9_scan_221 : decode cX9_scan 221 = .ok (.goto 4, 3) := by decide +kernel
theorem dX9_scan_224 : decode cX9_scan 224 = .ok (.iconst 1, 1) := by decide +kernel
theorem dX9_scan_225 : decode cX9_scan 225 = .ok (.putfield 73, 3) := by decide +kernel
theorem dX9_scan_228 : decode cX9_scan 228 = .ok (.goto 35, 3) := by decide +kernel
theorem dX9_scan_231 : decode cX9_scan 231 = .ok (.aload_n 0, 1) := by decide +kernel
theorem dX9_scan_232 : decode cX9_scan 232 = .ok (.iload_n 1, 1) := by decide +kernel
theorem dX9_scan_233 : decode cX9_scan 233 = .ok (.invokestatic 83, 3) := by decide +kernel
theorem dX9_scan_236 : decode cX9_scan 236 = .ok (.ifCond .ne 9, 3) := by decide +kernel
theorem dX9_scan_239 : decode cX9_scan 239 = .ok (.iload_n 1, 1) := by decide +kernel
theorem dX9_scan_240 : decode cX9_scan 240 = .ok (.bipush 59, 2) := by decide +kernel
theorem dX9_scan_242 : decode cX9_scan 242 = .ok (.if_icmp .ne 7, 3) := by decide +kernel
theorem dX9_scan_245 : decode cX9_scan 245 = .ok (.iload_n 1, 1) := by decide +kernel
theorem dX9_scan_246 : decode cX9_scan 246 = .ok (.goto 4, 3) := by decide +kernel
theorem dX9_scan_249 : decode cX9_scan 249 = .ok (.iconst 3, 1) := by decide +kernel
theorem dX9_scan_250 : decode cX9_scan 250 = .ok (.putfield 73, 3) := by decide +kernel
theorem dX9_scan_253 : decode cX9_scan 253 = .ok (.aload_n 0, 1) := by decide +kernel
theorem dX9_scan_254 : decode cX9_scan 254 = .ok (.dup, 1) := by decide +kernel
theorem dX9_scan_255 : decode cX9_scan 255 = .ok (.getfield 63, 3) := by decide +kernel
theorem dX9_scan_258 : decode cX9_scan 258 = .ok (.iconst 1, 1) := by decide +kernel
theorem dX9_scan_259 : decode cX9_scan 259 = .ok (.iadd, 1) := by decide +kernel
theorem dX9_scan_260 : decode cX9_scan 260 = .ok (.putfield 63, 3) := by decide +kernel
theorem dX9_scan_263 : decode cX9_scan 263 = .ok (.return_, 1) := by decide +kernel
theorem dX9_scanNumber_0 : decode cX9_scanNumber 0 = .ok (.aload_n 0, 1) := by decide +kernel
theorem dX9_scanNumber_1 : decode cX9_scanNumber 1 = .ok (.invokevirtual 87, 3) := by decide +kernel
theorem dX9_scanNumber_4 : decode cX9_scanNumber 4 = .ok (.aload_n 0, 1) := by decide +kernel
theorem dX9_scanNumber_5 : decode cX9_scanNumber 5 = .ok (.getfield 73, 3) := by decide +kernel
theorem dX9_scanNumber_8 : decode cX9_scanNumber 8 = .ok (.iconst 1, 1) := by decide +kernel
theorem dX9_scanNumber_9 : decode cX9_scanNumber 9 = .ok (.if_icmp .ne 19, 3) := by decide +kernel
theorem dX9_scanNumber_12 : decode cX9_scanNumber 12 = .ok (.aload_n 0, 1) := by decide +kernel
theorem dX9_scanNumber_13 : decode cX9_scanNumber 13 = .ok (.getfield 80, 3) := by decide +kernel
theorem dX9_scanNumber_16 : decode cX9_scanNumber 16 = .ok (.iload_n 1, 1) := by decide +kernel
theorem dX9_scanNumber_17 : decode cX9_scanNumber 17 = .ok (.iload_n 2, 1) := by decide +kernel
theorem dX9_scanNumber_18 : decode cX9_scanNumber 18 = .ok (.invokestatic 76, 3) := by decide +kernel
theorem dX9_scanNumber_21 : decode cX9_scanNumber 21 = .ok (.ifCond .eq 7, 3) := by decide +kernel
theorem dX9_scanNumber_24 : decode cX9_scanNumber 24 = .ok (.iconst 1, 1) := by decide +kernel
theorem dX9_scanNumber_25 : decode cX9_scanNumber 25 = .ok (.goto 4, 3) := by decide +kernel
theorem dX9_scanNumber_28 : decode cX9_scanNumber 28 = .ok (.iconst 0, 1) := by decide +kernel
theorem dX9_scanNumber_29 : decode cX9_scanNumber 29 = .ok (.ireturn, 1) := by decide +kernel
theorem dX9_scanEnd_0 : decode cX9_scanEnd 0 = .ok (.aload_n 0, 1) := by decide +kernel
theorem dX9_scanEnd_1 : decode cX9_scanEnd 1 = .ok (.invokevirtual 87, 3) := by decide +kernel
theorem dX9_scanEnd_4 : decode cX9_scanEnd 4 = .ok (.aload_n 0, 1) := by decide +kernel
theorem dX9_scanEnd_5 : decode cX9_scanEnd 5 = .ok (.getfield 73, 3) := by decide +kernel
theorem dX9_scanEnd_8 : decode cX9_scanEnd 8 = .ok (.bipush 59, 2) := by decide +kernel
theorem dX9_scanEnd_10 : decode cX9_scanEnd 10 = .ok (.if_icmp .ne 7, 3) := by decide +kernel
theorem dX9_scanEnd_13 : decode cX9_scanEnd 13 = .ok (.iconst 1, 1) := by decide +kernel
theorem dX9_scanEnd_14 : decode cX9_scanEnd 14 = .ok (.goto 4, 3) := by decide +kernel
theorem dX9_scanEnd_17 : decode cX9_scanEnd 17 = .ok (.iconst 0, 1) := by decide +kernel
theorem dX9_scanEnd_18 : decode cX9_scanEnd 18 = .ok (.ireturn, 1) := by decide +kernel
theorem dX9_readDrive_0 : decode cX9_readDrive 0 = .ok (.aload_n 0, 1) := by decide +kernel
theorem dX9_readDrive_1 : decode cX9_readDrive 1 = .ok (.getfield 13, 3) := by decide +kernel
theorem dX9_readDrive_4 : decode cX9_readDrive 4 = .ok (.iconst 0, 1) := by decide +kernel
theorem dX9_readDrive_5 : decode cX9_readDrive 5 = .ok (.iaload, 1) := by decide +kernel
theorem dX9_readDrive_6 : decode cX9_readDrive 6 = .ok (.istore_n 1, 1) := by decide +kernel
theorem dX9_readDrive_7 : decode cX9_readDrive 7 = .ok (.iload_n 1, 1) := by decide +kernel
theorem dX9_readDrive_8 : decode cX9_readDrive 8 = .ok (.bipush 6, 2) := by decide +kernel
theorem dX9_readDrive_10 : decode cX9_readDrive 10 = .ok (.if_icmp .eq 23, 3) := by decide +kernel
theorem dX9_readDrive_13 : decode cX9_readDrive 13 = .ok (.aload_n 0, 1) := by decide +kernel
theorem dX9_readDrive_14 : decode cX9_readDrive 14 = .ok (.getfield 13, 3) := by decide +kernel
theorem dX9_readDrive_17 : decode cX9_readDrive 17 = .ok (.iconst 1, 1) := by decide +kernel
theorem dX9_readDrive_18 : decode cX9_readDrive 18 = .ok (.iaload, 1) := by decide +kernel
theorem dX9_readDrive_19 : decode cX9_readDrive 19 = .ok (.iconst 1, 1) := by decide +kernel
theorem dX9_readDrive_20 : decode cX9_readDrive 20 = .ok (.if_icmp .eq 13, 3) := by decide +kernel
theorem dX9_readDrive_23 : decode cX9_readDrive 23 = .ok (.aload_n 0, 1) := by decide +kernel
theorem dX9_readDrive_24 : decode cX9_readDrive 24 = .ok (.iconst 1, 1) := by decide +kernel
theorem dX9_readDrive_25 : decode cX9_readDrive 25 = .ok (.bipush 9, 2) := by decide +kernel
theorem dX9_readDrive_27 : decode cX9_readDrive 27 = .ok (.invokevirtual 90, 3) := by decide +kernel
theorem dX9_readDrive_30 : decode cX9_readDrive 30 = .ok (.ifCond .ne 5, 3) := by decide +kernel
theorem dX9_readDrive_33 : decode cX9_readDrive 33 = .ok (.iconst 0, 1) := by decide +kernel
theorem dX9_readDrive_34 : decode cX9_readDrive 34 = .ok (.ireturn, 1) := by decide +kernel
theorem dX9_readDrive_35 : decode cX9_readDrive 35 = .ok (.aload_n 0, 1) := by decide +kernel
theorem dX9_readDrive_36 : decode cX9_readDrive 36 = .ok (.getfield 13, 3) := by decide +kernel
theorem dX9_readDrive_39 : decode cX9_readDrive 39 = .ok (.bipush 9, 2) := by decide +kernel
theorem dX9_readDrive_41 : decode cX9_readDrive 41 = .ok (.iload_n 1, 1) := by decide +kernel
theorem dX9_readDrive_42 : decode cX9_readDrive 42 = .ok (.iadd, 1) := by decide +kernel
theorem dX9_readDrive_43 : decode cX9_readDrive 43 = .ok (.aload_n 0, 1) := by decide +kernel
theorem dX9_readDrive_44 : decode cX9_readDrive 44 = .ok (.getfield 80, 3) := by decide +kernel
theorem dX9_readDrive_47 : decode cX9_readDrive 47 = .ok (.iastore, 1) := by decide +kernel
theorem dX9_readDrive_48 : decode cX9_readDrive 48 = .ok (.aload_n 0, 1) := by decide +kernel
theorem dX9_readDrive_49 : decode cX9_readDrive 49 = .ok (.iconst 0, 1) := by decide +kernel
theorem dX9_readDrive_50 : decode cX9_readDrive 50 = .ok (.bipush 15, 2) := by decide +kernel
theorem dX9_readDrive_52 : decode cX9_readDrive 52 = .ok (.invokevirtual 90, 3) := by decide +kernel
theorem dX9_readDrive_55 : decode cX9_readDrive 55 = .ok (.ifCond .ne 5, 3) := by decide +kernel
theorem dX9_readDrive_58 : decode cX9_readDrive 58 = .ok (.iconst 0, 1) := by decide +kernel
theorem dX9_readDrive_59 : decode cX9_readDrive 59 = .ok (.ireturn, 1) := by decide +kernel
theorem dX9_readDrive_60 : decode cX9_readDrive 60 = .ok (.aload_n 0, 1) := by decide +kernel
theorem dX9_readDrive_61 : decode cX9_readDrive 61 = .ok (.getfield 13, 3) := by decide +kernel
theorem dX9_readDrive_64 : decode cX9_readDrive 64 = .ok (.bipush 17, 2) := by decide +kernel
theorem dX9_readDrive_66 : decode cX9_readDrive 66 = .ok (.bipush 9, 2) := by decide +kernel
theorem dX9_readDrive_68 : decode cX9_readDrive 68 = .ok (.iload_n 1, 1) := by decide +kernel
theorem dX9_readDrive_69 : decode cX9_readDrive 69 = .ok (.imul, 1) := by decide +kernel
theorem dX9_readDrive_70 : decode cX9_readDrive 70 = .ok (.iadd, 1) := by decide +kernel
theorem dX9_readDrive_71 : decode cX9_readDrive 71 = .ok (.aload_n 0, 1) := by decide +kernel
theorem dX9_readDrive_72 : decode cX9_readDrive 72 = .ok (.getfield 80, 3) := by decide +kernel
theorem dX9_readDrive_75 : decode cX9_readDrive 75 = .ok (.iastore, 1) := by decide +kernel
theorem dX9_readDrive_76 : decode cX9_readDrive 76 = .ok (.aload_n 0, 1) := by decide +kernel
theorem dX9_readDrive_77 : decode cX9_readDrive 77 = .ok (.getfield 13, 3) := by decide +kernel
theorem dX9_readDrive_80 : decode cX9_readDrive 80 = .ok (.iconst 0, 1) := by decide +kernel
theorem dX9_readDrive_81 : decode cX9_readDrive 81 = .ok (.dup2, 1) := by decide +kernel
theorem dX9_readDrive_82 : decode cX9_readDrive 82 = .ok (.iaload, 1) := by decide +kernel
theorem dX9_readDrive_83 : decode cX9_readDrive 83 = .ok (.iconst 1, 1) := by decide +kernel
theorem dX9_readDrive_84 : decode cX9_readDrive 84 = .ok (.iadd, 1) := by decide +kernel
theorem dX9_readDrive_85 : decode cX9_readDrive 85 = .ok (.iastore, 1) := by decide +kernel
theorem dX9_readDrive_86 : decode cX9_readDrive 86 = .ok (.aload_n 0, 1) := by decide +kernel
theorem dX9_readDrive_87 : decode cX9_readDrive 87 = .ok (.invokevirtual 94, 3) := by decide +kernel
theorem dX9_readDrive_90 : decode cX9_readDrive 90 = .ok (.ireturn, 1) := by decide +kernel
theorem dX9_readLast_0 : decode cX9_readLast 0 = .ok (.aload_n 0, 1) := by decide +kernel
theorem dX9_readLast_1 : decode cX9_readLast 1 = .ok (.getfield 13, 3) := by decide +kernel
theorem dX9_readLast_4 : decode cX9_readLast 4 = .ok (.iconst 0, 1) := by decide +kernel
theorem dX9_readLast_5 : decode cX9_readLast 5 = .ok (.iaload, 1) := by decide +kernel
theorem dX9_readLast_6 : decode cX9_readLast 6 = .ok (.ifCond .eq 23, 3) := by decide +kernel
theorem dX9_readLast_9 : decode cX9_readLast 9 = .ok (.aload_n 0, 1) := by decide +kernel
theorem dX9_readLast_10 : decode cX9_readLast 10 = .ok (.getfield 13, 3) := by decide +kernel
theorem dX9_readLast_13 : decode cX9_readLast 13 = .ok (.iconst 1, 1) := by decide +kernel
theorem dX9_readLast_14 : decode cX9_readLast 14 = .ok (.iaload, 1) := by decide +kernel
theorem dX9_readLast_15 : decode cX9_readLast 15 = .ok (.iconst 1, 1) := by decide +kernel
theorem dX9_readLast_16 : decode cX9_readLast 16 = .ok (.if_icmp .eq 13, 3) := by decide +kernel
theorem dX9_readLast_19 : decode cX9_readLast 19 = .ok (.aload_n 0, 1) := by decide +kernel
theorem dX9_readLast_20 : decode cX9_readLast 20 = .ok (.iconst 1, 1) := by decide +kernel
theorem dX9_readLast_21 : decode cX9_readLast 21 = .ok (.bipush 9, 2) := by decide +kernel
theorem dX9_readLast_23 : decode cX9_readLast 23 = .ok (.invokevirtual 90, 3) := by decide +kernel
theorem dX9_readLast_26 : decode cX9_readLast 26 = .ok (.ifCond .ne 5, 3) := by decide +kernel
theorem dX9_readLast_29 : decode cX9_readLast 29 = .ok (.iconst 0, 1) := by decide +kernel
theorem dX9_readLast_30 : decode cX9_readLast 30 = .ok (.ireturn, 1) := by decide +kernel
theorem dX9_readLast_31 : decode cX9_readLast 31 = .ok (.aload_n 0, 1) := by decide +kernel
theorem dX9_readLast_32 : decode cX9_readLast 32 = .ok (.getfield 13, 3) := by decide +kernel
theorem dX9_readLast_35 : decode cX9_readLast 35 = .ok (.bipush 9, 2) := by decide +kernel
theorem dX9_readLast_37 : decode cX9_readLast 37 = .ok (.aload_n 0, 1) := by decide +kernel
theorem dX9_readLast_38 : decode cX9_readLast 38 = .ok (.getfield 13, 3) := by decide +kernel
theorem dX9_readLast_41 : decode cX9_readLast 41 = .ok (.iconst 0, 1) := by decide +kernel
theorem dX9_readLast_42 : decode cX9_readLast 42 = .ok (.iaload, 1) := by decide +kernel
theorem dX9_readLast_43 : decode cX9_readLast 43 = .ok (.iadd, 1) := by decide +kernel
theorem dX9_readLast_44 : decode cX9_readLast 44 = .ok (.aload_n 0, 1) := by decide +kernel
theorem dX9_readLast_45 : decode cX9_readLast 45 = .ok (.getfield 80, 3) := by decide +kernel
theorem dX9_readLast_48 : decode cX9_readLast 48 = .ok (.iastore, 1) := by decide +kernel
theorem dX9_readLast_49 : decode cX9_readLast 49 = .ok (.aload_n 0, 1) := by decide +kernel
theorem dX9_readLast_50 : decode cX9_readLast 50 = .ok (.getfield 13, 3) := by decide +kernel
theorem dX9_readLast_53 : decode cX9_readLast 53 = .ok (.iconst 1, 1) := by decide +kernel
theorem dX9_readLast_54 : decode cX9_readLast 54 = .ok (.iconst 1, 1) := by decide +kernel
theorem dX9_readLast_55 : decode cX9_readLast 55 = .ok (.iastore, 1) := by decide +kernel
theorem dX9_readLast_56 : decode cX9_readLast 56 = .ok (.aload_n 0, 1) := by decide +kernel
theorem dX9_readLast_57 : decode cX9_readLast 57 = .ok (.invokevirtual 94, 3) := by decide +kernel
theorem dX9_readLast_60 : decode cX9_readLast 60 = .ok (.ireturn, 1) := by decide +kernel
theorem dX9_readLimit_0 : decode cX9_readLimit 0 = .ok (.aload_n 0, 1) := by decide +kernel
theorem dX9_readLimit_1 : decode cX9_readLimit 1 = .ok (.getfield 98, 3) := by decide +kernel
theorem dX9_readLimit_4 : decode cX9_readLimit 4 = .ok (.ifCond .ne 13, 3) := by decide +kernel
theorem dX9_readLimit_7 : decode cX9_readLimit 7 = .ok (.aload_n 0, 1) := by decide +kernel
theorem dX9_readLimit_8 : decode cX9_readLimit 8 = .ok (.iconst 1, 1) := by decide +kernel
theorem dX9_readLimit_9 : decode cX9_readLimit 9 = .ok (.bipush 9, 2) := by decide +kernel
theorem dX9_readLimit_11 : decode cX9_readLimit 11 = .ok (.invokevirtual 90, 3) := by decide +kernel
theorem dX9_readLimit_14 : decode cX9_readLimit 14 = .ok (.ifCond .ne 5, 3) := by decide +kernel
theorem dX9_readLimit_17 : decode cX9_readLimit 17 = .ok (.iconst 0, 1) := by decide +kernel
theorem dX9_readLimit_18 : decode cX9_readLimit 18 = .ok (.ireturn, 1) := by decide +kernel
theorem dX9_readLimit_19 : decode cX9_readLimit 19 = .ok (.aload_n 0, 1) := by decide +kernel
theorem dX9_readLimit_20 : decode cX9_readLimit 20 = .ok (.getfield 13, 3) := by decide +kernel
theorem dX9_readLimit_23 : decode cX9_readLimit 23 = .ok (.iconst 2, 1) := by decide +kernel
theorem dX9_readLimit_24 : decode cX9_readLimit 24 = .ok (.aload_n 0, 1) := by decide +kernel
theorem dX9_readLimit_25 : decode cX9_readLimit 25 = .ok (.getfield 80, 3) := by decide +kernel
theorem dX9_readLimit_28 : decode cX9_readLimit 28 = .ok (.iastore, 1) := by decide +kernel
theorem dX9_readLimit_29 : decode cX9_readLimit 29 = .ok (.aload_n 0, 1) := by decide +kernel
theorem dX9_readLimit_30 : decode cX9_readLimit 30 = .ok (.iconst 1, 1) := by decide +kernel
theorem dX9_readLimit_31 : decode cX9_readLimit 31 = .ok (.putfield 98, 3) := by decide +kernel
theorem dX9_readLimit_34 : decode cX9_readLimit 34 = .ok (.aload_n 0, 1) := by decide +kernel
theorem dX9_readLimit_35 : decode cX9_readLimit 35 = .ok (.invokevirtual 94, 3) := by decide +kernel
theorem dX9_readLimit_38 : decode cX9_readLimit 38 = .ok (.ireturn, 1) := by decide +kernel
theorem dX9_readWire_0 : decode cX9_readWire 0 = .ok (.aload_n 0, 1) := by decide +kernel
theorem dX9_readWire_1 : decode cX9_readWire 1 = .ok (.invokevirtual 56, 3) := by decide +kernel
theorem dX9_readWire_4 : decode cX9_readWire 4 = .ok (.aload_n 0, 1) := by decide +kernel
theorem dX9_readWire_5 : decode cX9_readWire 5 = .ok (.iconst 0, 1) := by decide +kernel
theorem dX9_readWire_6 : decode cX9_readWire 6 = .ok (.putfield 98, 3) := by decide +kernel
theorem dX9_readWire_9 : decode cX9_readWire 9 = .ok (.aload_n 0, 1) := by decide +kernel
theorem dX9_readWire_10 : decode cX9_readWire 10 = .ok (.iconst 0, 1) := by decide +kernel
theorem dX9_readWire_11 : decode cX9_readWire 11 = .ok (.putfield 63, 3) := by decide +kernel
theorem dX9_readWire_14 : decode cX9_readWire 14 = .ok (.aload_n 0, 1) := by decide +kernel
theorem dX9_readWire_15 : decode cX9_readWire 15 = .ok (.invokevirtual 87, 3) := by decide +kernel
theorem dX9_readWire_18 : decode cX9_readWire 18 = .ok (.aload_n 0, 1) := by decide +kernel
theorem dX9_readWire_19 : decode cX9_readWire 19 = .ok (.getfield 73, 3) := by decide +kernel
theorem dX9_readWire_22 : decode cX9_readWire 22 = .ok (.iconst 2, 1) := by decide +kernel
theorem dX9_readWire_23 : decode cX9_readWire 23 = .ok (.if_icmp .eq 73, 3) := by decide +kernel
theorem dX9_readWire_26 : decode cX9_readWire 26 = .ok (.aload_n 0, 1) := by decide +kernel
theorem dX9_readWire_27 : decode cX9_readWire 27 = .ok (.getfield 73, 3) := by decide +kernel
theorem dX9_readWire_30 : decode cX9_readWire 30 = .ok (.bipush 100, 2) := by decide +kernel
theorem dX9_readWire_32 : decode cX9_readWire 32 = .ok (.if_icmp .ne 10, 3) := by decide +kernel
theorem dX9_readWire_35 : decode cX9_readWire 35 = .ok (.aload_n 0, 1) := by decide +kernel
theorem dX9_readWire_36 : decode cX9_readWire 36 = .ok (.invokevirtual 102, 3) := by decide +kernel
theorem dX9_readWire_39 : decode cX9_readWire 39 = .ok (.goto 40, 3) := by decide +kernel
theorem dX9_readWire_42 : decode cX9_readWire 42 = .ok (.aload_n 0, 1) := by decide +kernel
theorem dX9_readWire_43 : decode cX9_readWire 43 = .ok (.getfield 73, 3) := by decide +kernel
theorem dX9_readWire_46 : decode cX9_readWire 46 = .ok (.bipush 122, 2) := by decide +kernel
theorem dX9_readWire_48 : decode cX9_readWire 48 = .ok (.if_icmp .ne 10, 3) := by decide +kernel
theorem dX9_readWire_51 : decode cX9_readWire 51 = .ok (.aload_n 0, 1) := by decide +kernel
theorem dX9_readWire_52 : decode cX9_readWire 52 = .ok (.invokevirtual 105, 3) := by decide +kernel
theorem dX9_readWire_55 : decode cX9_readWire 55 = .ok (.goto 24, 3) := by decide +kernel
theorem dX9_readWire_58 : decode cX9_readWire 58 = .ok (.aload_n 0, 1) := by decide +kernel
theorem dX9_readWire_59 : decode cX9_readWire 59 = .ok (.getfield 73, 3) := by decide +kernel
theorem dX9_readWire_62 : decode cX9_readWire 62 = .ok (.bipush 109, 2) := by decide +kernel
theorem dX9_readWire_64 : decode cX9_readWire 64 = .ok (.if_icmp .ne 14, 3) := by decide +kernel
theorem dX9_readWire_67 : decode cX9_readWire 67 = .ok (.aload_n 0, 1) := by decide +kernel
theorem dX9_readWire_68 : decode cX9_readWire 68 = .ok (.invokevirtual 108, 3) := by decide +kernel
theorem dX9_readWire_71 : decode cX9_readWire 71 = .ok (.ifCond .eq 7, 3) := by decide +kernel
theorem dX9_readWire_74 : decode cX9_readWire 74 = .ok (.iconst 1, 1) := by decide +kernel
theorem dX9_readWire_75 : decode cX9_readWire 75 = .ok (.goto 4, 3) := by decide +kernel
theorem dX9_readWire_78 : decode cX9_readWire 78 = .ok (.iconst 0, 1) := by decide +kernel
theorem dX9_readWire_79 : decode cX9_readWire 79 = .ok (.istore_n 1, 1) := by decide +kernel
theorem dX9_readWire_80 : decode cX9_readWire 80 = .ok (.iload_n 1, 1) := by decide +kernel
theorem dX9_readWire_81 : decode cX9_readWire 81 = .ok (.ifCond .ne 8, 3) := by decide +kernel
theorem dX9_readWire_84 : decode cX9_readWire 84 = .ok (.aload_n 0, 1) := by decide +kernel
theorem dX9_readWire_85 : decode cX9_readWire 85 = .ok (.getfield 70, 3) := by decide +kernel
theorem dX9_readWire_88 : decode cX9_readWire 88 = .ok (.ireturn, 1) := by decide +kernel
theorem dX9_readWire_89 : decode cX9_readWire 89 = .ok (.aload_n 0, 1) := by decide +kernel
theorem dX9_readWire_90 : decode cX9_readWire 90 = .ok (.invokevirtual 87, 3) := by decide +kernel
theorem dX9_readWire_93 : decode cX9_readWire 93 = .ok (.goto (-75), 3) := by decide +kernel
theorem dX9_readWire_96 : decode cX9_readWire 96 = .ok (.aload_n 0, 1) := by decide +kernel
theorem dX9_readWire_97 : decode cX9_readWire 97 = .ok (.getfield 13, 3) := by decide +kernel
theorem dX9_readWire_100 : decode cX9_readWire 100 = .ok (.iconst 0, 1) := by decide +kernel
theorem dX9_readWire_101 : decode cX9_readWire 101 = .ok (.iaload, 1) := by decide +kernel
theorem dX9_readWire_102 : decode cX9_readWire 102 = .ok (.ifCond .ne 10, 3) := by decide +kernel
theorem dX9_readWire_105 : decode cX9_readWire 105 = .ok (.aload_n 0, 1) := by decide +kernel
theorem dX9_readWire_106 : decode cX9_readWire 106 = .ok (.getfield 67, 3) := by decide +kernel
theorem dX9_readWire_109 : decode cX9_readWire 109 = .ok (.goto 5, 3) := by decide +kernel
theorem dX9_readWire_112 : decode cX9_readWire 112 = .ok (.bipush (-9), 2) := by decide +kernel
theorem dX9_readWire_114 : decode cX9_readWire 114 = .ok (.ireturn, 1) := by decide +kernel
theorem dX9_readOrder_0 : decode cX9_readOrder 0 = .ok (.aload_n 0, 1) := by decide +kernel
theorem dX9_readOrder_1 : decode cX9_readOrder 1 = .ok (.getfield 13, 3) := by decide +kernel
theorem dX9_readOrder_4 : decode cX9_readOrder 4 = .ok (.iconst 3, 1) := by decide +kernel
theorem dX9_readOrder_5 : decode cX9_readOrder 5 = .ok (.iaload, 1) := by decide +kernel
theorem dX9_readOrder_6 : decode cX9_readOrder 6 = .ok (.iconst 4, 1) := by decide +kernel
theorem dX9_readOrder_7 : decode cX9_readOrder 7 = .ok (.if_icmp .ne 5, 3) := by decide +kernel
theorem dX9_readOrder_10 : decode cX9_readOrder 10 = .ok (.iconst 0, 1) := by decide +kernel
theorem dX9_readOrder_11 : decode cX9_readOrder 11 = .ok (.ireturn, 1) := by decide +kernel
theorem dX9_readOrder_12 : decode cX9_readOrder 12 = .ok (.bipush 71, 2) := by decide +kernel
theorem dX9_readOrder_14 : decode cX9_readOrder 14 = .ok (.iconst 5, 1) := by decide +kernel
theorem dX9_readOrder_15 : decode cX9_readOrder 15 = .ok (.aload_n 0, 1) := by decide +kernel
theorem dX9_readOrder_16 : decode cX9_readOrder 16 = .ok (.getfield 13, 3) := by decide +kernel
theorem dX9_readOrder_19 : decode cX9_readOrder 19 = .ok (.iconst 3, 1) := by decide +kernel
theorem dX9_readOrder_20 : decode cX9_readOrder 20 = .ok (.iaload, 1) := by decide +kernel
theorem dX9_readOrder_21 : decode cX9_readOrder 21 = .ok (.imul, 1) := by decide +kernel
theorem dX9_readOrder_22 : decode cX9_readOrder 22 = .ok (.iadd, 1) := by decide +kernel
theorem dX9_readOrder_23 : decode cX9_readOrder 23 = .ok (.istore_n 1, 1) := by decide +kernel
theorem dX9_readOrder_24 : decode cX9_readOrder 24 = .ok (.aload_n 0, 1) := by decide +kernel
theorem dX9_readOrder_25 : decode cX9_readOrder 25 = .ok (.getfield 13, 3) := by decide +kernel
theorem dX9_readOrder_28 : decode cX9_readOrder 28 = .ok (.iload_n 1, 1) := by decide +kernel
theorem dX9_readOrder_29 : decode cX9_readOrder 29 = .ok (.aload_n 0, 1) := by decide +kernel
theorem dX9_readOrder_30 : decode cX9_readOrder 30 = .ok (.getfield 73, 3) := by decide +kernel
theorem dX9_readOrder_33 : decode cX9_readOrder 33 = .ok (.iastore, 1) := by decide +kernel
theorem dX9_readOrder_34 : decode cX9_readOrder 34 = .ok (.aload_n 0, 1) := by decide +kernel
theorem dX9_readOrder_35 : decode cX9_readOrder 35 = .ok (.invokevirtual 87, 3) := by decide +kernel
theorem dX9_readOrder_38 : decode cX9_readOrder 38 = .ok (.aload_n 0, 1) := by decide +kernel
theorem dX9_readOrder_39 : decode cX9_readOrder 39 = .ok (.getfield 13, 3) := by decide +kernel
theorem dX9_readOrder_42 : decode cX9_readOrder 42 = .ok (.iload_n 1, 1) := by decide +kernel
theorem dX9_readOrder_43 : decode cX9_readOrder 43 = .ok (.iconst 1, 1) := by decide +kernel
theorem dX9_readOrder_44 : decode cX9_readOrder 44 = .ok (.iadd, 1) := by decide +kernel
theorem dX9_readOrder_45 : decode cX9_readOrder 45 = .ok (.aload_n 0, 1) := by decide +kernel
theorem dX9_readOrder_46 : decode cX9_readOrder 46 = .ok (.getfield 73, 3) := by decide +kernel
theorem dX9_readOrder_49 : decode cX9_readOrder 49 = .ok (.iastore, 1) := by decide +kernel
theorem dX9_readOrder_50 : decode cX9_readOrder 50 = .ok (.aload_n 0, 1) := by decide +kernel
theorem dX9_readOrder_51 : decode cX9_readOrder 51 = .ok (.getfield 13, 3) := by decide +kernel
theorem dX9_readOrder_54 : decode cX9_readOrder 54 = .ok (.iload_n 1, 1) := by decide +kernel
theorem dX9_readOrder_55 : decode cX9_readOrder 55 = .ok (.iconst 2, 1) := by decide +kernel
theorem dX9_readOrder_56 : decode cX9_readOrder 56 = .ok (.iadd, 1) := by decide +kernel
theorem dX9_readOrder_57 : decode cX9_readOrder 57 = .ok (.bipush (-9), 2) := by decide +kernel
theorem dX9_readOrder_59 : decode cX9_readOrder 59 = .ok (.iastore, 1) := by decide +kernel
theorem dX9_readOrder_60 : decode cX9_readOrder 60 = .ok (.aload_n 0, 1) := by decide +kernel
theorem dX9_readOrder_61 : decode cX9_readOrder 61 = .ok (.getfield 73, 3) := by decide +kernel
theorem dX9_readOrder_64 : decode cX9_readOrder 64 = .ok (.bipush 112, 2) := by decide +kernel
theorem dX9_readOrder_66 : decode cX9_readOrder 66 = .ok (.if_icmp .eq 12, 3) := by decide +kernel
theorem dX9_readOrder_69 : decode cX9_readOrder 69 = .ok (.aload_n 0, 1) := by decide +kernel
theorem dX9_readOrder_70 : decode cX9_readOrder 70 = .ok (.getfield 73, 3) := by decide +kernel
theorem dX9_readOrder_73 : decode cX9_readOrder 73 = .ok (.bipush 115, 2) := by decide +kernel
theorem dX9_readOrder_75 : decode cX9_readOrder 75 = .ok (.if_icmp .ne 30, 3) := by decide +kernel
theorem dX9_readOrder_78 : decode cX9_readOrder 78 = .ok (.aload_n 0, 1) := by decide +kernel
theorem dX9_readOrder_79 : decode cX9_readOrder 79 = .ok (.iconst 0, 1) := by decide +kernel
theorem dX9_readOrder_80 : decode cX9_readOrder 80 = .ok (.bipush 15, 2) := by decide +kernel
theorem dX9_readOrder_82 : decode cX9_readOrder 82 = .ok (.invokevirtual 90, 3) := by decide +kernel
theorem dX9_readOrder_85 : decode cX9_readOrder 85 = .ok (.ifCond .ne 5, 3) := by decide +kernel
theorem dX9_readOrder_88 : decode cX9_readOrder 88 = .ok (.iconst 0, 1) := by decide +kernel
theorem dX9_readOrder_89 : decode cX9_readOrder 89 = .ok (.ireturn, 1) := by decide +kernel
theorem dX9_readOrder_90 : decode cX9_readOrder 90 = .ok (.aload_n 0, 1) := by decide +kernel
theorem dX9_readOrder_91 : decode cX9_readOrder 91 = .ok (.getfield 13, 3) := by decide +kernel
theorem dX9_readOrder_94 : decode cX9_readOrder 94 = .ok (.iload_n 1, 1) := by decide +kernel
theorem dX9_readOrder_95 : decode cX9_readOrder 95 = .ok (.iconst 2, 1) := by decide +kernel
theorem dX9_readOrder_96 : decode cX9_readOrder 96 = .ok (.iadd, 1) := by decide +kernel
theorem dX9_readOrder_97 : decode cX9_readOrder 97 = .ok (.aload_n 0, 1) := by decide +kernel
theorem dX9_readOrder_98 : decode cX9_readOrder 98 = .ok (.getfield 80, 3) := by decide +kernel
theorem dX9_readOrder_101 : decode cX9_readOrder 101 = .ok (.iastore, 1) := by decide +kernel
theorem dX9_readOrder_102 : decode cX9_readOrder 102 = .ok (.goto 14, 3) := by decide +kernel
theorem dX9_readOrder_105 : decode cX9_readOrder 105 = .ok (.aload_n 0, 1) := by decide +kernel
theorem dX9_readOrder_106 : decode cX9_readOrder 106 = .ok (.getfield 73, 3) := by decide +kernel
theorem dX9_readOrder_109 : decode cX9_readOrder 109 = .ok (.bipush 98, 2) := by decide +kernel
theorem dX9_readOrder_111 : decode cX9_readOrder 111 = .ok (.if_icmp .eq 5, 3) := by decide +kernel
theorem dX9_readOrder_114 : decode cX9_readOrder 114 = .ok (.iconst 0, 1) := by decide +kernel
theorem dX9_readOrder_115 : decode cX9_readOrder 115 = .ok (.ireturn, 1) := by decide +kernel
theorem dX9_readOrder_116 : decode cX9_readOrder 116 = .ok (.aload_n 0, 1) := by decide +kernel
theorem dX9_readOrder_117 : decode cX9_readOrder 117 = .ok (.iconst 0, 1) := by decide +kernel
theorem dX9_readOrder_118 : decode cX9_readOrder 118 = .ok (.iconst 3, 1) := by decide +kernel
theorem dX9_readOrder_119 : decode cX9_readOrder 119 = .ok (.invokevirtual 90, 3) := by decide +kernel
theorem dX9_readOrder_122 : decode cX9_readOrder 122 = .ok (.ifCond .ne 5, 3) := by decide +kernel
theorem dX9_readOrder_125 : decode cX9_readOrder 125 = .ok (.iconst 0, 1) := by decide +kernel
theorem dX9_readOrder_126 : decode cX9_readOrder 126 = .ok (.ireturn, 1) := by decide +kernel
theorem dX9_readOrder_127 : decode cX9_readOrder 127 = .ok (.aload_n 0, 1) := by decide +kernel
theorem dX9_readOrder_128 : decode cX9_readOrder 128 = .ok (.getfield 13, 3) := by decide +kernel
theorem dX9_readOrder_131 : decode cX9_readOrder 131 = .ok (.iload_n 1, 1) := by decide +kernel
theorem dX9_readOrder_132 : decode cX9_readOrder 132 = .ok (.iconst 3, 1) := by decide +kernel
theorem dX9_readOrder_133 : decode cX9_readOrder 133 = .ok (.iadd, 1) := by decide +kernel
theorem dX9_readOrder_134 : decode cX9_readOrder 134 = .ok (.aload_n 0, 1) := by decide +kernel
theorem dX9_readOrder_135 : decode cX9_readOrder 135 = .ok (.getfield 80, 3) := by decide +kernel
theorem dX9_readOrder_138 : decode cX9_readOrder 138 = .ok (.iastore, 1) := by decide +kernel
theorem dX9_readOrder_139 : decode cX9_readOrder 139 = .ok (.aload_n 0, 1) := by decide +kernel
theorem dX9_readOrder_140 : decode cX9_readOrder 140 = .ok (.iconst 0, 1) := by decide +kernel
theorem dX9_readOrder_141 : decode cX9_readOrder 141 = .ok (.sipush 255, 3) := by decide +kernel
theorem dX9_readOrder_144 : decode cX9_readOrder 144 = .ok (.invokevirtual 90, 3) := by decide +kernel
theorem dX9_readOrder_147 : decode cX9_readOrder 147 = .ok (.ifCond .ne 5, 3) := by decide +kernel
theorem dX9_readOrder_150 : decode cX9_readOrder 150 = .ok (.iconst 0, 1) := by decide +kernel
theorem dX9_readOrder_151 : decode cX9_readOrder 151 = .ok (.ireturn, 1) := by decide +kernel
theorem dX9_readOrder_152 : decode cX9_readOrder 152 = .ok (.aload_n 0, 1) := by decide +kernel
theorem dX9_readOrder_153 : decode cX9_readOrder 153 = .ok (.getfield 13, 3) := by decide +kernel
theorem dX9_readOrder_156 : decode cX9_readOrder 156 = .ok (.iload_n 1, 1) := by decide +kernel
theorem dX9_readOrder_157 : decode cX9_readOrder 157 = .ok (.iconst 4, 1) := by decide +kernel
theorem dX9_readOrder_158 : decode cX9_readOrder 158 = .ok (.iadd, 1) := by decide +kernel
theorem dX9_readOrder_159 : decode cX9_readOrder 159 = .ok (.aload_n 0, 1) := by decide +kernel
theorem dX9_readOrder_160 : decode cX9_readOrder 160 = .ok (.getfield 80, 3) := by decide +kernel
theorem dX9_readOrder_163 : decode cX9_readOrder 163 = .ok (.iastore, 1) := by decide +kernel
theorem dX9_readOrder_164 : decode cX9_readOrder 164 = .ok (.aload_n 0, 1) := by decide +kernel
theorem dX9_readOrder_165 : decode cX9_readOrder 165 = .ok (.getfield 13, 3) := by decide +kernel
theorem dX9_readOrder_168 : decode cX9_readOrder 168 = .ok (.iconst 3, 1) := by decide +kernel
theorem dX9_readOrder_169 : decode cX9_readOrder 169 = .ok (.dup2, 1) := by decide +kernel
theorem dX9_readOrder_170 : decode cX9_readOrder 170 = .ok (.iaload, 1) := by decide +kernel
theorem dX9_readOrder_171 : decode cX9_readOrder 171 = .ok (.iconst 1, 1) := by decide +kernel
theorem dX9_readOrder_172 : decode cX9_readOrder 172 = .ok (.iadd, 1) := by decide +kernel
theorem dX9_readOrder_173 : decode cX9_readOrder 173 = .ok (.iastore, 1) := by decide +kernel
theorem dX9_readOrder_174 : decode cX9_readOrder 174 = .ok (.aload_n 0, 1) := by decide +kernel
theorem dX9_readOrder_175 : decode cX9_readOrder 175 = .ok (.invokevirtual 94, 3) := by decide +kernel
theorem dX9_readOrder_178 : decode cX9_readOrder 178 = .ok (.ireturn, 1) := by decide +kernel
theorem dX9_readFrame_0 : decode cX9_readFrame 0 = .ok (.aload_n 0, 1) := by decide +kernel
theorem dX9_readFrame_1 : decode cX9_readFrame 1 = .ok (.invokevirtual 56, 3) := by decide +kernel
theorem dX9_readFrame_4 : decode cX9_readFrame 4 = .ok (.aload_n 0, 1) := by decide +kernel
theorem dX9_readFrame_5 : decode cX9_readFrame 5 = .ok (.iconst 0, 1) := by decide +kernel
theorem dX9_readFrame_6 : decode cX9_readFrame 6 = .ok (.putfield 63, 3) := by decide +kernel
theorem dX9_readFrame_9 : decode cX9_readFrame 9 = .ok (.aload_n 0, 1) := by decide +kernel
theorem dX9_readFrame_10 : decode cX9_readFrame 10 = .ok (.invokevirtual 87, 3) := by decide +kernel
theorem dX9_readFrame_13 : decode cX9_readFrame 13 = .ok (.aload_n 0, 1) := by decide +kernel
theorem dX9_readFrame_14 : decode cX9_readFrame 14 = .ok (.getfield 73, 3) := by decide +kernel
theorem dX9_readFrame_17 : decode cX9_readFrame 17 = .ok (.iconst 2, 1) := by decide +kernel
theorem dX9_readFrame_18 : decode cX9_readFrame 18 = .ok (.if_icmp .eq 49, 3) := by decide +kernel
theorem dX9_readFrame_21 : decode cX9_readFrame 21 = .ok (.aload_n 0, 1) := by decide +kernel
theorem dX9_readFrame_22 : decode cX9_readFrame 22 = .ok (.getfield 73, 3) := by decide +kernel
theorem dX9_readFrame_25 : decode cX9_readFrame 25 = .ok (.bipush 114, 2) := by decide +kernel
theorem dX9_readFrame_27 : decode cX9_readFrame 27 = .ok (.if_icmp .eq 21, 3) := by decide +kernel
theorem dX9_readFrame_30 : decode cX9_readFrame 30 = .ok (.aload_n 0, 1) := by decide +kernel
theorem dX9_readFrame_31 : decode cX9_readFrame 31 = .ok (.getfield 73, 3) := by decide +kernel
theorem dX9_readFrame_34 : decode cX9_readFrame 34 = .ok (.bipush 119, 2) := by decide +kernel
theorem dX9_readFrame_36 : decode cX9_readFrame 36 = .ok (.if_icmp .eq 12, 3) := by decide +kernel
theorem dX9_readFrame_39 : decode cX9_readFrame 39 = .ok (.aload_n 0, 1) := by decide +kernel
theorem dX9_readFrame_40 : decode cX9_readFrame 40 = .ok (.getfield 73, 3) := by decide +kernel
theorem dX9_readFrame_43 : decode cX9_readFrame 43 = .ok (.bipush 120, 2) := by decide +kernel
theorem dX9_readFrame_45 : decode cX9_readFrame 45 = .ok (.if_icmp .ne 10, 3) := by decide +kernel
theorem dX9_readFrame_48 : decode cX9_readFrame 48 = .ok (.aload_n 0, 1) := by decide +kernel
theorem dX9_readFrame_49 : decode cX9_readFrame 49 = .ok (.invokevirtual 111, 3) := by decide +kernel
theorem dX9_readFrame_52 : decode cX9_readFrame 52 = .ok (.ifCond .ne 8, 3) := by decide +kernel
theorem dX9_readFrame_55 : decode cX9_readFrame 55 = .ok (.aload_n 0, 1) := by decide +kernel
theorem dX9_readFrame_56 : decode cX9_readFrame 56 = .ok (.getfield 70, 3) := by decide +kernel
theorem dX9_readFrame_59 : decode cX9_readFrame 59 = .ok (.ireturn, 1) := by decide +kernel
theorem dX9_readFrame_60 : decode cX9_readFrame 60 = .ok (.aload_n 0, 1) := by decide +kernel
theorem dX9_readFrame_61 : decode cX9_readFrame 61 = .ok (.invokevirtual 87, 3) := by decide +kernel
theorem dX9_readFrame_64 : decode cX9_readFrame 64 = .ok (.goto (-51), 3) := by decide +kernel
theorem dX9_readFrame_67 : decode cX9_readFrame 67 = .ok (.aload_n 0, 1) := by decide +kernel
theorem dX9_readFrame_68 : decode cX9_readFrame 68 = .ok (.getfield 13, 3) := by decide +kernel
theorem dX9_readFrame_71 : decode cX9_readFrame 71 = .ok (.iconst 3, 1) := by decide +kernel
theorem dX9_readFrame_72 : decode cX9_readFrame 72 = .ok (.iaload, 1) := by decide +kernel
theorem dX9_readFrame_73 : decode cX9_readFrame 73 = .ok (.ifCond .ne 10, 3) := by decide +kernel
theorem dX9_readFrame_76 : decode cX9_readFrame 76 = .ok (.aload_n 0, 1) := by decide +kernel
theorem dX9_readFrame_77 : decode cX9_readFrame 77 = .ok (.getfield 67, 3) := by decide +kernel
theorem dX9_readFrame_80 : decode cX9_readFrame 80 = .ok (.goto 5, 3) := by decide +kernel
theorem dX9_readFrame_83 : decode cX9_readFrame 83 = .ok (.bipush (-9), 2) := by decide +kernel
theorem dX9_readFrame_85 : decode cX9_readFrame 85 = .ok (.ireturn, 1) := by decide +kernel
theorem dX9_type_0 : decode cX9_type 0 = .ok (.iload_n 1, 1) := by decide +kernel
theorem dX9_type_1 : decode cX9_type 1 = .ok (.iconst 0, 1) := by decide +kernel
theorem dX9_type_2 : decode cX9_type 2 = .ok (.sipush 255, 3) := by decide +kernel
theorem dX9_type_5 : decode cX9_type 5 = .ok (.invokestatic 76, 3) := by decide +kernel
theorem dX9_type_8 : decode cX9_type 8 = .ok (.ifCond .ne 5, 3) := by decide +kernel
theorem dX9_type_11 : decode cX9_type 11 = .ok (.iconst (-1), 1) := by decide +kernel
theorem dX9_type_12 : decode cX9_type 12 = .ok (.ireturn, 1) := by decide +kernel
theorem dX9_type_13 : decode cX9_type 13 = .ok (.aload_n 0, 1) := by decide +kernel
theorem dX9_type_14 : decode cX9_type 14 = .ok (.getfield 67, 3) := by decide +kernel
theorem dX9_type_17 : decode cX9_type 17 = .ok (.bipush 120, 2) := by decide +kernel
theorem dX9_type_19 : decode cX9_type 19 = .ok (.if_icmp .ne 6, 3) := by decide +kernel
theorem dX9_type_22 : decode cX9_type 22 = .ok (.bipush (-3), 2) := by decide +kernel
theorem dX9_type_24 : decode cX9_type 24 = .ok (.ireturn, 1) := by decide +kernel
theorem dX9_type_25 : decode cX9_type 25 = .ok (.aload_n 0, 1) := by decide +kernel
theorem dX9_type_26 : decode cX9_type 26 = .ok (.getfield 26, 3) := by decide +kernel
theorem dX9_type_29 : decode cX9_type 29 = .ok (.aload_n 0, 1) := by decide +kernel
theorem dX9_type_30 : decode cX9_type 30 = .ok (.getfield 67, 3) := by decide +kernel
theorem dX9_type_33 : decode cX9_type 33 = .ok (.iload_n 1, 1) := by decide +kernel
theorem dX9_type_34 : decode cX9_type 34 = .ok (.iastore, 1) := by decide +kernel
theorem dX9_type_35 : decode cX9_type 35 = .ok (.aload_n 0, 1) := by decide +kernel
theorem dX9_type_36 : decode cX9_type 36 = .ok (.dup, 1) := by decide +kernel
theorem dX9_type_37 : decode cX9_type 37 = .ok (.getfield 67, 3) := by decide +kernel
theorem dX9_type_40 : decode cX9_type 40 = .ok (.iconst 1, 1) := by decide +kernel
theorem dX9_type_41 : decode cX9_type 41 = .ok (.iadd, 1) := by decide +kernel
theorem dX9_type_42 : decode cX9_type 42 = .ok (.putfield 67, 3) := by decide +kernel
theorem dX9_type_45 : decode cX9_type 45 = .ok (.aload_n 0, 1) := by decide +kernel
theorem dX9_type_46 : decode cX9_type 46 = .ok (.getfield 67, 3) := by decide +kernel
theorem dX9_type_49 : decode cX9_type 49 = .ok (.ireturn, 1) := by decide +kernel
theorem dX9_clear_0 : decode cX9_clear 0 = .ok (.aload_n 0, 1) := by decide +kernel
theorem dX9_clear_1 : decode cX9_clear 1 = .ok (.getfield 67, 3) := by decide +kernel
theorem dX9_clear_4 : decode cX9_clear 4 = .ok (.istore_n 1, 1) := by decide +kernel
theorem dX9_clear_5 : decode cX9_clear 5 = .ok (.aload_n 0, 1) := by decide +kernel
theorem dX9_clear_6 : decode cX9_clear 6 = .ok (.iconst 0, 1) := by decide +kernel
theorem dX9_clear_7 : decode cX9_clear 7 = .ok (.putfield 67, 3) := by decide +kernel
theorem dX9_clear_10 : decode cX9_clear 10 = .ok (.iload_n 1, 1) := by decide +kernel
theorem dX9_clear_11 : decode cX9_clear 11 = .ok (.ireturn, 1) := by decide +kernel
theorem dX9_wires_0 : decode cX9_wires 0 = .ok (.aload_n 0, 1) := by decide +kernel
theorem dX9_wires_1 : decode cX9_wires 1 = .ok (.invokevirtual 114, 3) := by decide +kernel
theorem dX9_wires_4 : decode cX9_wires 4 = .ok (.istore_n 1, 1) := by decide +kernel
theorem dX9_wires_5 : decode cX9_wires 5 = .ok (.iload_n 1, 1) := by decide +kernel
theorem dX9_wires_6 : decode cX9_wires 6 = .ok (.bipush (-9), 2) := by decide +kernel
theorem dX9_wires_8 : decode cX9_wires 8 = .ok (.if_icmp .eq 8, 3) := by decide +kernel
theorem dX9_wires_11 : decode cX9_wires 11 = .ok (.bipush (-10), 2) := by decide +kernel
theorem dX9_wires_13 : decode cX9_wires 13 = .ok (.iload_n 1, 1) := by decide +kernel
theorem dX9_wires_14 : decode cX9_wires 14 = .ok (.isub, 1) := by decide +kernel
theorem dX9_wires_15 : decode cX9_wires 15 = .ok (.ireturn, 1) := by decide +kernel
theorem dX9_wires_16 : decode cX9_wires 16 = .ok (.aload_n 0, 1) := by decide +kernel
theorem dX9_wires_17 : decode cX9_wires 17 = .ok (.invokevirtual 118, 3) := by decide +kernel
theorem dX9_wires_20 : decode cX9_wires 20 = .ok (.aload_n 0, 1) := by decide +kernel
theorem dX9_wires_21 : decode cX9_wires 21 = .ok (.getfield 13, 3) := by decide +kernel
theorem dX9_wires_24 : decode cX9_wires 24 = .ok (.iconst 0, 1) := by decide +kernel
theorem dX9_wires_25 : decode cX9_wires 25 = .ok (.aload_n 0, 1) := by decide +kernel
theorem dX9_wires_26 : decode cX9_wires 26 = .ok (.getfield 7, 3) := by decide +kernel
theorem dX9_wires_29 : decode cX9_wires 29 = .ok (.iconst 0, 1) := by decide +kernel
theorem dX9_wires_30 : decode cX9_wires 30 = .ok (.invokestatic 59, 3) := by decide +kernel
theorem dX9_wires_33 : decode cX9_wires 33 = .ok (.aload_n 0, 1) := by decide +kernel
theorem dX9_wires_34 : decode cX9_wires 34 = .ok (.iconst 0, 1) := by decide +kernel
theorem dX9_wires_35 : decode cX9_wires 35 = .ok (.putfield 67, 3) := by decide +kernel
theorem dX9_wires_38 : decode cX9_wires 38 = .ok (.aload_n 0, 1) := by decide +kernel
theorem dX9_wires_39 : decode cX9_wires 39 = .ok (.getfield 7, 3) := by decide +kernel
theorem dX9_wires_42 : decode cX9_wires 42 = .ok (.iconst 0, 1) := by decide +kernel
theorem dX9_wires_43 : decode cX9_wires 43 = .ok (.iaload, 1) := by decide +kernel
theorem dX9_wires_44 : decode cX9_wires 44 = .ok (.ireturn, 1) := by decide +kernel
theorem dX9_frames_0 : decode cX9_frames 0 = .ok (.aload_n 0, 1) := by decide +kernel
theorem dX9_frames_1 : decode cX9_frames 1 = .ok (.invokevirtual 121, 3) := by decide +kernel
theorem dX9_frames_4 : decode cX9_frames 4 = .ok (.istore_n 1, 1) := by decide +kernel
theorem dX9_frames_5 : decode cX9_frames 5 = .ok (.iload_n 1, 1) := by decide +kernel
theorem dX9_frames_6 : decode cX9_frames 6 = .ok (.bipush (-9), 2) := by decide +kernel
theorem dX9_frames_8 : decode cX9_frames 8 = .ok (.if_icmp .eq 8, 3) := by decide +kernel
theorem dX9_frames_11 : decode cX9_frames 11 = .ok (.bipush (-10), 2) := by decide +kernel
theorem dX9_frames_13 : decode cX9_frames 13 = .ok (.iload_n 1, 1) := by decide +kernel
theorem dX9_frames_14 : decode cX9_frames 14 = .ok (.isub, 1) := by decide +kernel
theorem dX9_frames_15 : decode cX9_frames 15 = .ok (.ireturn, 1) := by decide +kernel
theorem dX9_frames_16 : decode cX9_frames 16 = .ok (.aload_n 0, 1) := by decide +kernel
theorem dX9_frames_17 : decode cX9_frames 17 = .ok (.invokevirtual 118, 3) := by decide +kernel
theorem dX9_frames_20 : decode cX9_frames 20 = .ok (.bipush 71, 2) := by decide +kernel
theorem dX9_frames_22 : decode cX9_frames 22 = .ok (.istore_n 2, 1) := by decide +kernel
theorem dX9_frames_23 : decode cX9_frames 23 = .ok (.iload_n 2, 1) := by decide +kernel
theorem dX9_frames_24 : decode cX9_frames 24 = .ok (.bipush 99, 2) := by decide +kernel
theorem dX9_frames_26 : decode cX9_frames 26 = .ok (.if_icmp .ge 21, 3) := by decide +kernel
theorem dX9_frames_29 : decode cX9_frames 29 = .ok (.aload_n 0, 1) := by decide +kernel
theorem dX9_frames_30 : decode cX9_frames 30 = .ok (.getfield 7, 3) := by decide +kernel
theorem dX9_frames_33 : decode cX9_frames 33 = .ok (.iload_n 2, 1) := by decide +kernel
theorem dX9_frames_34 : decode cX9_frames 34 = .ok (.aload_n 0, 1) := by decide +kernel
theorem dX9_frames_35 : decode cX9_frames 35 = .ok (.getfield 13, 3) := by decide +kernel
theorem dX9_frames_38 : decode cX9_frames 38 = .ok (.iload_n 2, 1) := by decide +kernel
theorem dX9_frames_39 : decode cX9_frames 39 = .ok (.iaload, 1) := by decide +kernel
theorem dX9_frames_40 : decode cX9_frames 40 = .ok (.iastore, 1) := by decide +kernel
theorem dX9_frames_41 : decode cX9_frames 41 = .ok (.iinc 2 1, 3) := by decide +kernel
theorem dX9_frames_44 : decode cX9_frames 44 = .ok (.goto (-21), 3) := by decide +kernel
theorem dX9_frames_47 : decode cX9_frames 47 = .ok (.aload_n 0, 1) := by decide +kernel
theorem dX9_frames_48 : decode cX9_frames 48 = .ok (.getfield 7, 3) := by decide +kernel
theorem dX9_frames_51 : decode cX9_frames 51 = .ok (.iconst 3, 1) := by decide +kernel
theorem dX9_frames_52 : decode cX9_frames 52 = .ok (.aload_n 0, 1) := by decide +kernel
theorem dX9_frames_53 : decode cX9_frames 53 = .ok (.getfield 13, 3) := by decide +kernel
theorem dX9_frames_56 : decode cX9_frames 56 = .ok (.iconst 3, 1) := by decide +kernel
theorem dX9_frames_57 : decode cX9_frames 57 = .ok (.iaload, 1) := by decide +kernel
theorem dX9_frames_58 : decode cX9_frames 58 = .ok (.iastore, 1) := by decide +kernel
theorem dX9_frames_59 : decode cX9_frames 59 = .ok (.aload_n 0, 1) := by decide +kernel
theorem dX9_frames_60 : decode cX9_frames 60 = .ok (.getfield 7, 3) := by decide +kernel
theorem dX9_frames_63 : decode cX9_frames 63 = .ok (.iconst 4, 1) := by decide +kernel
theorem dX9_frames_64 : decode cX9_frames 64 = .ok (.iconst 0, 1) := by decide +kernel
theorem dX9_frames_65 : decode cX9_frames 65 = .ok (.iastore, 1) := by decide +kernel
theorem dX9_frames_66 : decode cX9_frames 66 = .ok (.aload_n 0, 1) := by decide +kernel
theorem dX9_frames_67 : decode cX9_frames 67 = .ok (.getfield 7, 3) := by decide +kernel
theorem dX9_frames_70 : decode cX9_frames 70 = .ok (.iconst 5, 1) := by decide +kernel
theorem dX9_frames_71 : decode cX9_frames 71 = .ok (.bipush (-9), 2) := by decide +kernel
theorem dX9_frames_73 : decode cX9_frames 73 = .ok (.iastore, 1) := by decide +kernel
theorem dX9_frames_74 : decode cX9_frames 74 = .ok (.aload_n 0, 1) := by decide +kernel
theorem dX9_frames_75 : decode cX9_frames 75 = .ok (.getfield 7, 3) := by decide +kernel
theorem dX9_frames_78 : decode cX9_frames 78 = .ok (.bipush 6, 2) := by decide +kernel
theorem dX9_frames_80 : decode cX9_frames 80 = .ok (.bipush (-9), 2) := by decide +kernel
theorem dX9_frames_82 : decode cX9_frames 82 = .ok (.iastore, 1) := by decide +kernel
theorem dX9_frames_83 : decode cX9_frames 83 = .ok (.aload_n 0, 1) := by decide +kernel
theorem dX9_frames_84 : decode cX9_frames 84 = .ok (.iconst 0, 1) := by decide +kernel
theorem dX9_frames_85 : decode cX9_frames 85 = .ok (.putfield 67, 3) := by decide +kernel
theorem dX9_frames_88 : decode cX9_frames 88 = .ok (.aload_n 0, 1) := by decide +kernel
theorem dX9_frames_89 : decode cX9_frames 89 = .ok (.getfield 7, 3) := by decide +kernel
theorem dX9_frames_92 : decode cX9_frames 92 = .ok (.iconst 3, 1) := by decide +kernel
theorem dX9_frames_93 : decode cX9_frames 93 = .ok (.iaload, 1) := by decide +kernel
theorem dX9_frames_94 : decode cX9_frames 94 = .ok (.ireturn, 1) := by decide +kernel
theorem dX9_has_0 : decode cX9_has 0 = .ok (.iload_n 0, 1) := by decide +kernel
theorem dX9_has_1 : decode cX9_has 1 = .ok (.iload_n 1, 1) := by decide +kernel
theorem dX9_has_2 : decode cX9_has 2 = .ok (.ishr, 1) := by decide +kernel
theorem dX9_has_3 : decode cX9_has 3 = .ok (.iconst 1, 1) := by decide +kernel
theorem dX9_has_4 : decode cX9_has 4 = .ok (.iand, 1) := by decide +kernel
theorem dX9_has_5 : decode cX9_has 5 = .ok (.iconst 1, 1) := by decide +kernel
theorem dX9_has_6 : decode cX9_has 6 = .ok (.if_icmp .ne 7, 3) := by decide +kernel
theorem dX9_has_9 : decode cX9_has 9 = .ok (.iconst 1, 1) := by decide +kernel
theorem dX9_has_10 : decode cX9_has 10 = .ok (.goto 4, 3) := by decide +kernel
theorem dX9_has_13 : decode cX9_has 13 = .ok (.iconst 0, 1) := by decide +kernel
theorem dX9_has_14 : decode cX9_has 14 = .ok (.ireturn, 1) := by decide +kernel
theorem dX9_links_0 : decode cX9_links 0 = .ok (.aload_n 0, 1) := by decide +kernel
theorem dX9_links_1 : decode cX9_links 1 = .ok (.getfield 7, 3) := by decide +kernel
theorem dX9_links_4 : decode cX9_links 4 = .ok (.iconst 0, 1) := by decide +kernel
theorem dX9_links_5 : decode cX9_links 5 = .ok (.iaload, 1) := by decide +kernel
theorem dX9_links_6 : decode cX9_links 6 = .ok (.aload_n 0, 1) := by decide +kernel
theorem dX9_links_7 : decode cX9_links 7 = .ok (.getfield 7, 3) := by decide +kernel
theorem dX9_links_10 : decode cX9_links 10 = .ok (.iconst 1, 1) := by decide +kernel
theorem dX9_links_11 : decode cX9_links 11 = .ok (.iaload, 1) := by decide +kernel
theorem dX9_links_12 : decode cX9_links 12 = .ok (.iadd, 1) := by decide +kernel
theorem dX9_links_13 : decode cX9_links 13 = .ok (.ireturn, 1) := by decide +kernel
theorem dX9_lastOfA_0 : decode cX9_lastOfA 0 = .ok (.iconst (-1), 1) := by decide +kernel
theorem dX9_lastOfA_1 : decode cX9_lastOfA 1 = .ok (.istore_n 2, 1) := by decide +kernel
theorem dX9_lastOfA_2 : decode cX9_lastOfA 2 = .ok (.iload_n 2, 1) := by decide +kernel
theorem dX9_lastOfA_3 : decode cX9_lastOfA 3 = .ok (.iconst 1, 1) := by decide +kernel
theorem dX9_lastOfA_4 : decode cX9_lastOfA 4 = .ok (.iadd, 1) := by decide +kernel
theorem dX9_lastOfA_5 : decode cX9_lastOfA 5 = .ok (.aload_n 0, 1) := by decide +kernel
theorem dX9_lastOfA_6 : decode cX9_lastOfA 6 = .ok (.getfield 7, 3) := by decide +kernel
theorem dX9_lastOfA_9 : decode cX9_lastOfA 9 = .ok (.iconst 0, 1) := by decide +kernel
theorem dX9_lastOfA_10 : decode cX9_lastOfA 10 = .ok (.iaload, 1) := by decide +kernel
theorem dX9_lastOfA_11 : decode cX9_lastOfA 11 = .ok (.if_icmp .ge 19, 3) := by decide +kernel
theorem dX9_lastOfA_14 : decode cX9_lastOfA 14 = .ok (.iload_n 1, 1) := by decide +kernel
theorem dX9_lastOfA_15 : decode cX9_lastOfA 15 = .ok (.iload_n 2, 1) := by decide +kernel
theorem dX9_lastOfA_16 : decode cX9_lastOfA 16 = .ok (.iconst 1, 1) := by decide +kernel
theorem dX9_lastOfA_17 : decode cX9_lastOfA 17 = .ok (.iadd, 1) := by decide +kernel
theorem dX9_lastOfA_18 : decode cX9_lastOfA 18 = .ok (.invokestatic 124, 3) := by decide +kernel
theorem dX9_lastOfA_21 : decode cX9_lastOfA 21 = .ok (.ifCond .ne 9, 3) := by decide +kernel
theorem dX9_lastOfA_24 : decode cX9_lastOfA 24 = .ok (.iinc 2 1, 3) := by decide +kernel
theorem dX9_lastOfA_27 : decode cX9_lastOfA 27 = .ok (.goto (-25), 3) := by decide +kernel
theorem dX9_lastOfA_30 : decode cX9_lastOfA 30 = .ok (.iload_n 2, 1) := by decide +kernel
theorem dX9_lastOfA_31 : decode cX9_lastOfA 31 = .ok (.ireturn, 1) := by decide +kernel
theorem dX9_isWhole_0 : decode cX9_isWhole 0 = .ok (.aload_n 0, 1) := by decide +kernel
theorem dX9_isWhole_1 : decode cX9_isWhole 1 = .ok (.getfield 7, 3) := by decide +kernel
theorem dX9_isWhole_4 : decode cX9_isWhole 4 = .ok (.iconst 1, 1) := by decide +kernel
theorem dX9_isWhole_5 : decode cX9_isWhole 5 = .ok (.iaload, 1) := by decide +kernel
theorem dX9_isWhole_6 : decode cX9_isWhole 6 = .ok (.iconst 1, 1) := by decide +kernel
theorem dX9_isWhole_7 : decode cX9_isWhole 7 = .ok (.if_icmp .ne 11, 3) := by decide +kernel
theorem dX9_isWhole_10 : decode cX9_isWhole 10 = .ok (.iload_n 1, 1) := by decide +kernel
theorem dX9_isWhole_11 : decode cX9_isWhole 11 = .ok (.ifCond .ne 7, 3) := by decide +kernel
theorem dX9_isWhole_14 : decode cX9_isWhole 14 = .ok (.iconst 1, 1) := by decide +kernel
theorem dX9_isWhole_15 : decode cX9_isWhole 15 = .ok (.goto 4, 3) := by decide +kernel
theorem dX9_isWhole_18 : decode cX9_isWhole 18 = .ok (.iconst 0, 1) := by decide +kernel
theorem dX9_isWhole_19 : decode cX9_isWhole 19 = .ok (.ireturn, 1) := by decide +kernel
theorem dX9_firstOfB_0 : decode cX9_firstOfB 0 = .ok (.aload_n 0, 1) := by decide +kernel
theorem dX9_firstOfB_1 : decode cX9_firstOfB 1 = .ok (.getfield 7, 3) := by decide +kernel
theorem dX9_firstOfB_4 : decode cX9_firstOfB 4 = .ok (.iconst 0, 1) := by decide +kernel
theorem dX9_firstOfB_5 : decode cX9_firstOfB 5 = .ok (.iaload, 1) := by decide +kernel
theorem dX9_firstOfB_6 : decode cX9_firstOfB 6 = .ok (.istore_n 2, 1) := by decide +kernel
theorem dX9_firstOfB_7 : decode cX9_firstOfB 7 = .ok (.aload_n 0, 1) := by decide +kernel
theorem dX9_firstOfB_8 : decode cX9_firstOfB 8 = .ok (.getfield 7, 3) := by decide +kernel
theorem dX9_firstOfB_11 : decode cX9_firstOfB 11 = .ok (.iconst 1, 1) := by decide +kernel
theorem dX9_firstOfB_12 : decode cX9_firstOfB 12 = .ok (.iaload, 1) := by decide +kernel
theorem dX9_firstOfB_13 : decode cX9_firstOfB 13 = .ok (.ifCond .eq 15, 3) := by decide +kernel
theorem dX9_firstOfB_16 : decode cX9_firstOfB 16 = .ok (.iload_n 1, 1) := by decide +kernel
theorem dX9_firstOfB_17 : decode cX9_firstOfB 17 = .ok (.ifCond .eq 11, 3) := by decide +kernel
theorem dX9_firstOfB_20 : decode cX9_firstOfB 20 = .ok (.iload_n 1, 1) := by decide +kernel
theorem dX9_firstOfB_21 : decode cX9_firstOfB 21 = .ok (.iload_n 2, 1) := by decide +kernel
theorem dX9_firstOfB_22 : decode cX9_firstOfB 22 = .ok (.invokestatic 124, 3) := by decide +kernel
theorem dX9_firstOfB_25 : decode cX9_firstOfB 25 = .ok (.ifCond .eq 5, 3) := by decide +kernel
theorem dX9_firstOfB_28 : decode cX9_firstOfB 28 = .ok (.iload_n 2, 1) := by decide +kernel
theorem dX9_firstOfB_29 : decode cX9_firstOfB 29 = .ok (.ireturn, 1) := by decide +kernel
theorem dX9_firstOfB_30 : decode cX9_firstOfB 30 = .ok (.iload_n 2, 1) := by decide +kernel
theorem dX9_firstOfB_31 : decode cX9_firstOfB 31 = .ok (.iconst 1, 1) := by decide +kernel
theorem dX9_firstOfB_32 : decode cX9_firstOfB 32 = .ok (.isub, 1) := by decide +kernel
theorem dX9_firstOfB_33 : decode cX9_firstOfB 33 = .ok (.istore_n 3, 1) := by decide +kernel
theorem dX9_firstOfB_34 : decode cX9_firstOfB 34 = .ok (.iload_n 1, 1) := by decide +kernel
theorem dX9_firstOfB_35 : decode cX9_firstOfB 35 = .ok (.iload_n 3, 1) := by decide +kernel
theorem dX9_firstOfB_36 : decode cX9_firstOfB 36 = .ok (.invokestatic 124, 3) := by decide +kernel
theorem dX9_firstOfB_39 : decode cX9_firstOfB 39 = .ok (.ifCond .ne 9, 3) := by decide +kernel
theorem dX9_firstOfB_42 : decode cX9_firstOfB 42 = .ok (.iinc 3 (-1), 3) := by decide +kernel
theorem dX9_firstOfB_45 : decode cX9_firstOfB 45 = .ok (.goto (-11), 3) := by decide +kernel
theorem dX9_firstOfB_48 : decode cX9_firstOfB 48 = .ok (.iload_n 3, 1) := by decide +kernel
theorem dX9_firstOfB_49 : decode cX9_firstOfB 49 = .ok (.ireturn, 1) := by decide +kernel
theorem dX9_way_0 : decode cX9_way 0 = .ok (.iconst 0, 1) := by decide +kernel
theorem dX9_way_1 : decode cX9_way 1 = .ok (.istore_n 3, 1) := by decide +kernel
theorem dX9_way_2 : decode cX9_way 2 = .ok (.iload_n 1, 1) := by decide +kernel
theorem dX9_way_3 : decode cX9_way 3 = .ok (.istore 4, 2) := by decide +kernel
theorem dX9_way_5 : decode cX9_way 5 = .ok (.iload 4, 2) := by decide +kernel
theorem dX9_way_7 : decode cX9_way 7 = .ok (.iload_n 2, 1) := by decide +kernel
theorem dX9_way_8 : decode cX9_way 8 = .ok (.if_icmp .gt 22, 3) := by decide +kernel
theorem dX9_way_11 : decode cX9_way 11 = .ok (.iload_n 3, 1) := by decide +kernel
theorem dX9_way_12 : decode cX9_way 12 = .ok (.aload_n 0, 1) := by decide +kernel
theorem dX9_way_13 : decode cX9_way 13 = .ok (.getfield 7, 3) := by decide +kernel
theorem dX9_way_16 : decode cX9_way 16 = .ok (.bipush 9, 2) := by decide +kernel
theorem dX9_way_18 : decode cX9_way 18 = .ok (.iload 4, 2) := by decide +kernel
theorem dX9_way_20 : decode cX9_way 20 = .ok (.iadd, 1) := by decide +kernel
theorem dX9_way_21 : decode cX9_way 21 = .ok (.iaload, 1) := by decide +kernel
theorem dX9_way_22 : decode cX9_way 22 = .ok (.iadd, 1) := by decide +kernel
theorem dX9_way_23 : decode cX9_way 23 = .ok (.istore_n 3, 1) := by decide +kernel
theorem dX9_way_24 : decode cX9_way 24 = .ok (.iinc 4 1, 3) := by decide +kernel
theorem dX9_way_27 : decode cX9_way 27 = .ok (.goto (-22), 3) := by decide +kernel
theorem dX9_way_30 : decode cX9_way 30 = .ok (.iload_n 3, 1) := by decide +kernel
theorem dX9_way_31 : decode cX9_way 31 = .ok (.ireturn, 1) := by decide +kernel
theorem dX9_timeOf_0 : decode cX9_timeOf 0 = .ok (.aload_n 0, 1) := by decide +kernel
theorem dX9_timeOf_1 : decode cX9_timeOf 1 = .ok (.getfield 7, 3) := by decide +kernel
theorem dX9_timeOf_4 : decode cX9_timeOf 4 = .ok (.iconst 0, 1) := by decide +kernel
theorem dX9_timeOf_5 : decode cX9_timeOf 5 = .ok (.iaload, 1) := by decide +kernel
theorem dX9_timeOf_6 : decode cX9_timeOf 6 = .ok (.istore_n 3, 1) := by decide +kernel
theorem dX9_timeOf_7 : decode cX9_timeOf 7 = .ok (.aload_n 0, 1) := by decide +kernel
theorem dX9_timeOf_8 : decode cX9_timeOf 8 = .ok (.iload_n 2, 1) := by decide +kernel
theorem dX9_timeOf_9 : decode cX9_timeOf 9 = .ok (.invokevirtual 127, 3) := by decide +kernel
theorem dX9_timeOf_12 : decode cX9_timeOf 12 = .ok (.ifCond .eq 12, 3) := by decide +kernel
theorem dX9_timeOf_15 : decode cX9_timeOf 15 = .ok (.aload_n 0, 1) := by decide +kernel
theorem dX9_timeOf_16 : decode cX9_timeOf 16 = .ok (.iconst 0, 1) := by decide +kernel
theorem dX9_timeOf_17 : decode cX9_timeOf 17 = .ok (.iload_n 3, 1) := by decide +kernel
theorem dX9_timeOf_18 : decode cX9_timeOf 18 = .ok (.invokevirtual 130, 3) := by decide +kernel
theorem dX9_timeOf_21 : decode cX9_timeOf 21 = .ok (.iload_n 3, 1) := by decide +kernel
theorem dX9_timeOf_22 : decode cX9_timeOf 22 = .ok (.iadd, 1) := by decide +kernel
theorem dX9_timeOf_23 : decode cX9_timeOf 23 = .ok (.ireturn, 1) := by decide +kernel
theorem dX9_timeOf_24 : decode cX9_timeOf 24 = .ok (.aload_n 0, 1) := by decide +kernel
theorem dX9_timeOf_25 : decode cX9_timeOf 25 = .ok (.iload_n 2, 1) := by decide +kernel
theorem dX9_timeOf_26 : decode cX9_timeOf 26 = .ok (.invokevirtual 134, 3) := by decide +kernel
theorem dX9_timeOf_29 : decode cX9_timeOf 29 = .ok (.istore 4, 2) := by decide +kernel
theorem dX9_timeOf_31 : decode cX9_timeOf 31 = .ok (.aload_n 0, 1) := by decide +kernel
theorem dX9_timeOf_32 : decode cX9_timeOf 32 = .ok (.iload_n 2, 1) := by decide +kernel
theorem dX9_timeOf_33 : decode cX9_timeOf 33 = .ok (.invokevirtual 138, 3) := by decide +kernel
theorem dX9_timeOf_36 : decode cX9_timeOf 36 = .ok (.istore 5, 2) := by decide +kernel
theorem dX9_timeOf_38 : decode cX9_timeOf 38 = .ok (.iload_n 1, 1) := by decide +kernel
theorem dX9_timeOf_39 : decode cX9_timeOf 39 = .ok (.ifCond .ne 30, 3) := by decide +kernel
theorem dX9_timeOf_42 : decode cX9_timeOf 42 = .ok (.iload 4, 2) := by decide +kernel
theorem dX9_timeOf_44 : decode cX9_timeOf 44 = .ok (.ifCond .ge 8, 3) := by decide +kernel
theorem dX9_timeOf_47 : decode cX9_timeOf 47 = .ok (.bipush (-9), 2) := by decide +kernel
theorem dX9_timeOf_49 : decode cX9_timeOf 49 = .ok (.goto 19, 3) := by decide +kernel
theorem dX9_timeOf_52 : decode cX9_timeOf 52 = .ok (.iconst 2, 1) := by decide +kernel
theorem dX9_timeOf_53 : decode cX9_timeOf 53 = .ok (.aload_n 0, 1) := by decide +kernel
theorem dX9_timeOf_54 : decode cX9_timeOf 54 = .ok (.iconst 0, 1) := by decide +kernel
theorem dX9_timeOf_55 : decode cX9_timeOf 55 = .ok (.iload 4, 2) := by decide +kernel
theorem dX9_timeOf_57 : decode cX9_timeOf 57 = .ok (.invokevirtual 130, 3) := by decide +kernel
theorem dX9_timeOf_60 : decode cX9_timeOf 60 = .ok (.imul, 1) := by decide +kernel
theorem dX9_timeOf_61 : decode cX9_timeOf 61 = .ok (.iconst 2, 1) := by decide +kernel
theorem dX9_timeOf_62 : decode cX9_timeOf 62 = .ok (.iload 4, 2) := by decide +kernel
theorem dX9_timeOf_64 : decode cX9_timeOf 64 = .ok (.imul, 1) := by decide +kernel
theorem dX9_timeOf_65 : decode cX9_timeOf 65 = .ok (.iadd, 1) := by decide +kernel
theorem dX9_timeOf_66 : decode cX9_timeOf 66 = .ok (.iconst 1, 1) := by decide +kernel
theorem dX9_timeOf_67 : decode cX9_timeOf 67 = .ok (.iadd, 1) := by decide +kernel
theorem dX9_timeOf_68 : decode cX9_timeOf 68 = .ok (.ireturn, 1) := by decide +kernel
theorem dX9_timeOf_69 : decode cX9_timeOf 69 = .ok (.iload 5, 2) := by decide +kernel
theorem dX9_timeOf_71 : decode cX9_timeOf 71 = .ok (.iload_n 3, 1) := by decide +kernel
theorem dX9_timeOf_72 : decode cX9_timeOf 72 = .ok (.if_icmp .ne 8, 3) := by decide +kernel
theorem dX9_timeOf_75 : decode cX9_timeOf 75 = .ok (.bipush (-9), 2) := by decide +kernel
theorem dX9_timeOf_77 : decode cX9_timeOf 77 = .ok (.goto 25, 3) := by decide +kernel
theorem dX9_timeOf_80 : decode cX9_timeOf 80 = .ok (.iconst 2, 1) := by decide +kernel
theorem dX9_timeOf_81 : decode cX9_timeOf 81 = .ok (.aload_n 0, 1) := by decide +kernel
theorem dX9_timeOf_82 : decode cX9_timeOf 82 = .ok (.iload 5, 2) := by decide +kernel
theorem dX9_timeOf_84 : decode cX9_timeOf 84 = .ok (.iconst 1, 1) := by decide +kernel
theorem dX9_timeOf_85 : decode cX9_timeOf 85 = .ok (.iadd, 1) := by decide +kernel
theorem dX9_timeOf_86 : decode cX9_timeOf 86 = .ok (.iload_n 3, 1) := by decide +kernel
theorem dX9_timeOf_87 : decode cX9_timeOf 87 = .ok (.invokevirtual 130, 3) := by decide +kernel
theorem dX9_timeOf_90 : decode cX9_timeOf 90 = .ok (.imul, 1) := by decide +kernel
theorem dX9_timeOf_91 : decode cX9_timeOf 91 = .ok (.iconst 2, 1) := by decide +kernel
theorem dX9_timeOf_92 : decode cX9_timeOf 92 = .ok (.iload_n 3, 1) := by decide +kernel
theorem dX9_timeOf_93 : decode cX9_timeOf 93 = .ok (.iconst 1, 1) := by decide +kernel
theorem dX9_timeOf_94 : decode cX9_timeOf 94 = .ok (.isub, 1) := by decide +kernel
theorem dX9_timeOf_95 : decode cX9_timeOf 95 = .ok (.iload 5, 2) := by decide +kernel
theorem dX9_timeOf_97 : decode cX9_timeOf 97 = .ok (.isub, 1) := by decide +kernel
theorem dX9_timeOf_98 : decode cX9_timeOf 98 = .ok (.imul, 1) := by decide +kernel
theorem dX9_timeOf_99 : decode cX9_timeOf 99 = .ok (.iadd, 1) := by decide +kernel
theorem dX9_timeOf_100 : decode cX9_timeOf 100 = .ok (.iconst 1, 1) := by decide +kernel
theorem dX9_timeOf_101 : decode cX9_timeOf 101 = .ok (.iadd, 1) := by decide +kernel
theorem dX9_timeOf_102 : decode cX9_timeOf 102 = .ok (.ireturn, 1) := by decide +kernel
theorem dX9_handle_0 : decode cX9_handle 0 = .ok (.bipush 71, 2) := by decide +kernel
theorem dX9_handle_2 : decode cX9_handle 2 = .ok (.iconst 5, 1) := by decide +kernel
theorem dX9_handle_3 : decode cX9_handle 3 = .ok (.iload_n 2, 1) := by decide +kernel
theorem dX9_handle_4 : decode cX9_handle 4 = .ok (.imul, 1) := by decide +kernel
theorem dX9_handle_5 : decode cX9_handle 5 = .ok (.iadd, 1) := by decide +kernel
theorem dX9_handle_6 : decode cX9_handle 6 = .ok (.istore 4, 2) := by decide +kernel
theorem dX9_handle_8 : decode cX9_handle 8 = .ok (.bipush 17, 2) := by decide +kernel
theorem dX9_handle_10 : decode cX9_handle 10 = .ok (.bipush 9, 2) := by decide +kernel
theorem dX9_handle_12 : decode cX9_handle 12 = .ok (.iload_n 3, 1) := by decide +kernel
theorem dX9_handle_13 : decode cX9_handle 13 = .ok (.imul, 1) := by decide +kernel
theorem dX9_handle_14 : decode cX9_handle 14 = .ok (.iadd, 1) := by decide +kernel
theorem dX9_handle_15 : decode cX9_handle 15 = .ok (.istore 5, 2) := by decide +kernel
theorem dX9_handle_17 : decode cX9_handle 17 = .ok (.aload_n 0, 1) := by decide +kernel
theorem dX9_handle_18 : decode cX9_handle 18 = .ok (.getfield 7, 3) := by decide +kernel
theorem dX9_handle_21 : decode cX9_handle 21 = .ok (.iload 4, 2) := by decide +kernel
theorem dX9_handle_23 : decode cX9_handle 23 = .ok (.iconst 1, 1) := by decide +kernel
theorem dX9_handle_24 : decode cX9_handle 24 = .ok (.iadd, 1) := by decide +kernel
theorem dX9_handle_25 : decode cX9_handle 25 = .ok (.iaload, 1) := by decide +kernel
theorem dX9_handle_26 : decode cX9_handle 26 = .ok (.istore 6, 2) := by decide +kernel
theorem dX9_handle_28 : decode cX9_handle 28 = .ok (.iload 6, 2) := by decide +kernel
theorem dX9_handle_30 : decode cX9_handle 30 = .ok (.bipush 98, 2) := by decide +kernel
theorem dX9_handle_32 : decode cX9_handle 32 = .ok (.if_icmp .eq 45, 3) := by decide +kernel
theorem dX9_handle_35 : decode cX9_handle 35 = .ok (.iload 6, 2) := by decide +kernel
theorem dX9_handle_37 : decode cX9_handle 37 = .ok (.bipush 115, 2) := by decide +kernel
theorem dX9_handle_39 : decode cX9_handle 39 = .ok (.if_icmp .ne 22, 3) := by decide +kernel
theorem dX9_handle_42 : decode cX9_handle 42 = .ok (.aload_n 0, 1) := by decide +kernel
theorem dX9_handle_43 : decode cX9_handle 43 = .ok (.getfield 7, 3) := by decide +kernel
theorem dX9_handle_46 : decode cX9_handle 46 = .ok (.iload 4, 2) := by decide +kernel
theorem dX9_handle_48 : decode cX9_handle 48 = .ok (.iconst 2, 1) := by decide +kernel
theorem dX9_handle_49 : decode cX9_handle 49 = .ok (.iadd, 1) := by decide +kernel
theorem dX9_handle_50 : decode cX9_handle 50 = .ok (.iaload, 1) := by decide +kernel
theorem dX9_handle_51 : decode cX9_handle 51 = .ok (.aload_n 0, 1) := by decide +kernel
theorem dX9_handle_52 : decode cX9_handle 52 = .ok (.getfield 7, 3) := by decide +kernel
theorem dX9_handle_55 : decode cX9_handle 55 = .ok (.iload 5, 2) := by decide +kernel
theorem dX9_handle_57 : decode cX9_handle 57 = .ok (.iaload, 1) := by decide +kernel
theorem dX9_handle_58 : decode cX9_handle 58 = .ok (.if_icmp .eq 19, 3) := by decide +kernel
theorem dX9_handle_61 : decode cX9_handle 61 = .ok (.iload 6, 2) := by decide +kernel
theorem dX9_handle_63 : decode cX9_handle 63 = .ok (.bipush 112, 2) := by decide +kernel
theorem dX9_handle_65 : decode cX9_handle 65 = .ok (.if_icmp .ne 16, 3) := by decide +kernel
theorem dX9_handle_68 : decode cX9_handle 68 = .ok (.aload_n 0, 1) := by decide +kernel
theorem dX9_handle_69 : decode cX9_handle 69 = .ok (.getfield 41, 3) := by decide +kernel
theorem dX9_handle_72 : decode cX9_handle 72 = .ok (.iload_n 2, 1) := by decide +kernel
theorem dX9_handle_73 : decode cX9_handle 73 = .ok (.iaload, 1) := by decide +kernel
theorem dX9_handle_74 : decode cX9_handle 74 = .ok (.ifCond .ne 7, 3) := by decide +kernel
theorem dX9_handle_77 : decode cX9_handle 77 = .ok (.iconst 1, 1) := by decide +kernel
theorem dX9_handle_78 : decode cX9_handle 78 = .ok (.goto 4, 3) := by decide +kernel
theorem dX9_handle_81 : decode cX9_handle 81 = .ok (.iconst 0, 1) := by decide +kernel
theorem dX9_handle_82 : decode cX9_handle 82 = .ok (.istore 7, 2) := by decide +kernel
theorem dX9_handle_84 : decode cX9_handle 84 = .ok (.aload_n 0, 1) := by decide +kernel
theorem dX9_handle_85 : decode cX9_handle 85 = .ok (.getfield 41, 3) := by decide +kernel
theorem dX9_handle_88 : decode cX9_handle 88 = .ok (.iload_n 2, 1) := by decide +kernel
theorem dX9_handle_89 : decode cX9_handle 89 = .ok (.dup2, 1) := by decide +kernel
theorem dX9_handle_90 : decode cX9_handle 90 = .ok (.iaload, 1) := by decide +kernel
theorem dX9_handle_91 : decode cX9_handle 91 = .ok (.iconst 1, 1) := by decide +kernel
theorem dX9_handle_92 : decode cX9_handle 92 = .ok (.isub, 1) := by decide +kernel
theorem dX9_handle_93 : decode cX9_handle 93 = .ok (.iastore, 1) := by decide +kernel
theorem dX9_handle_94 : decode cX9_handle 94 = .ok (.iload 7, 2) := by decide +kernel
theorem dX9_handle_96 : decode cX9_handle 96 = .ok (.ifCond .ne 4, 3) := by decide +kernel
theorem dX9_handle_99 : decode cX9_handle 99 = .ok (.return_, 1) := by decide +kernel
theorem dX9_handle_100 : decode cX9_handle 100 = .ok (.aload_n 0, 1) := by decide +kernel
theorem dX9_handle_101 : decode cX9_handle 101 = .ok (.getfield 44, 3) := by decide +kernel
theorem dX9_handle_104 : decode cX9_handle 104 = .ok (.iload_n 3, 1) := by decide +kernel
theorem dX9_handle_105 : decode cX9_handle 105 = .ok (.iconst 1, 1) := by decide +kernel
theorem dX9_handle_106 : decode cX9_handle 106 = .ok (.bastore, 1) := by decide +kernel
theorem dX9_handle_107 : decode cX9_handle 107 = .ok (.iconst 4, 1) := by decide +kernel
theorem dX9_handle_108 : decode cX9_handle 108 = .ok (.iload_n 1, 1) := by decide +kernel
theorem dX9_handle_109 : decode cX9_handle 109 = .ok (.imul, 1) := by decide +kernel
theorem dX9_handle_110 : decode cX9_handle 110 = .ok (.iload_n 2, 1) := by decide +kernel
theorem dX9_handle_111 : decode cX9_handle 111 = .ok (.iadd, 1) := by decide +kernel
theorem dX9_handle_112 : decode cX9_handle 112 = .ok (.istore 8, 2) := by decide +kernel
theorem dX9_handle_114 : decode cX9_handle 114 = .ok (.iload 5, 2) := by decide +kernel
theorem dX9_handle_116 : decode cX9_handle 116 = .ok (.iconst 1, 1) := by decide +kernel
theorem dX9_handle_117 : decode cX9_handle 117 = .ok (.iadd, 1) := by decide +kernel
theorem dX9_handle_118 : decode cX9_handle 118 = .ok (.aload_n 0, 1) := by decide +kernel
theorem dX9_handle_119 : decode cX9_handle 119 = .ok (.getfield 7, 3) := by decide +kernel
theorem dX9_handle_122 : decode cX9_handle 122 = .ok (.iload 4, 2) := by decide +kernel
theorem dX9_handle_124 : decode cX9_handle 124 = .ok (.iconst 3, 1) := by decide +kernel
theorem dX9_handle_125 : decode cX9_handle 125 = .ok (.iadd, 1) := by decide +kernel
theorem dX9_handle_126 : decode cX9_handle 126 = .ok (.iaload, 1) := by decide +kernel
theorem dX9_handle_127 : decode cX9_handle 127 = .ok (.iadd, 1) := by decide +kernel
theorem dX9_handle_128 : decode cX9_handle 128 = .ok (.istore 9, 2) := by decide +kernel
theorem dX9_handle_130 : decode cX9_handle 130 = .ok (.aload_n 0, 1) := by decide +kernel
theorem dX9_handle_131 : decode cX9_handle 131 = .ok (.getfield 7, 3) := by decide +kernel
theorem dX9_handle_134 : decode cX9_handle 134 = .ok (.iload 9, 2) := by decide +kernel
theorem dX9_handle_136 : decode cX9_handle 136 = .ok (.iaload, 1) := by decide +kernel
theorem dX9_handle_137 : decode cX9_handle 137 = .ok (.istore 10, 2) := by decide +kernel
theorem dX9_handle_139 : decode cX9_handle 139 = .ok (.aload_n 0, 1) := by decide +kernel
theorem dX9_handle_140 : decode cX9_handle 140 = .ok (.getfield 7, 3) := by decide +kernel
theorem dX9_handle_143 : decode cX9_handle 143 = .ok (.iload 5, 2) := by decide +kernel
theorem dX9_handle_145 : decode cX9_handle 145 = .ok (.bipush 6, 2) := by decide +kernel
theorem dX9_handle_147 : decode cX9_handle 147 = .ok (.iadd, 1) := by decide +kernel
theorem dX9_handle_148 : decode cX9_handle 148 = .ok (.iaload, 1) := by decide +kernel
theorem dX9_handle_149 : decode cX9_handle 149 = .ok (.iconst 1, 1) := by decide +kernel
theorem dX9_handle_150 : decode cX9_handle 150 = .ok (.if_icmp .ne 7, 3) := by decide +kernel
theorem dX9_handle_153 : decode cX9_handle 153 = .ok (.iconst 1, 1) := by decide +kernel
theorem dX9_handle_154 : decode cX9_handle 154 = .ok (.goto 4, 3) := by decide +kernel
theorem dX9_handle_157 : decode cX9_handle 157 = .ok (.iconst 0, 1) := by decide +kernel
theorem dX9_handle_158 : decode cX9_handle 158 = .ok (.istore 11, 2) := by decide +kernel
theorem dX9_handle_160 : decode cX9_handle 160 = .ok (.aload_n 0, 1) := by decide +kernel
theorem dX9_handle_161 : decode cX9_handle 161 = .ok (.getfield 7, 3) := by decide +kernel
theorem dX9_handle_164 : decode cX9_handle 164 = .ok (.iload 4, 2) := by decide +kernel
theorem dX9_handle_166 : decode cX9_handle 166 = .ok (.iaload, 1) := by decide +kernel
theorem dX9_handle_167 : decode cX9_handle 167 = .ok (.bipush 114, 2) := by decide +kernel
theorem dX9_handle_169 : decode cX9_handle 169 = .ok (.if_icmp .ne 46, 3) := by decide +kernel
theorem dX9_handle_172 : decode cX9_handle 172 = .ok (.aload_n 0, 1) := by decide +kernel
theorem dX9_handle_173 : decode cX9_handle 173 = .ok (.getfield 35, 3) := by decide +kernel
theorem dX9_handle_176 : decode cX9_handle 176 = .ok (.iload 8, 2) := by decide +kernel
theorem dX9_handle_178 : decode cX9_handle 178 = .ok (.iload 6, 2) := by decide +kernel
theorem dX9_handle_180 : decode cX9_handle 180 = .ok (.bipush 98, 2) := by decide +kernel
theorem dX9_handle_182 : decode cX9_handle 182 = .ok (.if_icmp .ne 16, 3) := by decide +kernel
theorem dX9_handle_185 : decode cX9_handle 185 = .ok (.aload_n 0, 1) := by decide +kernel
theorem dX9_handle_186 : decode cX9_handle 186 = .ok (.getfield 35, 3) := by decide +kernel
theorem dX9_handle_189 : decode cX9_handle 189 = .ok (.iload 8, 2) := by decide +kernel
theorem dX9_handle_191 : decode cX9_handle 191 = .ok (.iaload, 1) := by decide +kernel
theorem dX9_handle_192 : decode cX9_handle 192 = .ok (.iload 10, 2) := by decide +kernel
theorem dX9_handle_194 : decode cX9_handle 194 = .ok (.ior, 1) := by decide +kernel
theorem dX9_handle_195 : decode cX9_handle 195 = .ok (.goto 5, 3) := by decide +kernel
theorem dX9_handle_198 : decode cX9_handle 198 = .ok (.iload 10, 2) := by decide +kernel
theorem dX9_handle_200 : decode cX9_handle 200 = .ok (.iastore, 1) := by decide +kernel
theorem dX9_handle_201 : decode cX9_handle 201 = .ok (.aload_n 0, 1) := by decide +kernel
theorem dX9_handle_202 : decode cX9_handle 202 = .ok (.getfield 38, 3) := by decide +kernel
theorem dX9_handle_205 : decode cX9_handle 205 = .ok (.iload 8, 2) := by decide +kernel
theorem dX9_handle_207 : decode cX9_handle 207 = .ok (.dup2, 1) := by decide +kernel
theorem dX9_handle_208 : decode cX9_handle 208 = .ok (.iaload, 1) := by decide +kernel
theorem dX9_handle_209 : decode cX9_handle 209 = .ok (.iconst 1, 1) := by decide +kernel
theorem dX9_handle_210 : decode cX9_handle 210 = .ok (.iadd, 1) := by decide +kernel
theorem dX9_handle_211 : decode cX9_handle 211 = .ok (.iastore, 1) := by decide +kernel
theorem dX9_handle_212 : decode cX9_handle 212 = .ok (.goto 115, 3) := by decide +kernel
theorem dX9_handle_215 : decode cX9_handle 215 = .ok (.aload_n 0, 1) := by decide +kernel
theorem dX9_handle_216 : decode cX9_handle 216 = .ok (.getfield 7, 3) := by decide +kernel
theorem dX9_handle_219 : decode cX9_handle 219 = .ok (.iload 4, 2) := by decide +kernel
theorem dX9_handle_221 : decode cX9_handle 221 = .ok (.iaload, 1) := by decide +kernel
theorem dX9_handle_222 : decode cX9_handle 222 = .ok (.bipush 119, 2) := by decide +kernel
theorem dX9_handle_224 : decode cX9_handle 224 = .ok (.if_icmp .ne 50, 3) := by decide +kernel
theorem dX9_handle_227 : decode cX9_handle 227 = .ok (.aload_n 0, 1) := by decide +kernel
theorem dX9_handle_228 : decode cX9_handle 228 = .ok (.getfield 7, 3) := by decide +kernel
theorem dX9_handle_231 : decode cX9_handle 231 = .ok (.iload 9, 2) := by decide +kernel
theorem dX9_handle_233 : decode cX9_handle 233 = .ok (.iload 11, 2) := by decide +kernel
theorem dX9_handle_235 : decode cX9_handle 235 = .ok (.ifCond .eq 8, 3) := by decide +kernel
theorem dX9_handle_238 : decode cX9_handle 238 = .ok (.iload 10, 2) := by decide +kernel
theorem dX9_handle_240 : decode cX9_handle 240 = .ok (.goto 10, 3) := by decide +kernel
theorem dX9_handle_243 : decode cX9_handle 243 = .ok (.aload_n 0, 1) := by decide +kernel
theorem dX9_handle_244 : decode cX9_handle 244 = .ok (.getfield 35, 3) := by decide +kernel
theorem dX9_handle_247 : decode cX9_handle 247 = .ok (.iload 8, 2) := by decide +kernel
theorem dX9_handle_249 : decode cX9_handle 249 = .ok (.iaload, 1) := by decide +kernel
theorem dX9_handle_250 : decode cX9_handle 250 = .ok (.iastore, 1) := by decide +kernel
theorem dX9_handle_251 : decode cX9_handle 251 = .ok (.aload_n 0, 1) := by decide +kernel
theorem dX9_handle_252 : decode cX9_handle 252 = .ok (.getfield 38, 3) := by decide +kernel
theorem dX9_handle_255 : decode cX9_handle 255 = .ok (.iload 8, 2) := by decide +kernel
theorem dX9_handle_257 : decode cX9_handle 257 = .ok (.dup2, 1) := by decide +kernel
theorem dX9_handle_258 : decode cX9_handle 258 = .ok (.iaload, 1) := by decide +kernel
theorem dX9_handle_259 : decode cX9_handle 259 = .ok (.iload 11, 2) := by decide +kernel
theorem dX9_handle_261 : decode cX9_handle 261 = .ok (.ifCond .eq 7, 3) := by decide +kernel
theorem dX9_handle_264 : decode cX9_handle 264 = .ok (.iconst 0, 1) := by decide +kernel
theorem dX9_handle_265 : decode cX9_handle 265 = .ok (.goto 4, 3) := by decide +kernel
theorem dX9_handle_268 : decode cX9_handle 268 = .ok (.iconst 1, 1) := by decide +kernel
theorem dX9_handle_269 : decode cX9_handle 269 = .ok (.iadd, 1) := by decide +kernel
theorem dX9_handle_270 : decode cX9_handle 270 = .ok (.iastore, 1) := by decide +kernel
theorem dX9_handle_271 : decode cX9_handle 271 = .ok (.goto 56, 3) := by decide +kernel
theorem dX9_handle_274 : decode cX9_handle 274 = .ok (.aload_n 0, 1) := by decide +kernel
theorem dX9_handle_275 : decode cX9_handle 275 = .ok (.getfield 7, 3) := by decide +kernel
theorem dX9_handle_278 : decode cX9_handle 278 = .ok (.iload 9, 2) := by decide +kernel
theorem dX9_handle_280 : decode cX9_handle 280 = .ok (.iload 11, 2) := by decide +kernel
theorem dX9_handle_282 : decode cX9_handle 282 = .ok (.ifCond .eq 8, 3) := by decide +kernel
theorem dX9_handle_285 : decode cX9_handle 285 = .ok (.iload 10, 2) := by decide +kernel
theorem dX9_handle_287 : decode cX9_handle 287 = .ok (.goto 10, 3) := by decide +kernel
theorem dX9_handle_290 : decode cX9_handle 290 = .ok (.aload_n 0, 1) := by decide +kernel
theorem dX9_handle_291 : decode cX9_handle 291 = .ok (.getfield 35, 3) := by decide +kernel
theorem dX9_handle_294 : decode cX9_handle 294 = .ok (.iload 8, 2) := by decide +kernel
theorem dX9_handle_296 : decode cX9_handle 296 = .ok (.iaload, 1) := by decide +kernel
theorem dX9_handle_297 : decode cX9_handle 297 = .ok (.iastore, 1) := by decide +kernel
theorem dX9_handle_298 : decode cX9_handle 298 = .ok (.aload_n 0, 1) := by decide +kernel
theorem dX9_handle_299 : decode cX9_handle 299 = .ok (.getfield 35, 3) := by decide +kernel
theorem dX9_handle_302 : decode cX9_handle 302 = .ok (.iload 8, 2) := by decide +kernel
theorem dX9_handle_304 : decode cX9_handle 304 = .ok (.iload 10, 2) := by decide +kernel
theorem dX9_handle_306 : decode cX9_handle 306 = .ok (.iastore, 1) := by decide +kernel
theorem dX9_handle_307 : decode cX9_handle 307 = .ok (.aload_n 0, 1) := by decide +kernel
theorem dX9_handle_308 : decode cX9_handle 308 = .ok (.getfield 38, 3) := by decide +kernel
theorem dX9_handle_311 : decode cX9_handle 311 = .ok (.iload 8, 2) := by decide +kernel
theorem dX9_handle_313 : decode cX9_handle 313 = .ok (.dup2, 1) := by decide +kernel
theorem dX9_handle_314 : decode cX9_handle 314 = .ok (.iaload, 1) := by decide +kernel
theorem dX9_handle_315 : decode cX9_handle 315 = .ok (.iload 11, 2) := by decide +kernel
theorem dX9_handle_317 : decode cX9_handle 317 = .ok (.ifCond .eq 7, 3) := by decide +kernel
theorem dX9_handle_320 : decode cX9_handle 320 = .ok (.iconst 1, 1) := by decide +kernel
theorem dX9_handle_321 : decode cX9_handle 321 = .ok (.goto 4, 3) := by decide +kernel
theorem dX9_handle_324 : decode cX9_handle 324 = .ok (.iconst 3, 1) := by decide +kernel
theorem dX9_handle_325 : decode cX9_handle 325 = .ok (.iadd, 1) := by decide +kernel
theorem dX9_handle_326 : decode cX9_handle 326 = .ok (.iastore, 1) := by decide +kernel
theorem dX9_handle_327 : decode cX9_handle 327 = .ok (.return_, 1) := by decide +kernel
theorem dX9_passThrough_0 : decode cX9_passThrough 0 = .ok (.iconst 0, 1) := by decide +kernel
theorem dX9_passThrough_1 : decode cX9_passThrough 1 = .ok (.istore 4, 2) := by decide +kernel
theorem dX9_passThrough_3 : decode cX9_passThrough 3 = .ok (.iload 4, 2) := by decide +kernel
theorem dX9_passThrough_5 : decode cX9_passThrough 5 = .ok (.aload_n 0, 1) := by decide +kernel
theorem dX9_passThrough_6 : decode cX9_passThrough 6 = .ok (.getfield 7, 3) := by decide +kernel
theorem dX9_passThrough_9 : decode cX9_passThrough 9 = .ok (.iconst 3, 1) := by decide +kernel
theorem dX9_passThrough_10 : decode cX9_passThrough 10 = .ok (.iaload, 1) := by decide +kernel
theorem dX9_passThrough_11 : decode cX9_passThrough 11 = .ok (.if_icmp .ge 30, 3) := by decide +kernel
theorem dX9_passThrough_14 : decode cX9_passThrough 14 = .ok (.aload_n 0, 1) := by decide +kernel
theorem dX9_passThrough_15 : decode cX9_passThrough 15 = .ok (.getfield 41, 3) := by decide +kernel
theorem dX9_passThrough_18 : decode cX9_passThrough 18 = .ok (.iload 4, 2) := by decide +kernel
theorem dX9_passThrough_20 : decode cX9_passThrough 20 = .ok (.aload_n 0, 1) := by decide +kernel
theorem dX9_passThrough_21 : decode cX9_passThrough 21 = .ok (.getfield 7, 3) := by decide +kernel
theorem dX9_passThrough_24 : decode cX9_passThrough 24 = .ok (.bipush 71, 2) := by decide +kernel
theorem dX9_passThrough_26 : decode cX9_passThrough 26 = .ok (.iconst 5, 1) := by decide +kernel
theorem dX9_passThrough_27 : decode cX9_passThrough 27 = .ok (.iload 4, 2) := by decide +kernel
theorem dX9_passThrough_29 : decode cX9_passThrough 29 = .ok (.imul, 1) := by decide +kernel
theorem dX9_passThrough_30 : decode cX9_passThrough 30 = .ok (.iadd, 1) := by decide +kernel
theorem dX9_passThrough_31 : decode cX9_passThrough 31 = .ok (.iconst 2, 1) := by decide +kernel
theorem dX9_passThrough_32 : decode cX9_passThrough 32 = .ok (.iadd, 1) := by decide +kernel
theorem dX9_passThrough_33 : decode cX9_passThrough 33 = .ok (.iaload, 1) := by decide +kernel
theorem dX9_passThrough_34 : decode cX9_passThrough 34 = .ok (.iastore, 1) := by decide +kernel
theorem dX9_passThrough_35 : decode cX9_passThrough 35 = .ok (.iinc 4 1, 3) := by decide +kernel
theorem dX9_passThrough_38 : decode cX9_passThrough 38 = .ok (.goto (-35), 3) := by decide +kernel
theorem dX9_passThrough_41 : decode cX9_passThrough 41 = .ok (.iload_n 2, 1) := by decide +kernel
theorem dX9_passThrough_42 : decode cX9_passThrough 42 = .ok (.istore 4, 2) := by decide +kernel
theorem dX9_passThrough_44 : decode cX9_passThrough 44 = .ok (.iload 4, 2) := by decide +kernel
theorem dX9_passThrough_46 : decode cX9_passThrough 46 = .ok (.iload_n 3, 1) := by decide +kernel
theorem dX9_passThrough_47 : decode cX9_passThrough 47 = .ok (.if_icmp .gt 38, 3) := by decide +kernel
theorem dX9_passThrough_50 : decode cX9_passThrough 50 = .ok (.iconst 0, 1) := by decide +kernel
theorem dX9_passThrough_51 : decode cX9_passThrough 51 = .ok (.istore 5, 2) := by decide +kernel
theorem dX9_passThrough_53 : decode cX9_passThrough 53 = .ok (.iload 5, 2) := by decide +kernel
theorem dX9_passThrough_55 : decode cX9_passThrough 55 = .ok (.aload_n 0, 1) := by decide +kernel
theorem dX9_passThrough_56 : decode cX9_passThrough 56 = .ok (.getfield 7, 3) := by decide +kernel
theorem dX9_passThrough_59 : decode cX9_passThrough 59 = .ok (.iconst 3, 1) := by decide +kernel
theorem dX9_passThrough_60 : decode cX9_passThrough 60 = .ok (.iaload, 1) := by decide +kernel
theorem dX9_passThrough_61 : decode cX9_passThrough 61 = .ok (.if_icmp .ge 18, 3) := by decide +kernel
theorem dX9_passThrough_64 : decode cX9_passThrough 64 = .ok (.aload_n 0, 1) := by decide +kernel
theorem dX9_passThrough_65 : decode cX9_passThrough 65 = .ok (.iload_n 1, 1) := by decide +kernel
theorem dX9_passThrough_66 : decode cX9_passThrough 66 = .ok (.iload 5, 2) := by decide +kernel
theorem dX9_passThrough_68 : decode cX9_passThrough 68 = .ok (.iload 4, 2) := by decide +kernel
theorem dX9_passThrough_70 : decode cX9_passThrough 70 = .ok (.invokevirtual 141, 3) := by decide +kernel
theorem dX9_passThrough_73 : decode cX9_passThrough 73 = .ok (.iinc 5 1, 3) := by decide +kernel
theorem dX9_passThrough_76 : decode cX9_passThrough 76 = .ok (.goto (-23), 3) := by decide +kernel
theorem dX9_passThrough_79 : decode cX9_passThrough 79 = .ok (.iinc 4 1, 3) := by decide +kernel
theorem dX9_passThrough_82 : decode cX9_passThrough 82 = .ok (.goto (-38), 3) := by decide +kernel
theorem dX9_passThrough_85 : decode cX9_passThrough 85 = .ok (.return_, 1) := by decide +kernel
theorem dX9_beginCopies_0 : decode cX9_beginCopies 0 = .ok (.iconst 0, 1) := by decide +kernel
theorem dX9_beginCopies_1 : decode cX9_beginCopies 1 = .ok (.istore_n 1, 1) := by decide +kernel
theorem dX9_beginCopies_2 : decode cX9_beginCopies 2 = .ok (.iload_n 1, 1) := by decide +kernel
theorem dX9_beginCopies_3 : decode cX9_beginCopies 3 = .ok (.bipush 6, 2) := by decide +kernel
theorem dX9_beginCopies_5 : decode cX9_beginCopies 5 = .ok (.if_icmp .ge 16, 3) := by decide +kernel
theorem dX9_beginCopies_8 : decode cX9_beginCopies 8 = .ok (.aload_n 0, 1) := by decide +kernel
theorem dX9_beginCopies_9 : decode cX9_beginCopies 9 = .ok (.getfield 44, 3) := by decide +kernel
theorem dX9_beginCopies_12 : decode cX9_beginCopies 12 = .ok (.iload_n 1, 1) := by decide +kernel
theorem dX9_beginCopies_13 : decode cX9_beginCopies 13 = .ok (.iconst 0, 1) := by decide +kernel
theorem dX9_beginCopies_14 : decode cX9_beginCopies 14 = .ok (.bastore, 1) := by decide +kernel
theorem dX9_beginCopies_15 : decode cX9_beginCopies 15 = .ok (.iinc 1 1, 3) := by decide +kernel
theorem dX9_beginCopies_18 : decode cX9_beginCopies 18 = .ok (.goto (-16), 3) := by decide +kernel
theorem dX9_beginCopies_21 : decode cX9_beginCopies 21 = .ok (.iconst 0, 1) := by decide +kernel
theorem dX9_beginCopies_22 : decode cX9_beginCopies 22 = .ok (.istore_n 1, 1) := by decide +kernel
theorem dX9_beginCopies_23 : decode cX9_beginCopies 23 = .ok (.iload_n 1, 1) := by decide +kernel
theorem dX9_beginCopies_24 : decode cX9_beginCopies 24 = .ok (.bipush 8, 2) := by decide +kernel
theorem dX9_beginCopies_26 : decode cX9_beginCopies 26 = .ok (.if_icmp .ge 37, 3) := by decide +kernel
theorem dX9_beginCopies_29 : decode cX9_beginCopies 29 = .ok (.aload_n 0, 1) := by decide +kernel
theorem dX9_beginCopies_30 : decode cX9_beginCopies 30 = .ok (.getfield 35, 3) := by decide +kernel
theorem dX9_beginCopies_33 : decode cX9_beginCopies 33 = .ok (.iload_n 1, 1) := by decide +kernel
theorem dX9_beginCopies_34 : decode cX9_beginCopies 34 = .ok (.aload_n 0, 1) := by decide +kernel
theorem dX9_beginCopies_35 : decode cX9_beginCopies 35 = .ok (.getfield 7, 3) := by decide +kernel
theorem dX9_beginCopies_38 : decode cX9_beginCopies 38 = .ok (.bipush 71, 2) := by decide +kernel
theorem dX9_beginCopies_40 : decode cX9_beginCopies 40 = .ok (.iconst 5, 1) := by decide +kernel
theorem dX9_beginCopies_41 : decode cX9_beginCopies 41 = .ok (.iload_n 1, 1) := by decide +kernel
theorem dX9_beginCopies_42 : decode cX9_beginCopies 42 = .ok (.iconst 4, 1) := by decide +kernel
theorem dX9_beginCopies_43 : decode cX9_beginCopies 43 = .ok (.irem, 1) := by decide +kernel
theorem dX9_beginCopies_44 : decode cX9_beginCopies 44 = .ok (.imul, 1) := by decide +kernel
theorem dX9_beginCopies_45 : decode cX9_beginCopies 45 = .ok (.iadd, 1) := by decide +kernel
theorem dX9_beginCopies_46 : decode cX9_beginCopies 46 = .ok (.iconst 4, 1) := by decide +kernel
theorem dX9_beginCopies_47 : decode cX9_beginCopies 47 = .ok (.iadd, 1) := by decide +kernel
theorem dX9_beginCopies_48 : decode cX9_beginCopies 48 = .ok (.iaload, 1) := by decide +kernel
theorem dX9_beginCopies_49 : decode cX9_beginCopies 49 = .ok (.iastore, 1) := by decide +kernel
theorem dX9_beginCopies_50 : decode cX9_beginCopies 50 = .ok (.aload_n 0, 1) := by decide +kernel
theorem dX9_beginCopies_51 : decode cX9_beginCopies 51 = .ok (.getfield 38, 3) := by decide +kernel
theorem dX9_beginCopies_54 : decode cX9_beginCopies 54 = .ok (.iload_n 1, 1) := by decide +kernel
theorem dX9_beginCopies_55 : decode cX9_beginCopies 55 = .ok (.iconst 0, 1) := by decide +kernel
theorem dX9_beginCopies_56 : decode cX9_beginCopies 56 = .ok (.iastore, 1) := by decide +kernel
theorem dX9_beginCopies_57 : decode cX9_beginCopies 57 = .ok (.iinc 1 1, 3) := by decide +kernel
theorem dX9_beginCopies_60 : decode cX9_beginCopies 60 = .ok (.goto (-37), 3) := by decide +kernel
theorem dX9_beginCopies_63 : decode cX9_beginCopies 63 = .ok (.return_, 1) := by decide +kernel
theorem dX9_send_0 : decode cX9_send 0 = .ok (.aload_n 0, 1) := by decide +kernel
theorem dX9_send_1 : decode cX9_send 1 = .ok (.invokevirtual 145, 3) := by decide +kernel
theorem dX9_send_4 : decode cX9_send 4 = .ok (.aload_n 0, 1) := by decide +kernel
theorem dX9_send_5 : decode cX9_send 5 = .ok (.iconst 0, 1) := by decide +kernel
theorem dX9_send_6 : decode cX9_send 6 = .ok (.iconst 0, 1) := by decide +kernel
theorem dX9_send_7 : decode cX9_send 7 = .ok (.aload_n 0, 1) := by decide +kernel
theorem dX9_send_8 : decode cX9_send 8 = .ok (.iload_n 1, 1) := by decide +kernel
theorem dX9_send_9 : decode cX9_send 9 = .ok (.invokevirtual 134, 3) := by decide +kernel
theorem dX9_send_12 : decode cX9_send 12 = .ok (.invokevirtual 148, 3) := by decide +kernel
theorem dX9_send_15 : decode cX9_send 15 = .ok (.aload_n 0, 1) := by decide +kernel
theorem dX9_send_16 : decode cX9_send 16 = .ok (.iconst 1, 1) := by decide +kernel
theorem dX9_send_17 : decode cX9_send 17 = .ok (.aload_n 0, 1) := by decide +kernel
theorem dX9_send_18 : decode cX9_send 18 = .ok (.iload_n 1, 1) := by decide +kernel
theorem dX9_send_19 : decode cX9_send 19 = .ok (.invokevirtual 138, 3) := by decide +kernel
theorem dX9_send_22 : decode cX9_send 22 = .ok (.aload_n 0, 1) := by decide +kernel
theorem dX9_send_23 : decode cX9_send 23 = .ok (.getfield 7, 3) := by decide +kernel
theorem dX9_send_26 : decode cX9_send 26 = .ok (.iconst 0, 1) := by decide +kernel
theorem dX9_send_27 : decode cX9_send 27 = .ok (.iaload, 1) := by decide +kernel
theorem dX9_send_28 : decode cX9_send 28 = .ok (.iconst 1, 1) := by decide +kernel
theorem dX9_send_29 : decode cX9_send 29 = .ok (.isub, 1) := by decide +kernel
theorem dX9_send_30 : decode cX9_send 30 = .ok (.invokevirtual 148, 3) := by decide +kernel
theorem dX9_send_33 : decode cX9_send 33 = .ok (.return_, 1) := by decide +kernel
theorem dX9_countOf_0 : decode cX9_countOf 0 = .ok (.iload_n 1, 1) := by decide +kernel
theorem dX9_countOf_1 : decode cX9_countOf 1 = .ok (.aload_n 0, 1) := by decide +kernel
theorem dX9_countOf_2 : decode cX9_countOf 2 = .ok (.getfield 7, 3) := by decide +kernel
theorem dX9_countOf_5 : decode cX9_countOf 5 = .ok (.iconst 3, 1) := by decide +kernel
theorem dX9_countOf_6 : decode cX9_countOf 6 = .ok (.iaload, 1) := by decide +kernel
theorem dX9_countOf_7 : decode cX9_countOf 7 = .ok (.if_icmp .ge 21, 3) := by decide +kernel
theorem dX9_countOf_10 : decode cX9_countOf 10 = .ok (.aload_n 0, 1) := by decide +kernel
theorem dX9_countOf_11 : decode cX9_countOf 11 = .ok (.getfield 38, 3) := by decide +kernel
theorem dX9_countOf_14 : decode cX9_countOf 14 = .ok (.iload_n 1, 1) := by decide +kernel
theorem dX9_countOf_15 : decode cX9_countOf 15 = .ok (.iaload, 1) := by decide +kernel
theorem dX9_countOf_16 : decode cX9_countOf 16 = .ok (.aload_n 0, 1) := by decide +kernel
theorem dX9_countOf_17 : decode cX9_countOf 17 = .ok (.getfield 38, 3) := by decide +kernel
theorem dX9_countOf_20 : decode cX9_countOf 20 = .ok (.iconst 4, 1) := by decide +kernel
theorem dX9_countOf_21 : decode cX9_countOf 21 = .ok (.iload_n 1, 1) := by decide +kernel
theorem dX9_countOf_22 : decode cX9_countOf 22 = .ok (.iadd, 1) := by decide +kernel
theorem dX9_countOf_23 : decode cX9_countOf 23 = .ok (.iaload, 1) := by decide +kernel
theorem dX9_countOf_24 : decode cX9_countOf 24 = .ok (.iadd, 1) := by decide +kernel
theorem dX9_countOf_25 : decode cX9_countOf 25 = .ok (.goto 4, 3) := by decide +kernel
theorem dX9_countOf_28 : decode cX9_countOf 28 = .ok (.iconst 0, 1) := by decide +kernel
theorem dX9_countOf_29 : decode cX9_countOf 29 = .ok (.ireturn, 1) := by decide +kernel
theorem dX9_dataOf_0 : decode cX9_dataOf 0 = .ok (.aload_n 0, 1) := by decide +kernel
theorem dX9_dataOf_1 : decode cX9_dataOf 1 = .ok (.getfield 7, 3) := by decide +kernel
theorem dX9_dataOf_4 : decode cX9_dataOf 4 = .ok (.bipush 71, 2) := by decide +kernel
theorem dX9_dataOf_6 : decode cX9_dataOf 6 = .ok (.iconst 5, 1) := by decide +kernel
theorem dX9_dataOf_7 : decode cX9_dataOf 7 = .ok (.iload_n 1, 1) := by decide +kernel
theorem dX9_dataOf_8 : decode cX9_dataOf 8 = .ok (.imul, 1) := by decide +kernel
theorem dX9_dataOf_9 : decode cX9_dataOf 9 = .ok (.iadd, 1) := by decide +kernel
theorem dX9_dataOf_10 : decode cX9_dataOf 10 = .ok (.iaload, 1) := by decide +kernel
theorem dX9_dataOf_11 : decode cX9_dataOf 11 = .ok (.bipush 114, 2) := by decide +kernel
theorem dX9_dataOf_13 : decode cX9_dataOf 13 = .ok (.if_icmp .ne 25, 3) := by decide +kernel
theorem dX9_dataOf_16 : decode cX9_dataOf 16 = .ok (.aload_n 0, 1) := by decide +kernel
theorem dX9_dataOf_17 : decode cX9_dataOf 17 = .ok (.getfield 7, 3) := by decide +kernel
theorem dX9_dataOf_20 : decode cX9_dataOf 20 = .ok (.bipush 71, 2) := by decide +kernel
theorem dX9_dataOf_22 : decode cX9_dataOf 22 = .ok (.iconst 5, 1) := by decide +kernel
theorem dX9_dataOf_23 : decode cX9_dataOf 23 = .ok (.iload_n 1, 1) := by decide +kernel
theorem dX9_dataOf_24 : decode cX9_dataOf 24 = .ok (.imul, 1) := by decide +kernel
theorem dX9_dataOf_25 : decode cX9_dataOf 25 = .ok (.iadd, 1) := by decide +kernel
theorem dX9_dataOf_26 : decode cX9_dataOf 26 = .ok (.iconst 1, 1) := by decide +kernel
theorem dX9_dataOf_27 : decode cX9_dataOf 27 = .ok (.iadd, 1) := by decide +kernel
theorem dX9_dataOf_28 : decode cX9_dataOf 28 = .ok (.iaload, 1) := by decide +kernel
theorem dX9_dataOf_29 : decode cX9_dataOf 29 = .ok (.bipush 98, 2) := by decide +kernel
theorem dX9_dataOf_31 : decode cX9_dataOf 31 = .ok (.if_icmp .ne 7, 3) := by decide +kernel
theorem dX9_dataOf_34 : decode cX9_dataOf 34 = .ok (.iconst 1, 1) := by decide +kernel
theorem dX9_dataOf_35 : decode cX9_dataOf 35 = .ok (.goto 4, 3) := by decide +kernel
theorem dX9_dataOf_38 : decode cX9_dataOf 38 = .ok (.iconst 0, 1) := by decide +kernel
theorem dX9_dataOf_39 : decode cX9_dataOf 39 = .ok (.istore_n 2, 1) := by decide +kernel
theorem dX9_dataOf_40 : decode cX9_dataOf 40 = .ok (.iload_n 2, 1) := by decide +kernel
theorem dX9_dataOf_41 : decode cX9_dataOf 41 = .ok (.ifCond .eq 21, 3) := by decide +kernel
theorem dX9_dataOf_44 : decode cX9_dataOf 44 = .ok (.aload_n 0, 1) := by decide +kernel
theorem dX9_dataOf_45 : decode cX9_dataOf 45 = .ok (.getfield 35, 3) := by decide +kernel
theorem dX9_dataOf_48 : decode cX9_dataOf 48 = .ok (.iload_n 1, 1) := by decide +kernel
theorem dX9_dataOf_49 : decode cX9_dataOf 49 = .ok (.iaload, 1) := by decide +kernel
theorem dX9_dataOf_50 : decode cX9_dataOf 50 = .ok (.aload_n 0, 1) := by decide +kernel
theorem dX9_dataOf_51 : decode cX9_dataOf 51 = .ok (.getfield 35, 3) := by decide +kernel
theorem dX9_dataOf_54 : decode cX9_dataOf 54 = .ok (.iconst 4, 1) := by decide +kernel
theorem dX9_dataOf_55 : decode cX9_dataOf 55 = .ok (.iload_n 1, 1) := by decide +kernel
theorem dX9_dataOf_56 : decode cX9_dataOf 56 = .ok (.iadd, 1) := by decide +kernel
theorem dX9_dataOf_57 : decode cX9_dataOf 57 = .ok (.iaload, 1) := by decide +kernel
theorem dX9_dataOf_58 : decode cX9_dataOf 58 = .ok (.ior, 1) := by decide +kernel
theorem dX9_dataOf_59 : decode cX9_dataOf 59 = .ok (.goto 31, 3) := by decide +kernel
theorem dX9_dataOf_62 : decode cX9_dataOf 62 = .ok (.aload_n 0, 1) := by decide +kernel
theorem dX9_dataOf_63 : decode cX9_dataOf 63 = .ok (.getfield 38, 3) := by decide +kernel
theorem dX9_dataOf_66 : decode cX9_dataOf 66 = .ok (.iconst 4, 1) := by decide +kernel
theorem dX9_dataOf_67 : decode cX9_dataOf 67 = .ok (.iload_n 1, 1) := by decide +kernel
theorem dX9_dataOf_68 : decode cX9_dataOf 68 = .ok (.iadd, 1) := by decide +kernel
theorem dX9_dataOf_69 : decode cX9_dataOf 69 = .ok (.iaload, 1) := by decide +kernel
theorem dX9_dataOf_70 : decode cX9_dataOf 70 = .ok (.ifCond .le 14, 3) := by decide +kernel
theorem dX9_dataOf_73 : decode cX9_dataOf 73 = .ok (.aload_n 0, 1) := by decide +kernel
theorem dX9_dataOf_74 : decode cX9_dataOf 74 = .ok (.getfield 35, 3) := by decide +kernel
theorem dX9_dataOf_77 : decode cX9_dataOf 77 = .ok (.iconst 4, 1) := by decide +kernel
theorem dX9_dataOf_78 : decode cX9_dataOf 78 = .ok (.iload_n 1, 1) := by decide +kernel
theorem dX9_dataOf_79 : decode cX9_dataOf 79 = .ok (.iadd, 1) := by decide +kernel
theorem dX9_dataOf_80 : decode cX9_dataOf 80 = .ok (.iaload, 1) := by decide +kernel
theorem dX9_dataOf_81 : decode cX9_dataOf 81 = .ok (.goto 9, 3) := by decide +kernel
theorem dX9_dataOf_84 : decode cX9_dataOf 84 = .ok (.aload_n 0, 1) := by decide +kernel
theorem dX9_dataOf_85 : decode cX9_dataOf 85 = .ok (.getfield 35, 3) := by decide +kernel
theorem dX9_dataOf_88 : decode cX9_dataOf 88 = .ok (.iload_n 1, 1) := by decide +kernel
theorem dX9_dataOf_89 : decode cX9_dataOf 89 = .ok (.iaload, 1) := by decide +kernel
theorem dX9_dataOf_90 : decode cX9_dataOf 90 = .ok (.ireturn, 1) := by decide +kernel
theorem dX9_findFacts_0 : decode cX9_findFacts 0 = .ok (.aload_n 0, 1) := by decide +kernel
theorem dX9_findFacts_1 : decode cX9_findFacts 1 = .ok (.getfield 7, 3) := by decide +kernel
theorem dX9_findFacts_4 : decode cX9_findFacts 4 = .ok (.iconst 0, 1) := by decide +kernel
theorem dX9_findFacts_5 : decode cX9_findFacts 5 = .ok (.aload_n 0, 1) := by decide +kernel
theorem dX9_findFacts_6 : decode cX9_findFacts 6 = .ok (.getfield 50, 3) := by decide +kernel
theorem dX9_findFacts_9 : decode cX9_findFacts 9 = .ok (.iconst 0, 1) := by decide +kernel
theorem dX9_findFacts_10 : decode cX9_findFacts 10 = .ok (.invokestatic 59, 3) := by decide +kernel
theorem dX9_findFacts_13 : decode cX9_findFacts 13 = .ok (.aload_n 0, 1) := by decide +kernel
theorem dX9_findFacts_14 : decode cX9_findFacts 14 = .ok (.iload_n 1, 1) := by decide +kernel
theorem dX9_findFacts_15 : decode cX9_findFacts 15 = .ok (.invokevirtual 151, 3) := by decide +kernel
theorem dX9_findFacts_18 : decode cX9_findFacts 18 = .ok (.aload_n 0, 1) := by decide +kernel
theorem dX9_findFacts_19 : decode cX9_findFacts 19 = .ok (.getfield 50, 3) := by decide +kernel
theorem dX9_findFacts_22 : decode cX9_findFacts 22 = .ok (.iconst 0, 1) := by decide +kernel
theorem dX9_findFacts_23 : decode cX9_findFacts 23 = .ok (.aload_n 0, 1) := by decide +kernel
theorem dX9_findFacts_24 : decode cX9_findFacts 24 = .ok (.getfield 7, 3) := by decide +kernel
theorem dX9_findFacts_27 : decode cX9_findFacts 27 = .ok (.iconst 0, 1) := by decide +kernel
theorem dX9_findFacts_28 : decode cX9_findFacts 28 = .ok (.invokestatic 59, 3) := by decide +kernel
theorem dX9_findFacts_31 : decode cX9_findFacts 31 = .ok (.iconst 0, 1) := by decide +kernel
theorem dX9_findFacts_32 : decode cX9_findFacts 32 = .ok (.istore_n 2, 1) := by decide +kernel
theorem dX9_findFacts_33 : decode cX9_findFacts 33 = .ok (.iload_n 2, 1) := by decide +kernel
theorem dX9_findFacts_34 : decode cX9_findFacts 34 = .ok (.bipush 6, 2) := by decide +kernel
theorem dX9_findFacts_36 : decode cX9_findFacts 36 = .ok (.if_icmp .ge 36, 3) := by decide +kernel
theorem dX9_findFacts_39 : decode cX9_findFacts 39 = .ok (.aload_n 0, 1) := by decide +kernel
theorem dX9_findFacts_40 : decode cX9_findFacts 40 = .ok (.getfield 47, 3) := by decide +kernel
theorem dX9_findFacts_43 : decode cX9_findFacts 43 = .ok (.iload_n 2, 1) := by decide +kernel
theorem dX9_findFacts_44 : decode cX9_findFacts 44 = .ok (.iload_n 2, 1) := by decide +kernel
theorem dX9_findFacts_45 : decode cX9_findFacts 45 = .ok (.iconst 4, 1) := by decide +kernel
theorem dX9_findFacts_46 : decode cX9_findFacts 46 = .ok (.if_icmp .ge 11, 3) := by decide +kernel
theorem dX9_findFacts_49 : decode cX9_findFacts 49 = .ok (.aload_n 0, 1) := by decide +kernel
theorem dX9_findFacts_50 : decode cX9_findFacts 50 = .ok (.iload_n 2, 1) := by decide +kernel
theorem dX9_findFacts_51 : decode cX9_findFacts 51 = .ok (.invokevirtual 155, 3) := by decide +kernel
theorem dX9_findFacts_54 : decode cX9_findFacts 54 = .ok (.goto 11, 3) := by decide +kernel
theorem dX9_findFacts_57 : decode cX9_findFacts 57 = .ok (.aload_n 0, 1) := by decide +kernel
theorem dX9_findFacts_58 : decode cX9_findFacts 58 = .ok (.iload_n 2, 1) := by decide +kernel
theorem dX9_findFacts_59 : decode cX9_findFacts 59 = .ok (.iconst 4, 1) := by decide +kernel
theorem dX9_findFacts_60 : decode cX9_findFacts 60 = .ok (.isub, 1) := by decide +kernel
theorem dX9_findFacts_61 : decode cX9_findFacts 61 = .ok (.iload_n 1, 1) := by decide +kernel
theorem dX9_findFacts_62 : decode cX9_findFacts 62 = .ok (.invokevirtual 158, 3) := by decide +kernel
theorem dX9_findFacts_65 : decode cX9_findFacts 65 = .ok (.iastore, 1) := by decide +kernel
theorem dX9_findFacts_66 : decode cX9_findFacts 66 = .ok (.iinc 2 1, 3) := by decide +kernel
theorem dX9_findFacts_69 : decode cX9_findFacts 69 = .ok (.goto (-36), 3) := by decide +kernel
theorem dX9_findFacts_72 : decode cX9_findFacts 72 = .ok (.return_, 1) := by decide +kernel
theorem dX9_cycleOnce_0 : decode cX9_cycleOnce 0 = .ok (.aload_n 0, 1) := by decide +kernel
theorem dX9_cycleOnce_1 : decode cX9_cycleOnce 1 = .ok (.getfield 7, 3) := by decide +kernel
theorem dX9_cycleOnce_4 : decode cX9_cycleOnce 4 = .ok (.bipush 8, 2) := by decide +kernel
theorem dX9_cycleOnce_6 : decode cX9_cycleOnce 6 = .ok (.iaload, 1) := by decide +kernel
theorem dX9_cycleOnce_7 : decode cX9_cycleOnce 7 = .ok (.iconst 1, 1) := by decide +kernel
theorem dX9_cycleOnce_8 : decode cX9_cycleOnce 8 = .ok (.if_icmp .ne 27, 3) := by decide +kernel
theorem dX9_cycleOnce_11 : decode cX9_cycleOnce 11 = .ok (.aload_n 0, 1) := by decide +kernel
theorem dX9_cycleOnce_12 : decode cX9_cycleOnce 12 = .ok (.invokevirtual 145, 3) := by decide +kernel
theorem dX9_cycleOnce_15 : decode cX9_cycleOnce 15 = .ok (.aload_n 0, 1) := by decide +kernel
theorem dX9_cycleOnce_16 : decode cX9_cycleOnce 16 = .ok (.getfield 7, 3) := by decide +kernel
theorem dX9_cycleOnce_19 : decode cX9_cycleOnce 19 = .ok (.iconst 5, 1) := by decide +kernel
theorem dX9_cycleOnce_20 : decode cX9_cycleOnce 20 = .ok (.bipush (-9), 2) := by decide +kernel
theorem dX9_cycleOnce_22 : decode cX9_cycleOnce 22 = .ok (.iastore, 1) := by decide +kernel
theorem dX9_cycleOnce_23 : decode cX9_cycleOnce 23 = .ok (.aload_n 0, 1) := by decide +kernel
theorem dX9_cycleOnce_24 : decode cX9_cycleOnce 24 = .ok (.getfield 7, 3) := by decide +kernel
theorem dX9_cycleOnce_27 : decode cX9_cycleOnce 27 = .ok (.bipush 6, 2) := by decide +kernel
theorem dX9_cycleOnce_29 : decode cX9_cycleOnce 29 = .ok (.bipush (-9), 2) := by decide +kernel
theorem dX9_cycleOnce_31 : decode cX9_cycleOnce 31 = .ok (.iastore, 1) := by decide +kernel
theorem dX9_cycleOnce_32 : decode cX9_cycleOnce 32 = .ok (.goto 51, 3) := by decide +kernel
theorem dX9_cycleOnce_35 : decode cX9_cycleOnce 35 = .ok (.aload_n 0, 1) := by decide +kernel
theorem dX9_cycleOnce_36 : decode cX9_cycleOnce 36 = .ok (.aload_n 0, 1) := by decide +kernel
theorem dX9_cycleOnce_37 : decode cX9_cycleOnce 37 = .ok (.getfield 7, 3) := by decide +kernel
theorem dX9_cycleOnce_40 : decode cX9_cycleOnce 40 = .ok (.bipush 16, 2) := by decide +kernel
theorem dX9_cycleOnce_42 : decode cX9_cycleOnce 42 = .ok (.iaload, 1) := by decide +kernel
theorem dX9_cycleOnce_43 : decode cX9_cycleOnce 43 = .ok (.invokevirtual 151, 3) := by decide +kernel
theorem dX9_cycleOnce_46 : decode cX9_cycleOnce 46 = .ok (.aload_n 0, 1) := by decide +kernel
theorem dX9_cycleOnce_47 : decode cX9_cycleOnce 47 = .ok (.getfield 7, 3) := by decide +kernel
theorem dX9_cycleOnce_50 : decode cX9_cycleOnce 50 = .ok (.iconst 5, 1) := by decide +kernel
theorem dX9_cycleOnce_51 : decode cX9_cycleOnce 51 = .ok (.aload_n 0, 1) := by decide +kernel
theorem dX9_cycleOnce_52 : decode cX9_cycleOnce 52 = .ok (.iconst 0, 1) := by decide +kernel
theorem dX9_cycleOnce_53 : decode cX9_cycleOnce 53 = .ok (.aload_n 0, 1) := by decide +kernel
theorem dX9_cycleOnce_54 : decode cX9_cycleOnce 54 = .ok (.getfield 7, 3) := by decide +kernel
theorem dX9_cycleOnce_57 : decode cX9_cycleOnce 57 = .ok (.bipush 16, 2) := by decide +kernel
theorem dX9_cycleOnce_59 : decode cX9_cycleOnce 59 = .ok (.iaload, 1) := by decide +kernel
theorem dX9_cycleOnce_60 : decode cX9_cycleOnce 60 = .ok (.invokevirtual 158, 3) := by decide +kernel
theorem dX9_cycleOnce_63 : decode cX9_cycleOnce 63 = .ok (.iastore, 1) := by decide +kernel
theorem dX9_cycleOnce_64 : decode cX9_cycleOnce 64 = .ok (.aload_n 0, 1) := by decide +kernel
theorem dX9_cycleOnce_65 : decode cX9_cycleOnce 65 = .ok (.getfield 7, 3) := by decide +kernel
theorem dX9_cycleOnce_68 : decode cX9_cycleOnce 68 = .ok (.bipush 6, 2) := by decide +kernel
theorem dX9_cycleOnce_70 : decode cX9_cycleOnce 70 = .ok (.aload_n 0, 1) := by decide +kernel
theorem dX9_cycleOnce_71 : decode cX9_cycleOnce 71 = .ok (.iconst 1, 1) := by decide +kernel
theorem dX9_cycleOnce_72 : decode cX9_cycleOnce 72 = .ok (.aload_n 0, 1) := by decide +kernel
theorem dX9_cycleOnce_73 : decode cX9_cycleOnce 73 = .ok (.getfield 7, 3) := by decide +kernel
theorem dX9_cycleOnce_76 : decode cX9_cycleOnce 76 = .ok (.bipush 16, 2) := by decide +kernel
theorem dX9_cycleOnce_78 : decode cX9_cycleOnce 78 = .ok (.iaload, 1) := by decide +kernel
theorem dX9_cycleOnce_79 : decode cX9_cycleOnce 79 = .ok (.invokevirtual 158, 3) := by decide +kernel
theorem dX9_cycleOnce_82 : decode cX9_cycleOnce 82 = .ok (.iastore, 1) := by decide +kernel
theorem dX9_cycleOnce_83 : decode cX9_cycleOnce 83 = .ok (.iconst 0, 1) := by decide +kernel
theorem dX9_cycleOnce_84 : decode cX9_cycleOnce 84 = .ok (.istore_n 1, 1) := by decide +kernel
theorem dX9_cycleOnce_85 : decode cX9_cycleOnce 85 = .ok (.iload_n 1, 1) := by decide +kernel
theorem dX9_cycleOnce_86 : decode cX9_cycleOnce 86 = .ok (.aload_n 0, 1) := by decide +kernel
theorem dX9_cycleOnce_87 : decode cX9_cycleOnce 87 = .ok (.getfield 7, 3) := by decide +kernel
theorem dX9_cycleOnce_90 : decode cX9_cycleOnce 90 = .ok (.iconst 3, 1) := by decide +kernel
theorem dX9_cycleOnce_91 : decode cX9_cycleOnce 91 = .ok (.iaload, 1) := by decide +kernel
theorem dX9_cycleOnce_92 : decode cX9_cycleOnce 92 = .ok (.if_icmp .ge 43, 3) := by decide +kernel
theorem dX9_cycleOnce_95 : decode cX9_cycleOnce 95 = .ok (.aload_n 0, 1) := by decide +kernel
theorem dX9_cycleOnce_96 : decode cX9_cycleOnce 96 = .ok (.getfield 7, 3) := by decide +kernel
theorem dX9_cycleOnce_99 : decode cX9_cycleOnce 99 = .ok (.bipush 91, 2) := by decide +kernel
theorem dX9_cycleOnce_101 : decode cX9_cycleOnce 101 = .ok (.iconst 2, 1) := by decide +kernel
theorem dX9_cycleOnce_102 : decode cX9_cycleOnce 102 = .ok (.iload_n 1, 1) := by decide +kernel
theorem dX9_cycleOnce_103 : decode cX9_cycleOnce 103 = .ok (.imul, 1) := by decide +kernel
theorem dX9_cycleOnce_104 : decode cX9_cycleOnce 104 = .ok (.iadd, 1) := by decide +kernel
theorem dX9_cycleOnce_105 : decode cX9_cycleOnce 105 = .ok (.aload_n 0, 1) := by decide +kernel
theorem dX9_cycleOnce_106 : decode cX9_cycleOnce 106 = .ok (.iload_n 1, 1) := by decide +kernel
theorem dX9_cycleOnce_107 : decode cX9_cycleOnce 107 = .ok (.invokevirtual 155, 3) := by decide +kernel
theorem dX9_cycleOnce_110 : decode cX9_cycleOnce 110 = .ok (.iastore, 1) := by decide +kernel
theorem dX9_cycleOnce_111 : decode cX9_cycleOnce 111 = .ok (.aload_n 0, 1) := by decide +kernel
theorem dX9_cycleOnce_112 : decode cX9_cycleOnce 112 = .ok (.getfield 7, 3) := by decide +kernel
theorem dX9_cycleOnce_115 : decode cX9_cycleOnce 115 = .ok (.bipush 91, 2) := by decide +kernel
theorem dX9_cycleOnce_117 : decode cX9_cycleOnce 117 = .ok (.iconst 2, 1) := by decide +kernel
theorem dX9_cycleOnce_118 : decode cX9_cycleOnce 118 = .ok (.iload_n 1, 1) := by decide +kernel
theorem dX9_cycleOnce_119 : decode cX9_cycleOnce 119 = .ok (.imul, 1) := by decide +kernel
theorem dX9_cycleOnce_120 : decode cX9_cycleOnce 120 = .ok (.iadd, 1) := by decide +kernel
theorem dX9_cycleOnce_121 : decode cX9_cycleOnce 121 = .ok (.iconst 1, 1) := by decide +kernel
theorem dX9_cycleOnce_122 : decode cX9_cycleOnce 122 = .ok (.iadd, 1) := by decide +kernel
theorem dX9_cycleOnce_123 : decode cX9_cycleOnce 123 = .ok (.aload_n 0, 1) := by decide +kernel
theorem dX9_cycleOnce_124 : decode cX9_cycleOnce 124 = .ok (.iload_n 1, 1) := by decide +kernel
theorem dX9_cycleOnce_125 : decode cX9_cycleOnce 125 = .ok (.invokevirtual 161, 3) := by decide +kernel
theorem dX9_cycleOnce_128 : decode cX9_cycleOnce 128 = .ok (.iastore, 1) := by decide +kernel
theorem dX9_cycleOnce_129 : decode cX9_cycleOnce 129 = .ok (.iinc 1 1, 3) := by decide +kernel
theorem dX9_cycleOnce_132 : decode cX9_cycleOnce 132 = .ok (.goto (-47), 3) := by decide +kernel
theorem dX9_cycleOnce_135 : decode cX9_cycleOnce 135 = .ok (.aload_n 0, 1) := by decide +kernel
theorem dX9_cycleOnce_136 : decode cX9_cycleOnce 136 = .ok (.getfield 7, 3) := by decide +kernel
theorem dX9_cycleOnce_139 : decode cX9_cycleOnce 139 = .ok (.iconst 4, 1) := by decide +kernel
theorem dX9_cycleOnce_140 : decode cX9_cycleOnce 140 = .ok (.iconst 1, 1) := by decide +kernel
theorem dX9_cycleOnce_141 : decode cX9_cycleOnce 141 = .ok (.iastore, 1) := by decide +kernel
theorem dX9_cycleOnce_142 : decode cX9_cycleOnce 142 = .ok (.aload_n 0, 1) := by decide +kernel
theorem dX9_cycleOnce_143 : decode cX9_cycleOnce 143 = .ok (.getfield 7, 3) := by decide +kernel
theorem dX9_cycleOnce_146 : decode cX9_cycleOnce 146 = .ok (.bipush 8, 2) := by decide +kernel
theorem dX9_cycleOnce_148 : decode cX9_cycleOnce 148 = .ok (.iconst 0, 1) := by decide +kernel
theorem dX9_cycleOnce_149 : decode cX9_cycleOnce 149 = .ok (.iastore, 1) := by decide +kernel
theorem dX9_cycleOnce_150 : decode cX9_cycleOnce 150 = .ok (.aload_n 0, 1) := by decide +kernel
theorem dX9_cycleOnce_151 : decode cX9_cycleOnce 151 = .ok (.getfield 7, 3) := by decide +kernel
theorem dX9_cycleOnce_154 : decode cX9_cycleOnce 154 = .ok (.bipush 7, 2) := by decide +kernel
theorem dX9_cycleOnce_156 : decode cX9_cycleOnce 156 = .ok (.dup2, 1) := by decide +kernel
theorem dX9_cycleOnce_157 : decode cX9_cycleOnce 157 = .ok (.iaload, 1) := by decide +kernel
theorem dX9_cycleOnce_158 : decode cX9_cycleOnce 158 = .ok (.iconst 1, 1) := by decide +kernel
theorem dX9_cycleOnce_159 : decode cX9_cycleOnce 159 = .ok (.iadd, 1) := by decide +kernel
theorem dX9_cycleOnce_160 : decode cX9_cycleOnce 160 = .ok (.iastore, 1) := by decide +kernel
theorem dX9_cycleOnce_161 : decode cX9_cycleOnce 161 = .ok (.iconst 0, 1) := by decide +kernel
theorem dX9_cycleOnce_162 : decode cX9_cycleOnce 162 = .ok (.istore_n 1, 1) := by decide +kernel
theorem dX9_cycleOnce_163 : decode cX9_cycleOnce 163 = .ok (.iload_n 1, 1) := by decide +kernel
theorem dX9_cycleOnce_164 : decode cX9_cycleOnce 164 = .ok (.aload_n 0, 1) := by decide +kernel
theorem dX9_cycleOnce_165 : decode cX9_cycleOnce 165 = .ok (.getfield 7, 3) := by decide +kernel
theorem dX9_cycleOnce_168 : decode cX9_cycleOnce 168 = .ok (.iconst 0, 1) := by decide +kernel
theorem dX9_cycleOnce_169 : decode cX9_cycleOnce 169 = .ok (.iaload, 1) := by decide +kernel
theorem dX9_cycleOnce_170 : decode cX9_cycleOnce 170 = .ok (.if_icmp .ge 111, 3) := by decide +kernel
theorem dX9_cycleOnce_173 : decode cX9_cycleOnce 173 = .ok (.bipush 17, 2) := by decide +kernel
theorem dX9_cycleOnce_175 : decode cX9_cycleOnce 175 = .ok (.bipush 9, 2) := by decide +kernel
theorem dX9_cycleOnce_177 : decode cX9_cycleOnce 177 = .ok (.iload_n 1, 1) := by decide +kernel
theorem dX9_cycleOnce_178 : decode cX9_cycleOnce 178 = .ok (.imul, 1) := by decide +kernel
theorem dX9_cycleOnce_179 : decode cX9_cycleOnce 179 = .ok (.iadd, 1) := by decide +kernel
theorem dX9_cycleOnce_180 : decode cX9_cycleOnce 180 = .ok (.istore_n 2, 1) := by decide +kernel
theorem dX9_cycleOnce_181 : decode cX9_cycleOnce 181 = .ok (.aload_n 0, 1) := by decide +kernel
theorem dX9_cycleOnce_182 : decode cX9_cycleOnce 182 = .ok (.getfield 7, 3) := by decide +kernel
theorem dX9_cycleOnce_185 : decode cX9_cycleOnce 185 = .ok (.iload_n 2, 1) := by decide +kernel
theorem dX9_cycleOnce_186 : decode cX9_cycleOnce 186 = .ok (.iconst 5, 1) := by decide +kernel
theorem dX9_cycleOnce_187 : decode cX9_cycleOnce 187 = .ok (.iadd, 1) := by decide +kernel
theorem dX9_cycleOnce_188 : decode cX9_cycleOnce 188 = .ok (.aload_n 0, 1) := by decide +kernel
theorem dX9_cycleOnce_189 : decode cX9_cycleOnce 189 = .ok (.getfield 44, 3) := by decide +kernel
theorem dX9_cycleOnce_192 : decode cX9_cycleOnce 192 = .ok (.iload_n 1, 1) := by decide +kernel
theorem dX9_cycleOnce_193 : decode cX9_cycleOnce 193 = .ok (.baload, 1) := by decide +kernel
theorem dX9_cycleOnce_194 : decode cX9_cycleOnce 194 = .ok (.ifCond .eq 7, 3) := by decide +kernel
theorem dX9_cycleOnce_197 : decode cX9_cycleOnce 197 = .ok (.iconst 0, 1) := by decide +kernel
theorem dX9_cycleOnce_198 : decode cX9_cycleOnce 198 = .ok (.goto 13, 3) := by decide +kernel
theorem dX9_cycleOnce_201 : decode cX9_cycleOnce 201 = .ok (.aload_n 0, 1) := by decide +kernel
theorem dX9_cycleOnce_202 : decode cX9_cycleOnce 202 = .ok (.getfield 7, 3) := by decide +kernel
theorem dX9_cycleOnce_205 : decode cX9_cycleOnce 205 = .ok (.iload_n 2, 1) := by decide +kernel
theorem dX9_cycleOnce_206 : decode cX9_cycleOnce 206 = .ok (.iconst 5, 1) := by decide +kernel
theorem dX9_cycleOnce_207 : decode cX9_cycleOnce 207 = .ok (.iadd, 1) := by decide +kernel
theorem dX9_cycleOnce_208 : decode cX9_cycleOnce 208 = .ok (.iaload, 1) := by decide +kernel
theorem dX9_cycleOnce_209 : decode cX9_cycleOnce 209 = .ok (.iconst 1, 1) := by decide +kernel
theorem dX9_cycleOnce_210 : decode cX9_cycleOnce 210 = .ok (.iadd, 1) := by decide +kernel
theorem dX9_cycleOnce_211 : decode cX9_cycleOnce 211 = .ok (.iastore, 1) := by decide +kernel
theorem dX9_cycleOnce_212 : decode cX9_cycleOnce 212 = .ok (.aload_n 0, 1) := by decide +kernel
theorem dX9_cycleOnce_213 : decode cX9_cycleOnce 213 = .ok (.getfield 7, 3) := by decide +kernel
theorem dX9_cycleOnce_216 : decode cX9_cycleOnce 216 = .ok (.iload_n 2, 1) := by decide +kernel
theorem dX9_cycleOnce_217 : decode cX9_cycleOnce 217 = .ok (.iconst 5, 1) := by decide +kernel
theorem dX9_cycleOnce_218 : decode cX9_cycleOnce 218 = .ok (.iadd, 1) := by decide +kernel
theorem dX9_cycleOnce_219 : decode cX9_cycleOnce 219 = .ok (.iaload, 1) := by decide +kernel
theorem dX9_cycleOnce_220 : decode cX9_cycleOnce 220 = .ok (.aload_n 0, 1) := by decide +kernel
theorem dX9_cycleOnce_221 : decode cX9_cycleOnce 221 = .ok (.getfield 7, 3) := by decide +kernel
theorem dX9_cycleOnce_224 : decode cX9_cycleOnce 224 = .ok (.iconst 2, 1) := by decide +kernel
theorem dX9_cycleOnce_225 : decode cX9_cycleOnce 225 = .ok (.iaload, 1) := by decide +kernel
theorem dX9_cycleOnce_226 : decode cX9_cycleOnce 226 = .ok (.if_icmp .lt 49, 3) := by decide +kernel
theorem dX9_cycleOnce_229 : decode cX9_cycleOnce 229 = .ok (.aload_n 0, 1) := by decide +kernel
theorem dX9_cycleOnce_230 : decode cX9_cycleOnce 230 = .ok (.getfield 7, 3) := by decide +kernel
theorem dX9_cycleOnce_233 : decode cX9_cycleOnce 233 = .ok (.iload_n 2, 1) := by decide +kernel
theorem dX9_cycleOnce_234 : decode cX9_cycleOnce 234 = .ok (.bipush 6, 2) := by decide +kernel
theorem dX9_cycleOnce_236 : decode cX9_cycleOnce 236 = .ok (.iadd, 1) := by decide +kernel
theorem dX9_cycleOnce_237 : decode cX9_cycleOnce 237 = .ok (.iaload, 1) := by decide +kernel
theorem dX9_cycleOnce_238 : decode cX9_cycleOnce 238 = .ok (.ifCond .ne 37, 3) := by decide +kernel
theorem dX9_cycleOnce_241 : decode cX9_cycleOnce 241 = .ok (.aload_n 0, 1) := by decide +kernel
theorem dX9_cycleOnce_242 : decode cX9_cycleOnce 242 = .ok (.getfield 7, 3) := by decide +kernel
theorem dX9_cycleOnce_245 : decode cX9_cycleOnce 245 = .ok (.iload_n 2, 1) := by decide +kernel
theorem dX9_cycleOnce_246 : decode cX9_cycleOnce 246 = .ok (.bipush 6, 2) := by decide +kernel
theorem dX9_cycleOnce_248 : decode cX9_cycleOnce 248 = .ok (.iadd, 1) := by decide +kernel
theorem dX9_cycleOnce_249 : decode cX9_cycleOnce 249 = .ok (.iconst 1, 1) := by decide +kernel
theorem dX9_cycleOnce_250 : decode cX9_cycleOnce 250 = .ok (.iastore, 1) := by decide +kernel
theorem dX9_cycleOnce_251 : decode cX9_cycleOnce 251 = .ok (.iconst 0, 1) := by decide +kernel
theorem dX9_cycleOnce_252 : decode cX9_cycleOnce 252 = .ok (.istore_n 3, 1) := by decide +kernel
theorem dX9_cycleOnce_253 : decode cX9_cycleOnce 253 = .ok (.iload_n 3, 1) := by decide +kernel
theorem dX9_cycleOnce_254 : decode cX9_cycleOnce 254 = .ok (.iconst 4, 1) := by decide +kernel
theorem dX9_cycleOnce_255 : decode cX9_cycleOnce 255 = .ok (.if_icmp .ge 20, 3) := by decide +kernel
theorem dX9_cycleOnce_258 : decode cX9_cycleOnce 258 = .ok (.aload_n 0, 1) := by decide +kernel
theorem dX9_cycleOnce_259 : decode cX9_cycleOnce 259 = .ok (.getfield 7, 3) := by decide +kernel
theorem dX9_cycleOnce_262 : decode cX9_cycleOnce 262 = .ok (.iload_n 2, 1) := by decide +kernel
theorem dX9_cycleOnce_263 : decode cX9_cycleOnce 263 = .ok (.iconst 1, 1) := by decide +kernel
theorem dX9_cycleOnce_264 : decode cX9_cycleOnce 264 = .ok (.iadd, 1) := by decide +kernel
theorem dX9_cycleOnce_265 : decode cX9_cycleOnce 265 = .ok (.iload_n 3, 1) := by decide +kernel
theorem dX9_cycleOnce_266 : decode cX9_cycleOnce 266 = .ok (.iadd, 1) := by decide +kernel
theorem dX9_cycleOnce_267 : decode cX9_cycleOnce 267 = .ok (.iconst 0, 1) := by decide +kernel
theorem dX9_cycleOnce_268 : decode cX9_cycleOnce 268 = .ok (.iastore, 1) := by decide +kernel
theorem dX9_cycleOnce_269 : decode cX9_cycleOnce 269 = .ok (.iinc 3 1, 3) := by decide +kernel
theorem dX9_cycleOnce_272 : decode cX9_cycleOnce 272 = .ok (.goto (-19), 3) := by decide +kernel
theorem dX9_cycleOnce_275 : decode cX9_cycleOnce 275 = .ok (.iinc 1 1, 3) := by decide +kernel
theorem dX9_cycleOnce_278 : decode cX9_cycleOnce 278 = .ok (.goto (-115), 3) := by decide +kernel
theorem dX9_cycleOnce_281 : decode cX9_cycleOnce 281 = .ok (.return_, 1) := by decide +kernel
theorem dX9_note_0 : decode cX9_note 0 = .ok (.aload_n 0, 1) := by decide +kernel
theorem dX9_note_1 : decode cX9_note 1 = .ok (.getfield 164, 3) := by decide +kernel
theorem dX9_note_4 : decode cX9_note 4 = .ok (.bipush 6, 2) := by decide +kernel
theorem dX9_note_6 : decode cX9_note 6 = .ok (.if_icmp .ne 43, 3) := by decide +kernel
theorem dX9_note_9 : decode cX9_note 9 = .ok (.iconst 0, 1) := by decide +kernel
theorem dX9_note_10 : decode cX9_note 10 = .ok (.istore_n 1, 1) := by decide +kernel
theorem dX9_note_11 : decode cX9_note 11 = .ok (.iload_n 1, 1) := by decide +kernel
theorem dX9_note_12 : decode cX9_note 12 = .ok (.sipush 495, 3) := by decide +kernel
theorem dX9_note_15 : decode cX9_note 15 = .ok (.if_icmp .ge 24, 3) := by decide +kernel
theorem dX9_note_18 : decode cX9_note 18 = .ok (.aload_n 0, 1) := by decide +kernel
theorem dX9_note_19 : decode cX9_note 19 = .ok (.getfield 16, 3) := by decide +kernel
theorem dX9_note_22 : decode cX9_note 22 = .ok (.iload_n 1, 1) := by decide +kernel
theorem dX9_note_23 : decode cX9_note 23 = .ok (.aload_n 0, 1) := by decide +kernel
theorem dX9_note_24 : decode cX9_note 24 = .ok (.getfield 16, 3) := by decide +kernel
theorem dX9_note_27 : decode cX9_note 27 = .ok (.iload_n 1, 1) := by decide +kernel
theorem dX9_note_28 : decode cX9_note 28 = .ok (.bipush 99, 2) := by decide +kernel
theorem dX9_note_30 : decode cX9_note 30 = .ok (.iadd, 1) := by decide +kernel
theorem dX9_note_31 : decode cX9_note 31 = .ok (.iaload, 1) := by decide +kernel
theorem dX9_note_32 : decode cX9_note 32 = .ok (.iastore, 1) := by decide +kernel
theorem dX9_note_33 : decode cX9_note 33 = .ok (.iinc 1 1, 3) := by decide +kernel
theorem dX9_note_36 : decode cX9_note 36 = .ok (.goto (-25), 3) := by decide +kernel
theorem dX9_note_39 : decode cX9_note 39 = .ok (.aload_n 0, 1) := by decide +kernel
theorem dX9_note_40 : decode cX9_note 40 = .ok (.dup, 1) := by decide +kernel
theorem dX9_note_41 : decode cX9_note 41 = .ok (.getfield 164, 3) := by decide +kernel
theorem dX9_note_44 : decode cX9_note 44 = .ok (.iconst 1, 1) := by decide +kernel
theorem dX9_note_45 : decode cX9_note 45 = .ok (.isub, 1) := by decide +kernel
theorem dX9_note_46 : decode cX9_note 46 = .ok (.putfield 164, 3) := by decide +kernel
theorem dX9_note_49 : decode cX9_note 49 = .ok (.aload_n 0, 1) := by decide +kernel
theorem dX9_note_50 : decode cX9_note 50 = .ok (.getfield 7, 3) := by decide +kernel
theorem dX9_note_53 : decode cX9_note 53 = .ok (.iconst 0, 1) := by decide +kernel
theorem dX9_note_54 : decode cX9_note 54 = .ok (.aload_n 0, 1) := by decide +kernel
theorem dX9_note_55 : decode cX9_note 55 = .ok (.getfield 16, 3) := by decide +kernel
theorem dX9_note_58 : decode cX9_note 58 = .ok (.bipush 99, 2) := by decide +kernel
theorem dX9_note_60 : decode cX9_note 60 = .ok (.aload_n 0, 1) := by decide +kernel
theorem dX9_note_61 : decode cX9_note 61 = .ok (.getfield 164, 3) := by decide +kernel
theorem dX9_note_64 : decode cX9_note 64 = .ok (.imul, 1) := by decide +kernel
theorem dX9_note_65 : decode cX9_note 65 = .ok (.invokestatic 59, 3) := by decide +kernel
theorem dX9_note_68 : decode cX9_note 68 = .ok (.aload_n 0, 1) := by decide +kernel
theorem dX9_note_69 : decode cX9_note 69 = .ok (.dup, 1) := by decide +kernel
theorem dX9_note_70 : decode cX9_note 70 = .ok (.getfield 164, 3) := by decide +kernel
theorem dX9_note_73 : decode cX9_note 73 = .ok (.iconst 1, 1) := by decide +kernel
theorem dX9_note_74 : decode cX9_note 74 = .ok (.iadd, 1) := by decide +kernel
theorem dX9_note_75 : decode cX9_note 75 = .ok (.putfield 164, 3) := by decide +kernel
theorem dX9_note_78 : decode cX9_note 78 = .ok (.return_, 1) := by decide +kernel
theorem dX9_undo_0 : decode cX9_undo 0 = .ok (.aload_n 0, 1) := by decide +kernel
theorem dX9_undo_1 : decode cX9_undo 1 = .ok (.getfield 164, 3) := by decide +kernel
theorem dX9_undo_4 : decode cX9_undo 4 = .ok (.ifCond .ne 6, 3) := by decide +kernel
theorem dX9_undo_7 : decode cX9_undo 7 = .ok (.bipush (-2), 2) := by decide +kernel
theorem dX9_undo_9 : decode cX9_undo 9 = .ok (.ireturn, 1) := by decide +kernel
theorem dX9_undo_10 : decode cX9_undo 10 = .ok (.aload_n 0, 1) := by decide +kernel
theorem dX9_undo_11 : decode cX9_undo 11 = .ok (.dup, 1) := by decide +kernel
theorem dX9_undo_12 : decode cX9_undo 12 = .ok (.getfield 164, 3) := by decide +kernel
theorem dX9_undo_15 : decode cX9_undo 15 = .ok (.iconst 1, 1) := by decide +kernel
theorem dX9_undo_16 : decode cX9_undo 16 = .ok (.isub, 1) := by decide +kernel
theorem dX9_undo_17 : decode cX9_undo 17 = .ok (.putfield 164, 3) := by decide +kernel
theorem dX9_undo_20 : decode cX9_undo 20 = .ok (.aload_n 0, 1) := by decide +kernel
theorem dX9_undo_21 : decode cX9_undo 21 = .ok (.getfield 16, 3) := by decide +kernel
theorem dX9_undo_24 : decode cX9_undo 24 = .ok (.bipush 99, 2) := by decide +kernel
theorem dX9_undo_26 : decode cX9_undo 26 = .ok (.aload_n 0, 1) := by decide +kernel
theorem dX9_undo_27 : decode cX9_undo 27 = .ok (.getfield 164, 3) := by decide +kernel
theorem dX9_undo_30 : decode cX9_undo 30 = .ok (.imul, 1) := by decide +kernel
theorem dX9_undo_31 : decode cX9_undo 31 = .ok (.aload_n 0, 1) := by decide +kernel
theorem dX9_undo_32 : decode cX9_undo 32 = .ok (.getfield 7, 3) := by decide +kernel
theorem dX9_undo_35 : decode cX9_undo 35 = .ok (.iconst 0, 1) := by decide +kernel
theorem dX9_undo_36 : decode cX9_undo 36 = .ok (.invokestatic 59, 3) := by decide +kernel
theorem dX9_undo_39 : decode cX9_undo 39 = .ok (.aload_n 0, 1) := by decide +kernel
theorem dX9_undo_40 : decode cX9_undo 40 = .ok (.getfield 164, 3) := by decide +kernel
theorem dX9_undo_43 : decode cX9_undo 43 = .ok (.ireturn, 1) := by decide +kernel
theorem dX9_ones_0 : decode cX9_ones 0 = .ok (.iconst 0, 1) := by decide +kernel
theorem dX9_ones_1 : decode cX9_ones 1 = .ok (.istore_n 1, 1) := by decide +kernel
theorem dX9_ones_2 : decode cX9_ones 2 = .ok (.iconst 0, 1) := by decide +kernel
theorem dX9_ones_3 : decode cX9_ones 3 = .ok (.istore_n 2, 1) := by decide +kernel
theorem dX9_ones_4 : decode cX9_ones 4 = .ok (.iload_n 2, 1) := by decide +kernel
theorem dX9_ones_5 : decode cX9_ones 5 = .ok (.bipush 8, 2) := by decide +kernel
theorem dX9_ones_7 : decode cX9_ones 7 = .ok (.if_icmp .ge 17, 3) := by decide +kernel
theorem dX9_ones_10 : decode cX9_ones 10 = .ok (.iload_n 1, 1) := by decide +kernel
theorem dX9_ones_11 : decode cX9_ones 11 = .ok (.iload_n 0, 1) := by decide +kernel
theorem dX9_ones_12 : decode cX9_ones 12 = .ok (.iload_n 2, 1) := by decide +kernel
theorem dX9_ones_13 : decode cX9_ones 13 = .ok (.ishr, 1) := by decide +kernel
theorem dX9_ones_14 : decode cX9_ones 14 = .ok (.iconst 1, 1) := by decide +kernel
theorem dX9_ones_15 : decode cX9_ones 15 = .ok (.iand, 1) := by decide +kernel
theorem dX9_ones_16 : decode cX9_ones 16 = .ok (.iadd, 1) := by decide +kernel
theorem dX9_ones_17 : decode cX9_ones 17 = .ok (.istore_n 1, 1) := by decide +kernel
theorem dX9_ones_18 : decode cX9_ones 18 = .ok (.iinc 2 1, 3) := by decide +kernel
theorem dX9_ones_21 : decode cX9_ones 21 = .ok (.goto (-17), 3) := by decide +kernel
theorem dX9_ones_24 : decode cX9_ones 24 = .ok (.iload_n 1, 1) := by decide +kernel
theorem dX9_ones_25 : decode cX9_ones 25 = .ok (.ireturn, 1) := by decide +kernel
theorem dX9_isLink_0 : decode cX9_isLink 0 = .ok (.iload_n 1, 1) := by decide +kernel
theorem dX9_isLink_1 : decode cX9_isLink 1 = .ok (.iconst 0, 1) := by decide +kernel
theorem dX9_isLink_2 : decode cX9_isLink 2 = .ok (.aload_n 0, 1) := by decide +kernel
theorem dX9_isLink_3 : decode cX9_isLink 3 = .ok (.invokevirtual 167, 3) := by decide +kernel
theorem dX9_isLink_6 : decode cX9_isLink 6 = .ok (.iconst 1, 1) := by decide +kernel
theorem dX9_isLink_7 : decode cX9_isLink 7 = .ok (.isub, 1) := by decide +kernel
theorem dX9_isLink_8 : decode cX9_isLink 8 = .ok (.invokestatic 76, 3) := by decide +kernel
theorem dX9_isLink_11 : decode cX9_isLink 11 = .ok (.ireturn, 1) := by decide +kernel
theorem dX9_isDrive_0 : decode cX9_isDrive 0 = .ok (.iload_n 1, 1) := by decide +kernel
theorem dX9_isDrive_1 : decode cX9_isDrive 1 = .ok (.iconst 0, 1) := by decide +kernel
theorem dX9_isDrive_2 : decode cX9_isDrive 2 = .ok (.aload_n 0, 1) := by decide +kernel
theorem dX9_isDrive_3 : decode cX9_isDrive 3 = .ok (.getfield 7, 3) := by decide +kernel
theorem dX9_isDrive_6 : decode cX9_isDrive 6 = .ok (.iconst 0, 1) := by decide +kernel
theorem dX9_isDrive_7 : decode cX9_isDrive 7 = .ok (.iaload, 1) := by decide +kernel
theorem dX9_isDrive_8 : decode cX9_isDrive 8 = .ok (.iconst 1, 1) := by decide +kernel
theorem dX9_isDrive_9 : decode cX9_isDrive 9 = .ok (.isub, 1) := by decide +kernel
theorem dX9_isDrive_10 : decode cX9_isDrive 10 = .ok (.invokestatic 76, 3) := by decide +kernel
theorem dX9_isDrive_13 : decode cX9_isDrive 13 = .ok (.ireturn, 1) := by decide +kernel
theorem dX9_cuts_0 : decode cX9_cuts 0 = .ok (.aload_n 0, 1) := by decide +kernel
theorem dX9_cuts_1 : decode cX9_cuts 1 = .ok (.iload_n 1, 1) := by decide +kernel
theorem dX9_cuts_2 : decode cX9_cuts 2 = .ok (.invokevirtual 170, 3) := by decide +kernel
theorem dX9_cuts_5 : decode cX9_cuts 5 = .ok (.ifCond .ne 5, 3) := by decide +kernel
theorem dX9_cuts_8 : decode cX9_cuts 8 = .ok (.iconst (-1), 1) := by decide +kernel
theorem dX9_cuts_9 : decode cX9_cuts 9 = .ok (.ireturn, 1) := by decide +kernel
theorem dX9_cuts_10 : decode cX9_cuts 10 = .ok (.aload_n 0, 1) := by decide +kernel
theorem dX9_cuts_11 : decode cX9_cuts 11 = .ok (.getfield 7, 3) := by decide +kernel
theorem dX9_cuts_14 : decode cX9_cuts 14 = .ok (.bipush 16, 2) := by decide +kernel
theorem dX9_cuts_16 : decode cX9_cuts 16 = .ok (.iaload, 1) := by decide +kernel
theorem dX9_cuts_17 : decode cX9_cuts 17 = .ok (.iload_n 1, 1) := by decide +kernel
theorem dX9_cuts_18 : decode cX9_cuts 18 = .ok (.invokestatic 124, 3) := by decide +kernel
theorem dX9_cuts_21 : decode cX9_cuts 21 = .ok (.ifCond .eq 6, 3) := by decide +kernel
theorem dX9_cuts_24 : decode cX9_cuts 24 = .ok (.bipush (-2), 2) := by decide +kernel
theorem dX9_cuts_26 : decode cX9_cuts 26 = .ok (.ireturn, 1) := by decide +kernel
theorem dX9_cuts_27 : decode cX9_cuts 27 = .ok (.aload_n 0, 1) := by decide +kernel
theorem dX9_cuts_28 : decode cX9_cuts 28 = .ok (.invokevirtual 118, 3) := by decide +kernel
theorem dX9_cuts_31 : decode cX9_cuts 31 = .ok (.aload_n 0, 1) := by decide +kernel
theorem dX9_cuts_32 : decode cX9_cuts 32 = .ok (.getfield 7, 3) := by decide +kernel
theorem dX9_cuts_35 : decode cX9_cuts 35 = .ok (.bipush 16, 2) := by decide +kernel
theorem dX9_cuts_37 : decode cX9_cuts 37 = .ok (.dup2, 1) := by decide +kernel
theorem dX9_cuts_38 : decode cX9_cuts 38 = .ok (.iaload, 1) := by decide +kernel
theorem dX9_cuts_39 : decode cX9_cuts 39 = .ok (.iconst 1, 1) := by decide +kernel
theorem dX9_cuts_40 : decode cX9_cuts 40 = .ok (.iload_n 1, 1) := by decide +kernel
theorem dX9_cuts_41 : decode cX9_cuts 41 = .ok (.ishl, 1) := by decide +kernel
theorem dX9_cuts_42 : decode cX9_cuts 42 = .ok (.ior, 1) := by decide +kernel
theorem dX9_cuts_43 : decode cX9_cuts 43 = .ok (.iastore, 1) := by decide +kernel
theorem dX9_cuts_44 : decode cX9_cuts 44 = .ok (.aload_n 0, 1) := by decide +kernel
theorem dX9_cuts_45 : decode cX9_cuts 45 = .ok (.getfield 7, 3) := by decide +kernel
theorem dX9_cuts_48 : decode cX9_cuts 48 = .ok (.bipush 8, 2) := by decide +kernel
theorem dX9_cuts_50 : decode cX9_cuts 50 = .ok (.iconst 1, 1) := by decide +kernel
theorem dX9_cuts_51 : decode cX9_cuts 51 = .ok (.iastore, 1) := by decide +kernel
theorem dX9_cuts_52 : decode cX9_cuts 52 = .ok (.aload_n 0, 1) := by decide +kernel
theorem dX9_cuts_53 : decode cX9_cuts 53 = .ok (.getfield 7, 3) := by decide +kernel
theorem dX9_cuts_56 : decode cX9_cuts 56 = .ok (.bipush 16, 2) := by decide +kernel
theorem dX9_cuts_58 : decode cX9_cuts 58 = .ok (.iaload, 1) := by decide +kernel
theorem dX9_cuts_59 : decode cX9_cuts 59 = .ok (.invokestatic 173, 3) := by decide +kernel
theorem dX9_cuts_62 : decode cX9_cuts 62 = .ok (.ireturn, 1) := by decide +kernel
theorem dX9_heals_0 : decode cX9_heals 0 = .ok (.aload_n 0, 1) := by decide +kernel
theorem dX9_heals_1 : decode cX9_heals 1 = .ok (.iload_n 1, 1) := by decide +kernel
theorem dX9_heals_2 : decode cX9_heals 2 = .ok (.invokevirtual 170, 3) := by decide +kernel
theorem dX9_heals_5 : decode cX9_heals 5 = .ok (.ifCond .ne 5, 3) := by decide +kernel
theorem dX9_heals_8 : decode cX9_heals 8 = .ok (.iconst (-1), 1) := by decide +kernel
theorem dX9_heals_9 : decode cX9_heals 9 = .ok (.ireturn, 1) := by decide +kernel
theorem dX9_heals_10 : decode cX9_heals 10 = .ok (.aload_n 0, 1) := by decide +kernel
theorem dX9_heals_11 : decode cX9_heals 11 = .ok (.getfield 7, 3) := by decide +kernel
theorem dX9_heals_14 : decode cX9_heals 14 = .ok (.bipush 16, 2) := by decide +kernel
theorem dX9_heals_16 : decode cX9_heals 16 = .ok (.iaload, 1) := by decide +kernel
theorem dX9_heals_17 : decode cX9_heals 17 = .ok (.iload_n 1, 1) := by decide +kernel
theorem dX9_heals_18 : decode cX9_heals 18 = .ok (.invokestatic 124, 3) := by decide +kernel
theorem dX9_heals_21 : decode cX9_heals 21 = .ok (.ifCond .ne 6, 3) := by decide +kernel
theorem dX9_heals_24 : decode cX9_heals 24 = .ok (.bipush (-2), 2) := by decide +kernel
theorem dX9_heals_26 : decode cX9_heals 26 = .ok (.ireturn, 1) := by decide +kernel
theorem dX9_heals_27 : decode cX9_heals 27 = .ok (.aload_n 0, 1) := by decide +kernel
theorem dX9_heals_28 : decode cX9_heals 28 = .ok (.invokevirtual 118, 3) := by decide +kernel
theorem dX9_heals_31 : decode cX9_heals 31 = .ok (.aload_n 0, 1) := by decide +kernel
theorem dX9_heals_32 : decode cX9_heals 32 = .ok (.getfield 7, 3) := by decide +kernel
theorem dX9_heals_35 : decode cX9_heals 35 = .ok (.bipush 16, 2) := by decide +kernel
theorem dX9_heals_37 : decode cX9_heals 37 = .ok (.dup2, 1) := by decide +kernel
theorem dX9_heals_38 : decode cX9_heals 38 = .ok (.iaload, 1) := by decide +kernel
theorem dX9_heals_39 : decode cX9_heals 39 = .ok (.iconst 1, 1) := by decide +kernel
theorem dX9_heals_40 : decode cX9_heals 40 = .ok (.iload_n 1, 1) := by decide +kernel
theorem dX9_heals_41 : decode cX9_heals 41 = .ok (.ishl, 1) := by decide +kernel
theorem dX9_heals_42 : decode cX9_heals 42 = .ok (.isub, 1) := by decide +kernel
theorem dX9_heals_43 : decode cX9_heals 43 = .ok (.iastore, 1) := by decide +kernel
theorem dX9_heals_44 : decode cX9_heals 44 = .ok (.aload_n 0, 1) := by decide +kernel
theorem dX9_heals_45 : decode cX9_heals 45 = .ok (.getfield 7, 3) := by decide +kernel
theorem dX9_heals_48 : decode cX9_heals 48 = .ok (.bipush 16, 2) := by decide +kernel
theorem dX9_heals_50 : decode cX9_heals 50 = .ok (.iaload, 1) := by decide +kernel
theorem dX9_heals_51 : decode cX9_heals 51 = .ok (.invokestatic 173, 3) := by decide +kernel
theorem dX9_heals_54 : decode cX9_heals 54 = .ok (.ireturn, 1) := by decide +kernel
theorem dX9_safeMany_0 : decode cX9_safeMany 0 = .ok (.iconst 0, 1) := by decide +kernel
theorem dX9_safeMany_1 : decode cX9_safeMany 1 = .ok (.istore_n 1, 1) := by decide +kernel
theorem dX9_safeMany_2 : decode cX9_safeMany 2 = .ok (.iconst 0, 1) := by decide +kernel
theorem dX9_safeMany_3 : decode cX9_safeMany 3 = .ok (.istore_n 2, 1) := by decide +kernel
theorem dX9_safeMany_4 : decode cX9_safeMany 4 = .ok (.iload_n 2, 1) := by decide +kernel
theorem dX9_safeMany_5 : decode cX9_safeMany 5 = .ok (.aload_n 0, 1) := by decide +kernel
theorem dX9_safeMany_6 : decode cX9_safeMany 6 = .ok (.getfield 7, 3) := by decide +kernel
theorem dX9_safeMany_9 : decode cX9_safeMany 9 = .ok (.iconst 0, 1) := by decide +kernel
theorem dX9_safeMany_10 : decode cX9_safeMany 10 = .ok (.iaload, 1) := by decide +kernel
theorem dX9_safeMany_11 : decode cX9_safeMany 11 = .ok (.if_icmp .ge 27, 3) := by decide +kernel
theorem dX9_safeMany_14 : decode cX9_safeMany 14 = .ok (.iload_n 1, 1) := by decide +kernel
theorem dX9_safeMany_15 : decode cX9_safeMany 15 = .ok (.aload_n 0, 1) := by decide +kernel
theorem dX9_safeMany_16 : decode cX9_safeMany 16 = .ok (.getfield 7, 3) := by decide +kernel
theorem dX9_safeMany_19 : decode cX9_safeMany 19 = .ok (.bipush 17, 2) := by decide +kernel
theorem dX9_safeMany_21 : decode cX9_safeMany 21 = .ok (.bipush 9, 2) := by decide +kernel
theorem dX9_safeMany_23 : decode cX9_safeMany 23 = .ok (.iload_n 2, 1) := by decide +kernel
theorem dX9_safeMany_24 : decode cX9_safeMany 24 = .ok (.imul, 1) := by decide +kernel
theorem dX9_safeMany_25 : decode cX9_safeMany 25 = .ok (.iadd, 1) := by decide +kernel
theorem dX9_safeMany_26 : decode cX9_safeMany 26 = .ok (.bipush 6, 2) := by decide +kernel
theorem dX9_safeMany_28 : decode cX9_safeMany 28 = .ok (.iadd, 1) := by decide +kernel
theorem dX9_safeMany_29 : decode cX9_safeMany 29 = .ok (.iaload, 1) := by decide +kernel
theorem dX9_safeMany_30 : decode cX9_safeMany 30 = .ok (.iadd, 1) := by decide +kernel
theorem dX9_safeMany_31 : decode cX9_safeMany 31 = .ok (.istore_n 1, 1) := by decide +kernel
theorem dX9_safeMany_32 : decode cX9_safeMany 32 = .ok (.iinc 2 1, 3) := by decide +kernel
theorem dX9_safeMany_35 : decode cX9_safeMany 35 = .ok (.goto (-31), 3) := by decide +kernel
theorem dX9_safeMany_38 : decode cX9_safeMany 38 = .ok (.iload_n 1, 1) := by decide +kernel
theorem dX9_safeMany_39 : decode cX9_safeMany 39 = .ok (.ireturn, 1) := by decide +kernel
theorem dX9_cycles_0 : decode cX9_cycles 0 = .ok (.iload_n 1, 1) := by decide +kernel
theorem dX9_cycles_1 : decode cX9_cycles 1 = .ok (.iconst 1, 1) := by decide +kernel
theorem dX9_cycles_2 : decode cX9_cycles 2 = .ok (.bipush 20, 2) := by decide +kernel
theorem dX9_cycles_4 : decode cX9_cycles 4 = .ok (.invokestatic 76, 3) := by decide +kernel
theorem dX9_cycles_7 : decode cX9_cycles 7 = .ok (.ifCond .ne 5, 3) := by decide +kernel
theorem dX9_cycles_10 : decode cX9_cycles 10 = .ok (.iconst (-1), 1) := by decide +kernel
theorem dX9_cycles_11 : decode cX9_cycles 11 = .ok (.ireturn, 1) := by decide +kernel
theorem dX9_cycles_12 : decode cX9_cycles 12 = .ok (.aload_n 0, 1) := by decide +kernel
theorem dX9_cycles_13 : decode cX9_cycles 13 = .ok (.getfield 7, 3) := by decide +kernel
theorem dX9_cycles_16 : decode cX9_cycles 16 = .ok (.iconst 3, 1) := by decide +kernel
theorem dX9_cycles_17 : decode cX9_cycles 17 = .ok (.iaload, 1) := by decide +kernel
theorem dX9_cycles_18 : decode cX9_cycles 18 = .ok (.ifCond .ne 6, 3) := by decide +kernel
theorem dX9_cycles_21 : decode cX9_cycles 21 = .ok (.bipush (-2), 2) := by decide +kernel
theorem dX9_cycles_23 : decode cX9_cycles 23 = .ok (.ireturn, 1) := by decide +kernel
theorem dX9_cycles_24 : decode cX9_cycles 24 = .ok (.aload_n 0, 1) := by decide +kernel
theorem dX9_cycles_25 : decode cX9_cycles 25 = .ok (.invokevirtual 118, 3) := by decide +kernel
theorem dX9_cycles_28 : decode cX9_cycles 28 = .ok (.iconst 0, 1) := by decide +kernel
theorem dX9_cycles_29 : decode cX9_cycles 29 = .ok (.istore_n 2, 1) := by decide +kernel
theorem dX9_cycles_30 : decode cX9_cycles 30 = .ok (.iload_n 2, 1) := by decide +kernel
theorem dX9_cycles_31 : decode cX9_cycles 31 = .ok (.iload_n 1, 1) := by decide +kernel
theorem dX9_cycles_32 : decode cX9_cycles 32 = .ok (.if_icmp .ge 13, 3) := by decide +kernel
theorem dX9_cycles_35 : decode cX9_cycles 35 = .ok (.aload_n 0, 1) := by decide +kernel
theorem dX9_cycles_36 : decode cX9_cycles 36 = .ok (.invokevirtual 176, 3) := by decide +kernel
theorem dX9_cycles_39 : decode cX9_cycles 39 = .ok (.iinc 2 1, 3) := by decide +kernel
theorem dX9_cycles_42 : decode cX9_cycles 42 = .ok (.goto (-12), 3) := by decide +kernel
theorem dX9_cycles_45 : decode cX9_cycles 45 = .ok (.aload_n 0, 1) := by decide +kernel
theorem dX9_cycles_46 : decode cX9_cycles 46 = .ok (.invokevirtual 179, 3) := by decide +kernel
theorem dX9_cycles_49 : decode cX9_cycles 49 = .ok (.ireturn, 1) := by decide +kernel
theorem dX9_resets_0 : decode cX9_resets 0 = .ok (.aload_n 0, 1) := by decide +kernel
theorem dX9_resets_1 : decode cX9_resets 1 = .ok (.iload_n 1, 1) := by decide +kernel
theorem dX9_resets_2 : decode cX9_resets 2 = .ok (.invokevirtual 182, 3) := by decide +kernel
theorem dX9_resets_5 : decode cX9_resets 5 = .ok (.ifCond .ne 5, 3) := by decide +kernel
theorem dX9_resets_8 : decode cX9_resets 8 = .ok (.iconst (-1), 1) := by decide +kernel
theorem dX9_resets_9 : decode cX9_resets 9 = .ok (.ireturn, 1) := by decide +kernel
theorem dX9_resets_10 : decode cX9_resets 10 = .ok (.bipush 17, 2) := by decide +kernel
theorem dX9_resets_12 : decode cX9_resets 12 = .ok (.bipush 9, 2) := by decide +kernel
theorem dX9_resets_14 : decode cX9_resets 14 = .ok (.iload_n 1, 1) := by decide +kernel
theorem dX9_resets_15 : decode cX9_resets 15 = .ok (.imul, 1) := by decide +kernel
theorem dX9_resets_16 : decode cX9_resets 16 = .ok (.iadd, 1) := by decide +kernel
theorem dX9_resets_17 : decode cX9_resets 17 = .ok (.istore_n 2, 1) := by decide +kernel
theorem dX9_resets_18 : decode cX9_resets 18 = .ok (.aload_n 0, 1) := by decide +kernel
theorem dX9_resets_19 : decode cX9_resets 19 = .ok (.getfield 7, 3) := by decide +kernel
theorem dX9_resets_22 : decode cX9_resets 22 = .ok (.iload_n 2, 1) := by decide +kernel
theorem dX9_resets_23 : decode cX9_resets 23 = .ok (.iconst 5, 1) := by decide +kernel
theorem dX9_resets_24 : decode cX9_resets 24 = .ok (.iadd, 1) := by decide +kernel
theorem dX9_resets_25 : decode cX9_resets 25 = .ok (.iaload, 1) := by decide +kernel
theorem dX9_resets_26 : decode cX9_resets 26 = .ok (.istore_n 3, 1) := by decide +kernel
theorem dX9_resets_27 : decode cX9_resets 27 = .ok (.aload_n 0, 1) := by decide +kernel
theorem dX9_resets_28 : decode cX9_resets 28 = .ok (.getfield 7, 3) := by decide +kernel
theorem dX9_resets_31 : decode cX9_resets 31 = .ok (.iload_n 2, 1) := by decide +kernel
theorem dX9_resets_32 : decode cX9_resets 32 = .ok (.bipush 6, 2) := by decide +kernel
theorem dX9_resets_34 : decode cX9_resets 34 = .ok (.iadd, 1) := by decide +kernel
theorem dX9_resets_35 : decode cX9_resets 35 = .ok (.iaload, 1) := by decide +kernel
theorem dX9_resets_36 : decode cX9_resets 36 = .ok (.ifCond .ne 10, 3) := by decide +kernel
theorem dX9_resets_39 : decode cX9_resets 39 = .ok (.iload_n 3, 1) := by decide +kernel
theorem dX9_resets_40 : decode cX9_resets 40 = .ok (.ifCond .ne 6, 3) := by decide +kernel
theorem dX9_resets_43 : decode cX9_resets 43 = .ok (.bipush (-2), 2) := by decide +kernel
theorem dX9_resets_45 : decode cX9_resets 45 = .ok (.ireturn, 1) := by decide +kernel
theorem dX9_resets_46 : decode cX9_resets 46 = .ok (.aload_n 0, 1) := by decide +kernel
theorem dX9_resets_47 : decode cX9_resets 47 = .ok (.invokevirtual 118, 3) := by decide +kernel
theorem dX9_resets_50 : decode cX9_resets 50 = .ok (.aload_n 0, 1) := by decide +kernel
theorem dX9_resets_51 : decode cX9_resets 51 = .ok (.getfield 7, 3) := by decide +kernel
theorem dX9_resets_54 : decode cX9_resets 54 = .ok (.iload_n 2, 1) := by decide +kernel
theorem dX9_resets_55 : decode cX9_resets 55 = .ok (.bipush 6, 2) := by decide +kernel
theorem dX9_resets_57 : decode cX9_resets 57 = .ok (.iadd, 1) := by decide +kernel
theorem dX9_resets_58 : decode cX9_resets 58 = .ok (.iconst 0, 1) := by decide +kernel
theorem dX9_resets_59 : decode cX9_resets 59 = .ok (.iastore, 1) := by decide +kernel
theorem dX9_resets_60 : decode cX9_resets 60 = .ok (.aload_n 0, 1) := by decide +kernel
theorem dX9_resets_61 : decode cX9_resets 61 = .ok (.getfield 7, 3) := by decide +kernel
theorem dX9_resets_64 : decode cX9_resets 64 = .ok (.iload_n 2, 1) := by decide +kernel
theorem dX9_resets_65 : decode cX9_resets 65 = .ok (.iconst 5, 1) := by decide +kernel
theorem dX9_resets_66 : decode cX9_resets 66 = .ok (.iadd, 1) := by decide +kernel
theorem dX9_resets_67 : decode cX9_resets 67 = .ok (.iconst 0, 1) := by decide +kernel
theorem dX9_resets_68 : decode cX9_resets 68 = .ok (.iastore, 1) := by decide +kernel
theorem dX9_resets_69 : decode cX9_resets 69 = .ok (.iload_n 3, 1) := by decide +kernel
theorem dX9_resets_70 : decode cX9_resets 70 = .ok (.ireturn, 1) := by decide +kernel
theorem dX9_sets_0 : decode cX9_sets 0 = .ok (.aload_n 0, 1) := by decide +kernel
theorem dX9_sets_1 : decode cX9_sets 1 = .ok (.iload_n 1, 1) := by decide +kernel
theorem dX9_sets_2 : decode cX9_sets 2 = .ok (.invokevirtual 182, 3) := by decide +kernel
theorem dX9_sets_5 : decode cX9_sets 5 = .ok (.ifCond .eq 23, 3) := by decide +kernel
theorem dX9_sets_8 : decode cX9_sets 8 = .ok (.iload_n 2, 1) := by decide +kernel
theorem dX9_sets_9 : decode cX9_sets 9 = .ok (.iconst 0, 1) := by decide +kernel
theorem dX9_sets_10 : decode cX9_sets 10 = .ok (.iconst 3, 1) := by decide +kernel
theorem dX9_sets_11 : decode cX9_sets 11 = .ok (.invokestatic 76, 3) := by decide +kernel
theorem dX9_sets_14 : decode cX9_sets 14 = .ok (.ifCond .eq 14, 3) := by decide +kernel
theorem dX9_sets_17 : decode cX9_sets 17 = .ok (.iload_n 3, 1) := by decide +kernel
theorem dX9_sets_18 : decode cX9_sets 18 = .ok (.iconst 0, 1) := by decide +kernel
theorem dX9_sets_19 : decode cX9_sets 19 = .ok (.sipush 255, 3) := by decide +kernel
theorem dX9_sets_22 : decode cX9_sets 22 = .ok (.invokestatic 76, 3) := by decide +kernel
theorem dX9_sets_25 : decode cX9_sets 25 = .ok (.ifCond .ne 5, 3) := by decide +kernel
theorem dX9_sets_28 : decode cX9_sets 28 = .ok (.iconst (-1), 1) := by decide +kernel
theorem dX9_sets_29 : decode cX9_sets 29 = .ok (.ireturn, 1) := by decide +kernel
theorem dX9_sets_30 : decode cX9_sets 30 = .ok (.bipush 17, 2) := by decide +kernel
theorem dX9_sets_32 : decode cX9_sets 32 = .ok (.bipush 9, 2) := by decide +kernel
theorem dX9_sets_34 : decode cX9_sets 34 = .ok (.iload_n 1, 1) := by decide +kernel
theorem dX9_sets_35 : decode cX9_sets 35 = .ok (.imul, 1) := by decide +kernel
theorem dX9_sets_36 : decode cX9_sets 36 = .ok (.iadd, 1) := by decide +kernel
theorem dX9_sets_37 : decode cX9_sets 37 = .ok (.istore 4, 2) := by decide +kernel
theorem dX9_sets_39 : decode cX9_sets 39 = .ok (.aload_n 0, 1) := by decide +kernel
theorem dX9_sets_40 : decode cX9_sets 40 = .ok (.getfield 7, 3) := by decide +kernel
theorem dX9_sets_43 : decode cX9_sets 43 = .ok (.iload 4, 2) := by decide +kernel
theorem dX9_sets_45 : decode cX9_sets 45 = .ok (.iconst 1, 1) := by decide +kernel
theorem dX9_sets_46 : decode cX9_sets 46 = .ok (.iadd, 1) := by decide +kernel
theorem dX9_sets_47 : decode cX9_sets 47 = .ok (.iload_n 2, 1) := by decide +kernel
theorem dX9_sets_48 : decode cX9_sets 48 = .ok (.iadd, 1) := by decide +kernel
theorem dX9_sets_49 : decode cX9_sets 49 = .ok (.iaload, 1) := by decide +kernel
theorem dX9_sets_50 : decode cX9_sets 50 = .ok (.istore 5, 2) := by decide +kernel
theorem dX9_sets_52 : decode cX9_sets 52 = .ok (.iload 5, 2) := by decide +kernel
theorem dX9_sets_54 : decode cX9_sets 54 = .ok (.iload_n 3, 1) := by decide +kernel
theorem dX9_sets_55 : decode cX9_sets 55 = .ok (.if_icmp .eq 17, 3) := by decide +kernel
theorem dX9_sets_58 : decode cX9_sets 58 = .ok (.aload_n 0, 1) := by decide +kernel
theorem dX9_sets_59 : decode cX9_sets 59 = .ok (.getfield 7, 3) := by decide +kernel
theorem dX9_sets_62 : decode cX9_sets 62 = .ok (.iload 4, 2) := by decide +kernel
theorem dX9_sets_64 : decode cX9_sets 64 = .ok (.bipush 6, 2) := by decide +kernel
theorem dX9_sets_66 : decode cX9_sets 66 = .ok (.iadd, 1) := by decide +kernel
theorem dX9_sets_67 : decode cX9_sets 67 = .ok (.iaload, 1) := by decide +kernel
theorem dX9_sets_68 : decode cX9_sets 68 = .ok (.iconst 1, 1) := by decide +kernel
theorem dX9_sets_69 : decode cX9_sets 69 = .ok (.if_icmp .ne 6, 3) := by decide +kernel
theorem dX9_sets_72 : decode cX9_sets 72 = .ok (.bipush (-2), 2) := by decide +kernel
theorem dX9_sets_74 : decode cX9_sets 74 = .ok (.ireturn, 1) := by decide +kernel
theorem dX9_sets_75 : decode cX9_sets 75 = .ok (.aload_n 0, 1) := by decide +kernel
theorem dX9_sets_76 : decode cX9_sets 76 = .ok (.invokevirtual 118, 3) := by decide +kernel
theorem dX9_sets_79 : decode cX9_sets 79 = .ok (.aload_n 0, 1) := by decide +kernel
theorem dX9_sets_80 : decode cX9_sets 80 = .ok (.getfield 7, 3) := by decide +kernel
theorem dX9_sets_83 : decode cX9_sets 83 = .ok (.iload 4, 2) := by decide +kernel
theorem dX9_sets_85 : decode cX9_sets 85 = .ok (.iconst 1, 1) := by decide +kernel
theorem dX9_sets_86 : decode cX9_sets 86 = .ok (.iadd, 1) := by decide +kernel
theorem dX9_sets_87 : decode cX9_sets 87 = .ok (.iload_n 2, 1) := by decide +kernel
theorem dX9_sets_88 : decode cX9_sets 88 = .ok (.iadd, 1) := by decide +kernel
theorem dX9_sets_89 : decode cX9_sets 89 = .ok (.iload_n 3, 1) := by decide +kernel
theorem dX9_sets_90 : decode cX9_sets 90 = .ok (.iastore, 1) := by decide +kernel
theorem dX9_sets_91 : decode cX9_sets 91 = .ok (.iload 5, 2) := by decide +kernel
theorem dX9_sets_93 : decode cX9_sets 93 = .ok (.ireturn, 1) := by decide +kernel
theorem dX9_drifts_0 : decode cX9_drifts 0 = .ok (.aload_n 0, 1) := by decide +kernel
theorem dX9_drifts_1 : decode cX9_drifts 1 = .ok (.iload_n 1, 1) := by decide +kernel
theorem dX9_drifts_2 : decode cX9_drifts 2 = .ok (.invokevirtual 182, 3) := by decide +kernel
theorem dX9_drifts_5 : decode cX9_drifts 5 = .ok (.ifCond .eq 14, 3) := by decide +kernel
theorem dX9_drifts_8 : decode cX9_drifts 8 = .ok (.iload_n 2, 1) := by decide +kernel
theorem dX9_drifts_9 : decode cX9_drifts 9 = .ok (.bipush (-50), 2) := by decide +kernel
theorem dX9_drifts_11 : decode cX9_drifts 11 = .ok (.bipush 50, 2) := by decide +kernel
theorem dX9_drifts_13 : decode cX9_drifts 13 = .ok (.invokestatic 76, 3) := by decide +kernel
theorem dX9_drifts_16 : decode cX9_drifts 16 = .ok (.ifCond .ne 5, 3) := by decide +kernel
theorem dX9_drifts_19 : decode cX9_drifts 19 = .ok (.iconst (-1), 1) := by decide +kernel
theorem dX9_drifts_20 : decode cX9_drifts 20 = .ok (.ireturn, 1) := by decide +kernel
theorem dX9_drifts_21 : decode cX9_drifts 21 = .ok (.bipush 17, 2) := by decide +kernel
theorem dX9_drifts_23 : decode cX9_drifts 23 = .ok (.bipush 9, 2) := by decide +kernel
theorem dX9_drifts_25 : decode cX9_drifts 25 = .ok (.iload_n 1, 1) := by decide +kernel
theorem dX9_drifts_26 : decode cX9_drifts 26 = .ok (.imul, 1) := by decide +kernel
theorem dX9_drifts_27 : decode cX9_drifts 27 = .ok (.iadd, 1) := by decide +kernel
theorem dX9_drifts_28 : decode cX9_drifts 28 = .ok (.istore_n 3, 1) := by decide +kernel
theorem dX9_drifts_29 : decode cX9_drifts 29 = .ok (.aload_n 0, 1) := by decide +kernel
theorem dX9_drifts_30 : decode cX9_drifts 30 = .ok (.getfield 7, 3) := by decide +kernel
theorem dX9_drifts_33 : decode cX9_drifts 33 = .ok (.iload_n 3, 1) := by decide +kernel
theorem dX9_drifts_34 : decode cX9_drifts 34 = .ok (.bipush 7, 2) := by decide +kernel
theorem dX9_drifts_36 : decode cX9_drifts 36 = .ok (.iadd, 1) := by decide +kernel
theorem dX9_drifts_37 : decode cX9_drifts 37 = .ok (.iaload, 1) := by decide +kernel
theorem dX9_drifts_38 : decode cX9_drifts 38 = .ok (.iload_n 2, 1) := by decide +kernel
theorem dX9_drifts_39 : decode cX9_drifts 39 = .ok (.if_icmp .ne 6, 3) := by decide +kernel
theorem dX9_drifts_42 : decode cX9_drifts 42 = .ok (.bipush (-2), 2) := by decide +kernel
theorem dX9_drifts_44 : decode cX9_drifts 44 = .ok (.ireturn, 1) := by decide +kernel
theorem dX9_drifts_45 : decode cX9_drifts 45 = .ok (.aload_n 0, 1) := by decide +kernel
theorem dX9_drifts_46 : decode cX9_drifts 46 = .ok (.invokevirtual 118, 3) := by decide +kernel
theorem dX9_drifts_49 : decode cX9_drifts 49 = .ok (.aload_n 0, 1) := by decide +kernel
theorem dX9_drifts_50 : decode cX9_drifts 50 = .ok (.getfield 7, 3) := by decide +kernel
theorem dX9_drifts_53 : decode cX9_drifts 53 = .ok (.iload_n 3, 1) := by decide +kernel
theorem dX9_drifts_54 : decode cX9_drifts 54 = .ok (.bipush 7, 2) := by decide +kernel
theorem dX9_drifts_56 : decode cX9_drifts 56 = .ok (.iadd, 1) := by decide +kernel
theorem dX9_drifts_57 : decode cX9_drifts 57 = .ok (.iload_n 2, 1) := by decide +kernel
theorem dX9_drifts_58 : decode cX9_drifts 58 = .ok (.iastore, 1) := by decide +kernel
theorem dX9_drifts_59 : decode cX9_drifts 59 = .ok (.iconst 1, 1) := by decide +kernel
theorem dX9_drifts_60 : decode cX9_drifts 60 = .ok (.ireturn, 1) := by decide +kernel
theorem dX9_measures_0 : decode cX9_measures 0 = .ok (.aload_n 0, 1) := by decide +kernel
theorem dX9_measures_1 : decode cX9_measures 1 = .ok (.getfield 7, 3) := by decide +kernel
theorem dX9_measures_4 : decode cX9_measures 4 = .ok (.bipush 16, 2) := by decide +kernel
theorem dX9_measures_6 : decode cX9_measures 6 = .ok (.iaload, 1) := by decide +kernel
theorem dX9_measures_7 : decode cX9_measures 7 = .ok (.istore_n 1, 1) := by decide +kernel
theorem dX9_measures_8 : decode cX9_measures 8 = .ok (.aload_n 0, 1) := by decide +kernel
theorem dX9_measures_9 : decode cX9_measures 9 = .ok (.iload_n 1, 1) := by decide +kernel
theorem dX9_measures_10 : decode cX9_measures 10 = .ok (.invokevirtual 127, 3) := by decide +kernel
theorem dX9_measures_13 : decode cX9_measures 13 = .ok (.ifCond .eq 7, 3) := by decide +kernel
theorem dX9_measures_16 : decode cX9_measures 16 = .ok (.iconst (-1), 1) := by decide +kernel
theorem dX9_measures_17 : decode cX9_measures 17 = .ok (.goto 8, 3) := by decide +kernel
theorem dX9_measures_20 : decode cX9_measures 20 = .ok (.aload_n 0, 1) := by decide +kernel
theorem dX9_measures_21 : decode cX9_measures 21 = .ok (.iload_n 1, 1) := by decide +kernel
theorem dX9_measures_22 : decode cX9_measures 22 = .ok (.invokevirtual 134, 3) := by decide +kernel
theorem dX9_measures_25 : decode cX9_measures 25 = .ok (.istore_n 2, 1) := by decide +kernel
theorem dX9_measures_26 : decode cX9_measures 26 = .ok (.aload_n 0, 1) := by decide +kernel
theorem dX9_measures_27 : decode cX9_measures 27 = .ok (.iload_n 1, 1) := by decide +kernel
theorem dX9_measures_28 : decode cX9_measures 28 = .ok (.invokevirtual 138, 3) := by decide +kernel
theorem dX9_measures_31 : decode cX9_measures 31 = .ok (.istore_n 3, 1) := by decide +kernel
theorem dX9_measures_32 : decode cX9_measures 32 = .ok (.iload_n 2, 1) := by decide +kernel
theorem dX9_measures_33 : decode cX9_measures 33 = .ok (.ifCond .ge 16, 3) := by decide +kernel
theorem dX9_measures_36 : decode cX9_measures 36 = .ok (.iload_n 3, 1) := by decide +kernel
theorem dX9_measures_37 : decode cX9_measures 37 = .ok (.aload_n 0, 1) := by decide +kernel
theorem dX9_measures_38 : decode cX9_measures 38 = .ok (.getfield 7, 3) := by decide +kernel
theorem dX9_measures_41 : decode cX9_measures 41 = .ok (.iconst 0, 1) := by decide +kernel
theorem dX9_measures_42 : decode cX9_measures 42 = .ok (.iaload, 1) := by decide +kernel
theorem dX9_measures_43 : decode cX9_measures 43 = .ok (.if_icmp .ne 6, 3) := by decide +kernel
theorem dX9_measures_46 : decode cX9_measures 46 = .ok (.bipush (-2), 2) := by decide +kernel
theorem dX9_measures_48 : decode cX9_measures 48 = .ok (.ireturn, 1) := by decide +kernel
theorem dX9_measures_49 : decode cX9_measures 49 = .ok (.aload_n 0, 1) := by decide +kernel
theorem dX9_measures_50 : decode cX9_measures 50 = .ok (.invokevirtual 118, 3) := by decide +kernel
theorem dX9_measures_53 : decode cX9_measures 53 = .ok (.iconst 0, 1) := by decide +kernel
theorem dX9_measures_54 : decode cX9_measures 54 = .ok (.istore 4, 2) := by decide +kernel
theorem dX9_measures_56 : decode cX9_measures 56 = .ok (.iconst 0, 1) := by decide +kernel
theorem dX9_measures_57 : decode cX9_measures 57 = .ok (.istore 5, 2) := by decide +kernel
theorem dX9_measures_59 : decode cX9_measures 59 = .ok (.iload 5, 2) := by decide +kernel
theorem dX9_measures_61 : decode cX9_measures 61 = .ok (.aload_n 0, 1) := by decide +kernel
theorem dX9_measures_62 : decode cX9_measures 62 = .ok (.getfield 7, 3) := by decide +kernel
theorem dX9_measures_65 : decode cX9_measures 65 = .ok (.iconst 0, 1) := by decide +kernel
theorem dX9_measures_66 : decode cX9_measures 66 = .ok (.iaload, 1) := by decide +kernel
theorem dX9_measures_67 : decode cX9_measures 67 = .ok (.if_icmp .ge 56, 3) := by decide +kernel
theorem dX9_measures_70 : decode cX9_measures 70 = .ok (.iload 5, 2) := by decide +kernel
theorem dX9_measures_72 : decode cX9_measures 72 = .ok (.iload_n 2, 1) := by decide +kernel
theorem dX9_measures_73 : decode cX9_measures 73 = .ok (.if_icmp .le 9, 3) := by decide +kernel
theorem dX9_measures_76 : decode cX9_measures 76 = .ok (.iload 5, 2) := by decide +kernel
theorem dX9_measures_78 : decode cX9_measures 78 = .ok (.iload_n 3, 1) := by decide +kernel
theorem dX9_measures_79 : decode cX9_measures 79 = .ok (.if_icmp .lt 38, 3) := by decide +kernel
theorem dX9_measures_82 : decode cX9_measures 82 = .ok (.aload_n 0, 1) := by decide +kernel
theorem dX9_measures_83 : decode cX9_measures 83 = .ok (.getfield 7, 3) := by decide +kernel
theorem dX9_measures_86 : decode cX9_measures 86 = .ok (.bipush 17, 2) := by decide +kernel
theorem dX9_measures_88 : decode cX9_measures 88 = .ok (.bipush 9, 2) := by decide +kernel
theorem dX9_measures_90 : decode cX9_measures 90 = .ok (.iload 5, 2) := by decide +kernel
theorem dX9_measures_92 : decode cX9_measures 92 = .ok (.imul, 1) := by decide +kernel
theorem dX9_measures_93 : decode cX9_measures 93 = .ok (.iadd, 1) := by decide +kernel
theorem dX9_measures_94 : decode cX9_measures 94 = .ok (.bipush 8, 2) := by decide +kernel
theorem dX9_measures_96 : decode cX9_measures 96 = .ok (.iadd, 1) := by decide +kernel
theorem dX9_measures_97 : decode cX9_measures 97 = .ok (.aload_n 0, 1) := by decide +kernel
theorem dX9_measures_98 : decode cX9_measures 98 = .ok (.getfield 7, 3) := by decide +kernel
theorem dX9_measures_101 : decode cX9_measures 101 = .ok (.bipush 17, 2) := by decide +kernel
theorem dX9_measures_103 : decode cX9_measures 103 = .ok (.bipush 9, 2) := by decide +kernel
theorem dX9_measures_105 : decode cX9_measures 105 = .ok (.iload 5, 2) := by decide +kernel
theorem dX9_measures_107 : decode cX9_measures 107 = .ok (.imul, 1) := by decide +kernel
theorem dX9_measures_108 : decode cX9_measures 108 = .ok (.iadd, 1) := by decide +kernel
theorem dX9_measures_109 : decode cX9_measures 109 = .ok (.bipush 7, 2) := by decide +kernel
theorem dX9_measures_111 : decode cX9_measures 111 = .ok (.iadd, 1) := by decide +kernel
theorem dX9_measures_112 : decode cX9_measures 112 = .ok (.iaload, 1) := by decide +kernel
theorem dX9_measures_113 : decode cX9_measures 113 = .ok (.iastore, 1) := by decide +kernel
theorem dX9_measures_114 : decode cX9_measures 114 = .ok (.iinc 4 1, 3) := by decide +kernel
theorem dX9_measures_117 : decode cX9_measures 117 = .ok (.iinc 5 1, 3) := by decide +kernel
theorem dX9_measures_120 : decode cX9_measures 120 = .ok (.goto (-61), 3) := by decide +kernel
theorem dX9_measures_123 : decode cX9_measures 123 = .ok (.iload 4, 2) := by decide +kernel
theorem dX9_measures_125 : decode cX9_measures 125 = .ok (.ireturn, 1) := by decide +kernel
theorem dX9_offOf_0 : decode cX9_offOf 0 = .ok (.aload_n 0, 1) := by decide +kernel
theorem dX9_offOf_1 : decode cX9_offOf 1 = .ok (.getfield 7, 3) := by decide +kernel
theorem dX9_offOf_4 : decode cX9_offOf 4 = .ok (.bipush 17, 2) := by decide +kernel
theorem dX9_offOf_6 : decode cX9_offOf 6 = .ok (.bipush 9, 2) := by decide +kernel
theorem dX9_offOf_8 : decode cX9_offOf 8 = .ok (.iload_n 1, 1) := by decide +kernel
theorem dX9_offOf_9 : decode cX9_offOf 9 = .ok (.imul, 1) := by decide +kernel
theorem dX9_offOf_10 : decode cX9_offOf 10 = .ok (.iadd, 1) := by decide +kernel
theorem dX9_offOf_11 : decode cX9_offOf 11 = .ok (.bipush 7, 2) := by decide +kernel
theorem dX9_offOf_13 : decode cX9_offOf 13 = .ok (.iadd, 1) := by decide +kernel
theorem dX9_offOf_14 : decode cX9_offOf 14 = .ok (.iaload, 1) := by decide +kernel
theorem dX9_offOf_15 : decode cX9_offOf 15 = .ok (.aload_n 0, 1) := by decide +kernel
theorem dX9_offOf_16 : decode cX9_offOf 16 = .ok (.getfield 7, 3) := by decide +kernel
theorem dX9_offOf_19 : decode cX9_offOf 19 = .ok (.bipush 17, 2) := by decide +kernel
theorem dX9_offOf_21 : decode cX9_offOf 21 = .ok (.bipush 9, 2) := by decide +kernel
theorem dX9_offOf_23 : decode cX9_offOf 23 = .ok (.iload_n 1, 1) := by decide +kernel
theorem dX9_offOf_24 : decode cX9_offOf 24 = .ok (.imul, 1) := by decide +kernel
theorem dX9_offOf_25 : decode cX9_offOf 25 = .ok (.iadd, 1) := by decide +kernel
theorem dX9_offOf_26 : decode cX9_offOf 26 = .ok (.bipush 8, 2) := by decide +kernel
theorem dX9_offOf_28 : decode cX9_offOf 28 = .ok (.iadd, 1) := by decide +kernel
theorem dX9_offOf_29 : decode cX9_offOf 29 = .ok (.iaload, 1) := by decide +kernel
theorem dX9_offOf_30 : decode cX9_offOf 30 = .ok (.isub, 1) := by decide +kernel
theorem dX9_offOf_31 : decode cX9_offOf 31 = .ok (.ireturn, 1) := by decide +kernel
theorem dX9_drive_0 : decode cX9_drive 0 = .ok (.aload_n 0, 1) := by decide +kernel
theorem dX9_drive_1 : decode cX9_drive 1 = .ok (.iload_n 1, 1) := by decide +kernel
theorem dX9_drive_2 : decode cX9_drive 2 = .ok (.invokevirtual 182, 3) := by decide +kernel
theorem dX9_drive_5 : decode cX9_drive 5 = .ok (.ifCond .eq 13, 3) := by decide +kernel
theorem dX9_drive_8 : decode cX9_drive 8 = .ok (.iload_n 2, 1) := by decide +kernel
theorem dX9_drive_9 : decode cX9_drive 9 = .ok (.iconst 0, 1) := by decide +kernel
theorem dX9_drive_10 : decode cX9_drive 10 = .ok (.bipush 9, 2) := by decide +kernel
theorem dX9_drive_12 : decode cX9_drive 12 = .ok (.invokestatic 76, 3) := by decide +kernel
theorem dX9_drive_15 : decode cX9_drive 15 = .ok (.ifCond .ne 6, 3) := by decide +kernel
theorem dX9_drive_18 : decode cX9_drive 18 = .ok (.ldc 185, 2) := by decide +kernel
theorem dX9_drive_20 : decode cX9_drive 20 = .ok (.ireturn, 1) := by decide +kernel
theorem dX9_drive_21 : decode cX9_drive 21 = .ok (.iload_n 2, 1) := by decide +kernel
theorem dX9_drive_22 : decode cX9_drive 22 = .ok (.bipush 9, 2) := by decide +kernel
theorem dX9_drive_24 : decode cX9_drive 24 = .ok (.if_icmp .ne 11, 3) := by decide +kernel
theorem dX9_drive_27 : decode cX9_drive 27 = .ok (.aload_n 0, 1) := by decide +kernel
theorem dX9_drive_28 : decode cX9_drive 28 = .ok (.iload_n 1, 1) := by decide +kernel
theorem dX9_drive_29 : decode cX9_drive 29 = .ok (.invokevirtual 186, 3) := by decide +kernel
theorem dX9_drive_32 : decode cX9_drive 32 = .ok (.goto 17, 3) := by decide +kernel
theorem dX9_drive_35 : decode cX9_drive 35 = .ok (.aload_n 0, 1) := by decide +kernel
theorem dX9_drive_36 : decode cX9_drive 36 = .ok (.getfield 7, 3) := by decide +kernel
theorem dX9_drive_39 : decode cX9_drive 39 = .ok (.bipush 17, 2) := by decide +kernel
theorem dX9_drive_41 : decode cX9_drive 41 = .ok (.bipush 9, 2) := by decide +kernel
theorem dX9_drive_43 : decode cX9_drive 43 = .ok (.iload_n 1, 1) := by decide +kernel
theorem dX9_drive_44 : decode cX9_drive 44 = .ok (.imul, 1) := by decide +kernel
theorem dX9_drive_45 : decode cX9_drive 45 = .ok (.iadd, 1) := by decide +kernel
theorem dX9_drive_46 : decode cX9_drive 46 = .ok (.iload_n 2, 1) := by decide +kernel
theorem dX9_drive_47 : decode cX9_drive 47 = .ok (.iadd, 1) := by decide +kernel
theorem dX9_drive_48 : decode cX9_drive 48 = .ok (.iaload, 1) := by decide +kernel
theorem dX9_drive_49 : decode cX9_drive 49 = .ok (.ireturn, 1) := by decide +kernel
theorem dX9_link_0 : decode cX9_link 0 = .ok (.aload_n 0, 1) := by decide +kernel
theorem dX9_link_1 : decode cX9_link 1 = .ok (.iload_n 1, 1) := by decide +kernel
theorem dX9_link_2 : decode cX9_link 2 = .ok (.invokevirtual 170, 3) := by decide +kernel
theorem dX9_link_5 : decode cX9_link 5 = .ok (.ifCond .eq 12, 3) := by decide +kernel
theorem dX9_link_8 : decode cX9_link 8 = .ok (.iload_n 2, 1) := by decide +kernel
theorem dX9_link_9 : decode cX9_link 9 = .ok (.iconst 0, 1) := by decide +kernel
theorem dX9_link_10 : decode cX9_link 10 = .ok (.iconst 1, 1) := by decide +kernel
theorem dX9_link_11 : decode cX9_link 11 = .ok (.invokestatic 76, 3) := by decide +kernel
theorem dX9_link_14 : decode cX9_link 14 = .ok (.ifCond .ne 5, 3) := by decide +kernel
theorem dX9_link_17 : decode cX9_link 17 = .ok (.iconst (-1), 1) := by decide +kernel
theorem dX9_link_18 : decode cX9_link 18 = .ok (.ireturn, 1) := by decide +kernel
theorem dX9_link_19 : decode cX9_link 19 = .ok (.iload_n 2, 1) := by decide +kernel
theorem dX9_link_20 : decode cX9_link 20 = .ok (.ifCond .ne 15, 3) := by decide +kernel
theorem dX9_link_23 : decode cX9_link 23 = .ok (.aload_n 0, 1) := by decide +kernel
theorem dX9_link_24 : decode cX9_link 24 = .ok (.getfield 7, 3) := by decide +kernel
theorem dX9_link_27 : decode cX9_link 27 = .ok (.bipush 9, 2) := by decide +kernel
theorem dX9_link_29 : decode cX9_link 29 = .ok (.iload_n 1, 1) := by decide +kernel
theorem dX9_link_30 : decode cX9_link 30 = .ok (.iadd, 1) := by decide +kernel
theorem dX9_link_31 : decode cX9_link 31 = .ok (.iaload, 1) := by decide +kernel
theorem dX9_link_32 : decode cX9_link 32 = .ok (.goto 22, 3) := by decide +kernel
theorem dX9_link_35 : decode cX9_link 35 = .ok (.aload_n 0, 1) := by decide +kernel
theorem dX9_link_36 : decode cX9_link 36 = .ok (.getfield 7, 3) := by decide +kernel
theorem dX9_link_39 : decode cX9_link 39 = .ok (.bipush 16, 2) := by decide +kernel
theorem dX9_link_41 : decode cX9_link 41 = .ok (.iaload, 1) := by decide +kernel
theorem dX9_link_42 : decode cX9_link 42 = .ok (.iload_n 1, 1) := by decide +kernel
theorem dX9_link_43 : decode cX9_link 43 = .ok (.invokestatic 124, 3) := by decide +kernel
theorem dX9_link_46 : decode cX9_link 46 = .ok (.ifCond .eq 7, 3) := by decide +kernel
theorem dX9_link_49 : decode cX9_link 49 = .ok (.iconst 1, 1) := by decide +kernel
theorem dX9_link_50 : decode cX9_link 50 = .ok (.goto 4, 3) := by decide +kernel
theorem dX9_link_53 : decode cX9_link 53 = .ok (.iconst 0, 1) := by decide +kernel
theorem dX9_link_54 : decode cX9_link 54 = .ok (.ireturn, 1) := by decide +kernel
theorem dX9_isOrder_0 : decode cX9_isOrder 0 = .ok (.iload_n 1, 1) := by decide +kernel
theorem dX9_isOrder_1 : decode cX9_isOrder 1 = .ok (.iconst 0, 1) := by decide +kernel
theorem dX9_isOrder_2 : decode cX9_isOrder 2 = .ok (.aload_n 0, 1) := by decide +kernel
theorem dX9_isOrder_3 : decode cX9_isOrder 3 = .ok (.getfield 7, 3) := by decide +kernel
theorem dX9_isOrder_6 : decode cX9_isOrder 6 = .ok (.iconst 3, 1) := by decide +kernel
theorem dX9_isOrder_7 : decode cX9_isOrder 7 = .ok (.iaload, 1) := by decide +kernel
theorem dX9_isOrder_8 : decode cX9_isOrder 8 = .ok (.iconst 1, 1) := by decide +kernel
theorem dX9_isOrder_9 : decode cX9_isOrder 9 = .ok (.isub, 1) := by decide +kernel
theorem dX9_isOrder_10 : decode cX9_isOrder 10 = .ok (.invokestatic 76, 3) := by decide +kernel
theorem dX9_isOrder_13 : decode cX9_isOrder 13 = .ok (.ireturn, 1) := by decide +kernel
theorem dX9_order_0 : decode cX9_order 0 = .ok (.aload_n 0, 1) := by decide +kernel
theorem dX9_order_1 : decode cX9_order 1 = .ok (.iload_n 1, 1) := by decide +kernel
theorem dX9_order_2 : decode cX9_order 2 = .ok (.invokevirtual 189, 3) := by decide +kernel
theorem dX9_order_5 : decode cX9_order 5 = .ok (.ifCond .eq 28, 3) := by decide +kernel
theorem dX9_order_8 : decode cX9_order 8 = .ok (.iload_n 2, 1) := by decide +kernel
theorem dX9_order_9 : decode cX9_order 9 = .ok (.iconst 0, 1) := by decide +kernel
theorem dX9_order_10 : decode cX9_order 10 = .ok (.iconst 4, 1) := by decide +kernel
theorem dX9_order_11 : decode cX9_order 11 = .ok (.invokestatic 76, 3) := by decide +kernel
theorem dX9_order_14 : decode cX9_order 14 = .ok (.ifCond .eq 19, 3) := by decide +kernel
theorem dX9_order_17 : decode cX9_order 17 = .ok (.aload_n 0, 1) := by decide +kernel
theorem dX9_order_18 : decode cX9_order 18 = .ok (.getfield 7, 3) := by decide +kernel
theorem dX9_order_21 : decode cX9_order 21 = .ok (.bipush 71, 2) := by decide +kernel
theorem dX9_order_23 : decode cX9_order 23 = .ok (.iconst 5, 1) := by decide +kernel
theorem dX9_order_24 : decode cX9_order 24 = .ok (.iload_n 1, 1) := by decide +kernel
theorem dX9_order_25 : decode cX9_order 25 = .ok (.imul, 1) := by decide +kernel
theorem dX9_order_26 : decode cX9_order 26 = .ok (.iadd, 1) := by decide +kernel
theorem dX9_order_27 : decode cX9_order 27 = .ok (.iload_n 2, 1) := by decide +kernel
theorem dX9_order_28 : decode cX9_order 28 = .ok (.iadd, 1) := by decide +kernel
theorem dX9_order_29 : decode cX9_order 29 = .ok (.iaload, 1) := by decide +kernel
theorem dX9_order_30 : decode cX9_order 30 = .ok (.goto 4, 3) := by decide +kernel
theorem dX9_order_33 : decode cX9_order 33 = .ok (.iconst (-1), 1) := by decide +kernel
theorem dX9_order_34 : decode cX9_order 34 = .ok (.ireturn, 1) := by decide +kernel
theorem dX9_result_0 : decode cX9_result 0 = .ok (.aload_n 0, 1) := by decide +kernel
theorem dX9_result_1 : decode cX9_result 1 = .ok (.iload_n 1, 1) := by decide +kernel
theorem dX9_result_2 : decode cX9_result 2 = .ok (.invokevirtual 189, 3) := by decide +kernel
theorem dX9_result_5 : decode cX9_result 5 = .ok (.ifCond .eq 12, 3) := by decide +kernel
theorem dX9_result_8 : decode cX9_result 8 = .ok (.iload_n 2, 1) := by decide +kernel
theorem dX9_result_9 : decode cX9_result 9 = .ok (.iconst 0, 1) := by decide +kernel
theorem dX9_result_10 : decode cX9_result 10 = .ok (.iconst 1, 1) := by decide +kernel
theorem dX9_result_11 : decode cX9_result 11 = .ok (.invokestatic 76, 3) := by decide +kernel
theorem dX9_result_14 : decode cX9_result 14 = .ok (.ifCond .ne 5, 3) := by decide +kernel
theorem dX9_result_17 : decode cX9_result 17 = .ok (.iconst (-1), 1) := by decide +kernel
theorem dX9_result_18 : decode cX9_result 18 = .ok (.ireturn, 1) := by decide +kernel
theorem dX9_result_19 : decode cX9_result 19 = .ok (.aload_n 0, 1) := by decide +kernel
theorem dX9_result_20 : decode cX9_result 20 = .ok (.getfield 7, 3) := by decide +kernel
theorem dX9_result_23 : decode cX9_result 23 = .ok (.iconst 4, 1) := by decide +kernel
theorem dX9_result_24 : decode cX9_result 24 = .ok (.iaload, 1) := by decide +kernel
theorem dX9_result_25 : decode cX9_result 25 = .ok (.iconst 1, 1) := by decide +kernel
theorem dX9_result_26 : decode cX9_result 26 = .ok (.if_icmp .ne 19, 3) := by decide +kernel
theorem dX9_result_29 : decode cX9_result 29 = .ok (.aload_n 0, 1) := by decide +kernel
theorem dX9_result_30 : decode cX9_result 30 = .ok (.getfield 7, 3) := by decide +kernel
theorem dX9_result_33 : decode cX9_result 33 = .ok (.bipush 91, 2) := by decide +kernel
theorem dX9_result_35 : decode cX9_result 35 = .ok (.iconst 2, 1) := by decide +kernel
theorem dX9_result_36 : decode cX9_result 36 = .ok (.iload_n 1, 1) := by decide +kernel
theorem dX9_result_37 : decode cX9_result 37 = .ok (.imul, 1) := by decide +kernel
theorem dX9_result_38 : decode cX9_result 38 = .ok (.iadd, 1) := by decide +kernel
theorem dX9_result_39 : decode cX9_result 39 = .ok (.iload_n 2, 1) := by decide +kernel
theorem dX9_result_40 : decode cX9_result 40 = .ok (.iadd, 1) := by decide +kernel
theorem dX9_result_41 : decode cX9_result 41 = .ok (.iaload, 1) := by decide +kernel
theorem dX9_result_42 : decode cX9_result 42 = .ok (.goto 5, 3) := by decide +kernel
theorem dX9_result_45 : decode cX9_result 45 = .ok (.bipush (-9), 2) := by decide +kernel
theorem dX9_result_47 : decode cX9_result 47 = .ok (.ireturn, 1) := by decide +kernel
theorem dX9_time_0 : decode cX9_time 0 = .ok (.iload_n 1, 1) := by decide +kernel
theorem dX9_time_1 : decode cX9_time 1 = .ok (.iconst 0, 1) := by decide +kernel
theorem dX9_time_2 : decode cX9_time 2 = .ok (.iconst 1, 1) := by decide +kernel
theorem dX9_time_3 : decode cX9_time 3 = .ok (.invokestatic 76, 3) := by decide +kernel
theorem dX9_time_6 : decode cX9_time 6 = .ok (.ifCond .eq 14, 3) := by decide +kernel
theorem dX9_time_9 : decode cX9_time 9 = .ok (.aload_n 0, 1) := by decide +kernel
theorem dX9_time_10 : decode cX9_time 10 = .ok (.getfield 7, 3) := by decide +kernel
theorem dX9_time_13 : decode cX9_time 13 = .ok (.iconst 5, 1) := by decide +kernel
theorem dX9_time_14 : decode cX9_time 14 = .ok (.iload_n 1, 1) := by decide +kernel
theorem dX9_time_15 : decode cX9_time 15 = .ok (.iadd, 1) := by decide +kernel
theorem dX9_time_16 : decode cX9_time 16 = .ok (.iaload, 1) := by decide +kernel
theorem dX9_time_17 : decode cX9_time 17 = .ok (.goto 4, 3) := by decide +kernel
theorem dX9_time_20 : decode cX9_time 20 = .ok (.iconst (-1), 1) := by decide +kernel
theorem dX9_time_21 : decode cX9_time 21 = .ok (.ireturn, 1) := by decide +kernel
theorem dX9_reached_0 : decode cX9_reached 0 = .ok (.iload_n 1, 1) := by decide +kernel
theorem dX9_reached_1 : decode cX9_reached 1 = .ok (.iconst 0, 1) := by decide +kernel
theorem dX9_reached_2 : decode cX9_reached 2 = .ok (.iconst 1, 1) := by decide +kernel
theorem dX9_reached_3 : decode cX9_reached 3 = .ok (.invokestatic 76, 3) := by decide +kernel
theorem dX9_reached_6 : decode cX9_reached 6 = .ok (.ifCond .ne 5, 3) := by decide +kernel
theorem dX9_reached_9 : decode cX9_reached 9 = .ok (.iconst (-1), 1) := by decide +kernel
theorem dX9_reached_10 : decode cX9_reached 10 = .ok (.ireturn, 1) := by decide +kernel
theorem dX9_reached_11 : decode cX9_reached 11 = .ok (.aload_n 0, 1) := by decide +kernel
theorem dX9_reached_12 : decode cX9_reached 12 = .ok (.getfield 7, 3) := by decide +kernel
theorem dX9_reached_15 : decode cX9_reached 15 = .ok (.iconst 0, 1) := by decide +kernel
theorem dX9_reached_16 : decode cX9_reached 16 = .ok (.iaload, 1) := by decide +kernel
theorem dX9_reached_17 : decode cX9_reached 17 = .ok (.istore_n 2, 1) := by decide +kernel
theorem dX9_reached_18 : decode cX9_reached 18 = .ok (.iconst 1, 1) := by decide +kernel
theorem dX9_reached_19 : decode cX9_reached 19 = .ok (.iload_n 2, 1) := by decide +kernel
theorem dX9_reached_20 : decode cX9_reached 20 = .ok (.ishl, 1) := by decide +kernel
theorem dX9_reached_21 : decode cX9_reached 21 = .ok (.iconst 1, 1) := by decide +kernel
theorem dX9_reached_22 : decode cX9_reached 22 = .ok (.isub, 1) := by decide +kernel
theorem dX9_reached_23 : decode cX9_reached 23 = .ok (.istore_n 3, 1) := by decide +kernel
theorem dX9_reached_24 : decode cX9_reached 24 = .ok (.iload_n 1, 1) := by decide +kernel
theorem dX9_reached_25 : decode cX9_reached 25 = .ok (.ifCond .ne 23, 3) := by decide +kernel
theorem dX9_reached_28 : decode cX9_reached 28 = .ok (.iconst 1, 1) := by decide +kernel
theorem dX9_reached_29 : decode cX9_reached 29 = .ok (.aload_n 0, 1) := by decide +kernel
theorem dX9_reached_30 : decode cX9_reached 30 = .ok (.aload_n 0, 1) := by decide +kernel
theorem dX9_reached_31 : decode cX9_reached 31 = .ok (.getfield 7, 3) := by decide +kernel
theorem dX9_reached_34 : decode cX9_reached 34 = .ok (.bipush 16, 2) := by decide +kernel
theorem dX9_reached_36 : decode cX9_reached 36 = .ok (.iaload, 1) := by decide +kernel
theorem dX9_reached_37 : decode cX9_reached 37 = .ok (.invokevirtual 134, 3) := by decide +kernel
theorem dX9_reached_40 : decode cX9_reached 40 = .ok (.iconst 1, 1) := by decide +kernel
theorem dX9_reached_41 : decode cX9_reached 41 = .ok (.iadd, 1) := by decide +kernel
theorem dX9_reached_42 : decode cX9_reached 42 = .ok (.ishl, 1) := by decide +kernel
theorem dX9_reached_43 : decode cX9_reached 43 = .ok (.iconst 1, 1) := by decide +kernel
theorem dX9_reached_44 : decode cX9_reached 44 = .ok (.isub, 1) := by decide +kernel
theorem dX9_reached_45 : decode cX9_reached 45 = .ok (.goto 22, 3) := by decide +kernel
theorem dX9_reached_48 : decode cX9_reached 48 = .ok (.iload_n 3, 1) := by decide +kernel
theorem dX9_reached_49 : decode cX9_reached 49 = .ok (.iconst 1, 1) := by decide +kernel
theorem dX9_reached_50 : decode cX9_reached 50 = .ok (.aload_n 0, 1) := by decide +kernel
theorem dX9_reached_51 : decode cX9_reached 51 = .ok (.aload_n 0, 1) := by decide +kernel
theorem dX9_reached_52 : decode cX9_reached 52 = .ok (.getfield 7, 3) := by decide +kernel
theorem dX9_reached_55 : decode cX9_reached 55 = .ok (.bipush 16, 2) := by decide +kernel
theorem dX9_reached_57 : decode cX9_reached 57 = .ok (.iaload, 1) := by decide +kernel
theorem dX9_reached_58 : decode cX9_reached 58 = .ok (.invokevirtual 138, 3) := by decide +kernel
theorem dX9_reached_61 : decode cX9_reached 61 = .ok (.ishl, 1) := by decide +kernel
theorem dX9_reached_62 : decode cX9_reached 62 = .ok (.iconst 1, 1) := by decide +kernel
theorem dX9_reached_63 : decode cX9_reached 63 = .ok (.isub, 1) := by decide +kernel
theorem dX9_reached_64 : decode cX9_reached 64 = .ok (.iconst (-1), 1) := by decide +kernel
theorem dX9_reached_65 : decode cX9_reached 65 = .ok (.ixor, 1) := by decide +kernel
theorem dX9_reached_66 : decode cX9_reached 66 = .ok (.iand, 1) := by decide +kernel
theorem dX9_reached_67 : decode cX9_reached 67 = .ok (.ireturn, 1) := by decide +kernel
theorem dX9_would_0 : decode cX9_would 0 = .ok (.iload_n 1, 1) := by decide +kernel
theorem dX9_would_1 : decode cX9_would 1 = .ok (.iconst 0, 1) := by decide +kernel
theorem dX9_would_2 : decode cX9_would 2 = .ok (.iconst 5, 1) := by decide +kernel
theorem dX9_would_3 : decode cX9_would 3 = .ok (.invokestatic 76, 3) := by decide +kernel
theorem dX9_would_6 : decode cX9_would 6 = .ok (.ifCond .ne 5, 3) := by decide +kernel
theorem dX9_would_9 : decode cX9_would 9 = .ok (.iconst (-1), 1) := by decide +kernel
theorem dX9_would_10 : decode cX9_would 10 = .ok (.ireturn, 1) := by decide +kernel
theorem dX9_would_11 : decode cX9_would 11 = .ok (.aload_n 0, 1) := by decide +kernel
theorem dX9_would_12 : decode cX9_would 12 = .ok (.aload_n 0, 1) := by decide +kernel
theorem dX9_would_13 : decode cX9_would 13 = .ok (.getfield 7, 3) := by decide +kernel
theorem dX9_would_16 : decode cX9_would 16 = .ok (.bipush 16, 2) := by decide +kernel
theorem dX9_would_18 : decode cX9_would 18 = .ok (.iaload, 1) := by decide +kernel
theorem dX9_would_19 : decode cX9_would 19 = .ok (.invokevirtual 192, 3) := by decide +kernel
theorem dX9_would_22 : decode cX9_would 22 = .ok (.aload_n 0, 1) := by decide +kernel
theorem dX9_would_23 : decode cX9_would 23 = .ok (.getfield 47, 3) := by decide +kernel
theorem dX9_would_26 : decode cX9_would 26 = .ok (.iload_n 1, 1) := by decide +kernel
theorem dX9_would_27 : decode cX9_would 27 = .ok (.iaload, 1) := by decide +kernel
theorem dX9_would_28 : decode cX9_would 28 = .ok (.ireturn, 1) := by decide +kernel
theorem dX9_sees_0 : decode cX9_sees 0 = .ok (.iload_n 1, 1) := by decide +kernel
theorem dX9_sees_1 : decode cX9_sees 1 = .ok (.iconst 0, 1) := by decide +kernel
theorem dX9_sees_2 : decode cX9_sees 2 = .ok (.iconst 5, 1) := by decide +kernel
theorem dX9_sees_3 : decode cX9_sees 3 = .ok (.invokestatic 76, 3) := by decide +kernel
theorem dX9_sees_6 : decode cX9_sees 6 = .ok (.ifCond .eq 25, 3) := by decide +kernel
theorem dX9_sees_9 : decode cX9_sees 9 = .ok (.iload_n 2, 1) := by decide +kernel
theorem dX9_sees_10 : decode cX9_sees 10 = .ok (.iconst 0, 1) := by decide +kernel
theorem dX9_sees_11 : decode cX9_sees 11 = .ok (.sipush 255, 3) := by decide +kernel
theorem dX9_sees_14 : decode cX9_sees 14 = .ok (.invokestatic 76, 3) := by decide +kernel
theorem dX9_sees_17 : decode cX9_sees 17 = .ok (.ifCond .ne 16, 3) := by decide +kernel
theorem dX9_sees_20 : decode cX9_sees 20 = .ok (.iload_n 1, 1) := by decide +kernel
theorem dX9_sees_21 : decode cX9_sees 21 = .ok (.iconst 3, 1) := by decide +kernel
theorem dX9_sees_22 : decode cX9_sees 22 = .ok (.if_icmp .le 9, 3) := by decide +kernel
theorem dX9_sees_25 : decode cX9_sees 25 = .ok (.iload_n 2, 1) := by decide +kernel
theorem dX9_sees_26 : decode cX9_sees 26 = .ok (.bipush (-9), 2) := by decide +kernel
theorem dX9_sees_28 : decode cX9_sees 28 = .ok (.if_icmp .eq 5, 3) := by decide +kernel
theorem dX9_sees_31 : decode cX9_sees 31 = .ok (.iconst (-1), 1) := by decide +kernel
theorem dX9_sees_32 : decode cX9_sees 32 = .ok (.ireturn, 1) := by decide +kernel
theorem dX9_sees_33 : decode cX9_sees 33 = .ok (.aload_n 0, 1) := by decide +kernel
theorem dX9_sees_34 : decode cX9_sees 34 = .ok (.getfield 195, 3) := by decide +kernel
theorem dX9_sees_37 : decode cX9_sees 37 = .ok (.bipush 6, 2) := by decide +kernel
theorem dX9_sees_39 : decode cX9_sees 39 = .ok (.if_icmp .ne 6, 3) := by decide +kernel
theorem dX9_sees_42 : decode cX9_sees 42 = .ok (.bipush (-3), 2) := by decide +kernel
theorem dX9_sees_44 : decode cX9_sees 44 = .ok (.ireturn, 1) := by decide +kernel
theorem dX9_sees_45 : decode cX9_sees 45 = .ok (.aload_n 0, 1) := by decide +kernel
theorem dX9_sees_46 : decode cX9_sees 46 = .ok (.getfield 29, 3) := by decide +kernel
theorem dX9_sees_49 : decode cX9_sees 49 = .ok (.aload_n 0, 1) := by decide +kernel
theorem dX9_sees_50 : decode cX9_sees 50 = .ok (.getfield 195, 3) := by decide +kernel
theorem dX9_sees_53 : decode cX9_sees 53 = .ok (.iload_n 1, 1) := by decide +kernel
theorem dX9_sees_54 : decode cX9_sees 54 = .ok (.iastore, 1) := by decide +kernel
theorem dX9_sees_55 : decode cX9_sees 55 = .ok (.aload_n 0, 1) := by decide +kernel
theorem dX9_sees_56 : decode cX9_sees 56 = .ok (.getfield 32, 3) := by decide +kernel
theorem dX9_sees_59 : decode cX9_sees 59 = .ok (.aload_n 0, 1) := by decide +kernel
theorem dX9_sees_60 : decode cX9_sees 60 = .ok (.getfield 195, 3) := by decide +kernel
theorem dX9_sees_63 : decode cX9_sees 63 = .ok (.iload_n 2, 1) := by decide +kernel
theorem dX9_sees_64 : decode cX9_sees 64 = .ok (.iastore, 1) := by decide +kernel
theorem dX9_sees_65 : decode cX9_sees 65 = .ok (.aload_n 0, 1) := by decide +kernel
theorem dX9_sees_66 : decode cX9_sees 66 = .ok (.dup, 1) := by decide +kernel
theorem dX9_sees_67 : decode cX9_sees 67 = .ok (.getfield 195, 3) := by decide +kernel
theorem dX9_sees_70 : decode cX9_sees 70 = .ok (.iconst 1, 1) := by decide +kernel
theorem dX9_sees_71 : decode cX9_sees 71 = .ok (.iadd, 1) := by decide +kernel
theorem dX9_sees_72 : decode cX9_sees 72 = .ok (.putfield 195, 3) := by decide +kernel
theorem dX9_sees_75 : decode cX9_sees 75 = .ok (.aload_n 0, 1) := by decide +kernel
theorem dX9_sees_76 : decode cX9_sees 76 = .ok (.getfield 195, 3) := by decide +kernel
theorem dX9_sees_79 : decode cX9_sees 79 = .ok (.ireturn, 1) := by decide +kernel
theorem dX9_forget_0 : decode cX9_forget 0 = .ok (.aload_n 0, 1) := by decide +kernel
theorem dX9_forget_1 : decode cX9_forget 1 = .ok (.getfield 195, 3) := by decide +kernel
theorem dX9_forget_4 : decode cX9_forget 4 = .ok (.istore_n 1, 1) := by decide +kernel
theorem dX9_forget_5 : decode cX9_forget 5 = .ok (.aload_n 0, 1) := by decide +kernel
theorem dX9_forget_6 : decode cX9_forget 6 = .ok (.iconst 0, 1) := by decide +kernel
theorem dX9_forget_7 : decode cX9_forget 7 = .ok (.putfield 195, 3) := by decide +kernel
theorem dX9_forget_10 : decode cX9_forget 10 = .ok (.iload_n 1, 1) := by decide +kernel
theorem dX9_forget_11 : decode cX9_forget 11 = .ok (.ireturn, 1) := by decide +kernel
theorem dX9_isSo_0 : decode cX9_isSo 0 = .ok (.aload_n 0, 1) := by decide +kernel
theorem dX9_isSo_1 : decode cX9_isSo 1 = .ok (.iload_n 1, 1) := by decide +kernel
theorem dX9_isSo_2 : decode cX9_isSo 2 = .ok (.invokevirtual 192, 3) := by decide +kernel
theorem dX9_isSo_5 : decode cX9_isSo 5 = .ok (.iconst 1, 1) := by decide +kernel
theorem dX9_isSo_6 : decode cX9_isSo 6 = .ok (.istore_n 2, 1) := by decide +kernel
theorem dX9_isSo_7 : decode cX9_isSo 7 = .ok (.iconst 0, 1) := by decide +kernel
theorem dX9_isSo_8 : decode cX9_isSo 8 = .ok (.istore_n 3, 1) := by decide +kernel
theorem dX9_isSo_9 : decode cX9_isSo 9 = .ok (.iload_n 3, 1) := by decide +kernel
theorem dX9_isSo_10 : decode cX9_isSo 10 = .ok (.aload_n 0, 1) := by decide +kernel
theorem dX9_isSo_11 : decode cX9_isSo 11 = .ok (.getfield 195, 3) := by decide +kernel
theorem dX9_isSo_14 : decode cX9_isSo 14 = .ok (.if_icmp .ge 39, 3) := by decide +kernel
theorem dX9_isSo_17 : decode cX9_isSo 17 = .ok (.iload_n 2, 1) := by decide +kernel
theorem dX9_isSo_18 : decode cX9_isSo 18 = .ok (.ifCond .eq 27, 3) := by decide +kernel
theorem dX9_isSo_21 : decode cX9_isSo 21 = .ok (.aload_n 0, 1) := by decide +kernel
theorem dX9_isSo_22 : decode cX9_isSo 22 = .ok (.getfield 47, 3) := by decide +kernel
theorem dX9_isSo_25 : decode cX9_isSo 25 = .ok (.aload_n 0, 1) := by decide +kernel
theorem dX9_isSo_26 : decode cX9_isSo 26 = .ok (.getfield 29, 3) := by decide +kernel
theorem dX9_isSo_29 : decode cX9_isSo 29 = .ok (.iload_n 3, 1) := by decide +kernel
theorem dX9_isSo_30 : decode cX9_isSo 30 = .ok (.iaload, 1) := by decide +kernel
theorem dX9_isSo_31 : decode cX9_isSo 31 = .ok (.iaload, 1) := by decide +kernel
theorem dX9_isSo_32 : decode cX9_isSo 32 = .ok (.aload_n 0, 1) := by decide +kernel
theorem dX9_isSo_33 : decode cX9_isSo 33 = .ok (.getfield 32, 3) := by decide +kernel
theorem dX9_isSo_36 : decode cX9_isSo 36 = .ok (.iload_n 3, 1) := by decide +kernel
theorem dX9_isSo_37 : decode cX9_isSo 37 = .ok (.iaload, 1) := by decide +kernel
theorem dX9_isSo_38 : decode cX9_isSo 38 = .ok (.if_icmp .ne 7, 3) := by decide +kernel
theorem dX9_isSo_41 : decode cX9_isSo 41 = .ok (.iconst 1, 1) := by decide +kernel
theorem dX9_isSo_42 : decode cX9_isSo 42 = .ok (.goto 4, 3) := by decide +kernel
theorem dX9_isSo_45 : decode cX9_isSo 45 = .ok (.iconst 0, 1) := by decide +kernel
theorem dX9_isSo_46 : decode cX9_isSo 46 = .ok (.istore_n 2, 1) := by decide +kernel
theorem dX9_isSo_47 : decode cX9_isSo 47 = .ok (.iinc 3 1, 3) := by decide +kernel
theorem dX9_isSo_50 : decode cX9_isSo 50 = .ok (.goto (-41), 3) := by decide +kernel
theorem dX9_isSo_53 : decode cX9_isSo 53 = .ok (.iload_n 2, 1) := by decide +kernel
theorem dX9_isSo_54 : decode cX9_isSo 54 = .ok (.ireturn, 1) := by decide +kernel
theorem dX9_findLinks_0 : decode cX9_findLinks 0 = .ok (.iconst 0, 1) := by decide +kernel
theorem dX9_findLinks_1 : decode cX9_findLinks 1 = .ok (.istore_n 1, 1) := by decide +kernel
theorem dX9_findLinks_2 : decode cX9_findLinks 2 = .ok (.iconst 0, 1) := by decide +kernel
theorem dX9_findLinks_3 : decode cX9_findLinks 3 = .ok (.istore_n 2, 1) := by decide +kernel
theorem dX9_findLinks_4 : decode cX9_findLinks 4 = .ok (.iload_n 2, 1) := by decide +kernel
theorem dX9_findLinks_5 : decode cX9_findLinks 5 = .ok (.aload_n 0, 1) := by decide +kernel
theorem dX9_findLinks_6 : decode cX9_findLinks 6 = .ok (.invokevirtual 167, 3) := by decide +kernel
theorem dX9_findLinks_9 : decode cX9_findLinks 9 = .ok (.if_icmp .ge 78, 3) := by decide +kernel
theorem dX9_findLinks_12 : decode cX9_findLinks 12 = .ok (.aload_n 0, 1) := by decide +kernel
theorem dX9_findLinks_13 : decode cX9_findLinks 13 = .ok (.getfield 7, 3) := by decide +kernel
theorem dX9_findLinks_16 : decode cX9_findLinks 16 = .ok (.bipush 16, 2) := by decide +kernel
theorem dX9_findLinks_18 : decode cX9_findLinks 18 = .ok (.iaload, 1) := by decide +kernel
theorem dX9_findLinks_19 : decode cX9_findLinks 19 = .ok (.iload_n 2, 1) := by decide +kernel
theorem dX9_findLinks_20 : decode cX9_findLinks 20 = .ok (.invokestatic 124, 3) := by decide +kernel
theorem dX9_findLinks_23 : decode cX9_findLinks 23 = .ok (.ifCond .ne 58, 3) := by decide +kernel
theorem dX9_findLinks_26 : decode cX9_findLinks 26 = .ok (.aload_n 0, 1) := by decide +kernel
theorem dX9_findLinks_27 : decode cX9_findLinks 27 = .ok (.aload_n 0, 1) := by decide +kernel
theorem dX9_findLinks_28 : decode cX9_findLinks 28 = .ok (.getfield 7, 3) := by decide +kernel
theorem dX9_findLinks_31 : decode cX9_findLinks 31 = .ok (.bipush 16, 2) := by decide +kernel
theorem dX9_findLinks_33 : decode cX9_findLinks 33 = .ok (.iaload, 1) := by decide +kernel
theorem dX9_findLinks_34 : decode cX9_findLinks 34 = .ok (.iconst 1, 1) := by decide +kernel
theorem dX9_findLinks_35 : decode cX9_findLinks 35 = .ok (.iload_n 2, 1) := by decide +kernel
theorem dX9_findLinks_36 : decode cX9_findLinks 36 = .ok (.ishl, 1) := by decide +kernel
theorem dX9_findLinks_37 : decode cX9_findLinks 37 = .ok (.ior, 1) := by decide +kernel
theorem dX9_findLinks_38 : decode cX9_findLinks 38 = .ok (.invokevirtual 198, 3) := by decide +kernel
theorem dX9_findLinks_41 : decode cX9_findLinks 41 = .ok (.ifCond .eq 40, 3) := by decide +kernel
theorem dX9_findLinks_44 : decode cX9_findLinks 44 = .ok (.iload_n 1, 1) := by decide +kernel
theorem dX9_findLinks_45 : decode cX9_findLinks 45 = .ok (.iconst 1, 1) := by decide +kernel
theorem dX9_findLinks_46 : decode cX9_findLinks 46 = .ok (.iload_n 2, 1) := by decide +kernel
theorem dX9_findLinks_47 : decode cX9_findLinks 47 = .ok (.ishl, 1) := by decide +kernel
theorem dX9_findLinks_48 : decode cX9_findLinks 48 = .ok (.ior, 1) := by decide +kernel
theorem dX9_findLinks_49 : decode cX9_findLinks 49 = .ok (.istore_n 1, 1) := by decide +kernel
theorem dX9_findLinks_50 : decode cX9_findLinks 50 = .ok (.iconst 0, 1) := by decide +kernel
theorem dX9_findLinks_51 : decode cX9_findLinks 51 = .ok (.istore_n 3, 1) := by decide +kernel
theorem dX9_findLinks_52 : decode cX9_findLinks 52 = .ok (.iload_n 3, 1) := by decide +kernel
theorem dX9_findLinks_53 : decode cX9_findLinks 53 = .ok (.bipush 6, 2) := by decide +kernel
theorem dX9_findLinks_55 : decode cX9_findLinks 55 = .ok (.if_icmp .ge 26, 3) := by decide +kernel
theorem dX9_findLinks_58 : decode cX9_findLinks 58 = .ok (.aload_n 0, 1) := by decide +kernel
theorem dX9_findLinks_59 : decode cX9_findLinks 59 = .ok (.getfield 53, 3) := by decide +kernel
theorem dX9_findLinks_62 : decode cX9_findLinks 62 = .ok (.bipush 6, 2) := by decide +kernel
theorem dX9_findLinks_64 : decode cX9_findLinks 64 = .ok (.iload_n 2, 1) := by decide +kernel
theorem dX9_findLinks_65 : decode cX9_findLinks 65 = .ok (.imul, 1) := by decide +kernel
theorem dX9_findLinks_66 : decode cX9_findLinks 66 = .ok (.iload_n 3, 1) := by decide +kernel
theorem dX9_findLinks_67 : decode cX9_findLinks 67 = .ok (.iadd, 1) := by decide +kernel
theorem dX9_findLinks_68 : decode cX9_findLinks 68 = .ok (.aload_n 0, 1) := by decide +kernel
theorem dX9_findLinks_69 : decode cX9_findLinks 69 = .ok (.getfield 47, 3) := by decide +kernel
theorem dX9_findLinks_72 : decode cX9_findLinks 72 = .ok (.iload_n 3, 1) := by decide +kernel
theorem dX9_findLinks_73 : decode cX9_findLinks 73 = .ok (.iaload, 1) := by decide +kernel
theorem dX9_findLinks_74 : decode cX9_findLinks 74 = .ok (.iastore, 1) := by decide +kernel
theorem dX9_findLinks_75 : decode cX9_findLinks 75 = .ok (.iinc 3 1, 3) := by decide +kernel
theorem dX9_findLinks_78 : decode cX9_findLinks 78 = .ok (.goto (-26), 3) := by decide +kernel
theorem dX9_findLinks_81 : decode cX9_findLinks 81 = .ok (.iinc 2 1, 3) := by decide +kernel
theorem dX9_findLinks_84 : decode cX9_findLinks 84 = .ok (.goto (-80), 3) := by decide +kernel
theorem dX9_findLinks_87 : decode cX9_findLinks 87 = .ok (.iload_n 1, 1) := by decide +kernel
theorem dX9_findLinks_88 : decode cX9_findLinks 88 = .ok (.ireturn, 1) := by decide +kernel
theorem dX9_which_0 : decode cX9_which 0 = .ok (.iload_n 1, 1) := by decide +kernel
theorem dX9_which_1 : decode cX9_which 1 = .ok (.iconst 0, 1) := by decide +kernel
theorem dX9_which_2 : decode cX9_which 2 = .ok (.iconst 2, 1) := by decide +kernel
theorem dX9_which_3 : decode cX9_which 3 = .ok (.invokestatic 76, 3) := by decide +kernel
theorem dX9_which_6 : decode cX9_which 6 = .ok (.ifCond .ne 5, 3) := by decide +kernel
theorem dX9_which_9 : decode cX9_which 9 = .ok (.iconst (-1), 1) := by decide +kernel
theorem dX9_which_10 : decode cX9_which 10 = .ok (.ireturn, 1) := by decide +kernel
theorem dX9_which_11 : decode cX9_which 11 = .ok (.iload_n 1, 1) := by decide +kernel
theorem dX9_which_12 : decode cX9_which 12 = .ok (.iconst 2, 1) := by decide +kernel
theorem dX9_which_13 : decode cX9_which 13 = .ok (.if_icmp .ne 23, 3) := by decide +kernel
theorem dX9_which_16 : decode cX9_which 16 = .ok (.aload_n 0, 1) := by decide +kernel
theorem dX9_which_17 : decode cX9_which 17 = .ok (.aload_n 0, 1) := by decide +kernel
theorem dX9_which_18 : decode cX9_which 18 = .ok (.getfield 7, 3) := by decide +kernel
theorem dX9_which_21 : decode cX9_which 21 = .ok (.bipush 16, 2) := by decide +kernel
theorem dX9_which_23 : decode cX9_which 23 = .ok (.iaload, 1) := by decide +kernel
theorem dX9_which_24 : decode cX9_which 24 = .ok (.invokevirtual 198, 3) := by decide +kernel
theorem dX9_which_27 : decode cX9_which 27 = .ok (.ifCond .eq 7, 3) := by decide +kernel
theorem dX9_which_30 : decode cX9_which 30 = .ok (.iconst 1, 1) := by decide +kernel
theorem dX9_which_31 : decode cX9_which 31 = .ok (.goto 4, 3) := by decide +kernel
theorem dX9_which_34 : decode cX9_which 34 = .ok (.iconst 0, 1) := by decide +kernel
theorem dX9_which_35 : decode cX9_which 35 = .ok (.ireturn, 1) := by decide +kernel
theorem dX9_which_36 : decode cX9_which 36 = .ok (.aload_n 0, 1) := by decide +kernel
theorem dX9_which_37 : decode cX9_which 37 = .ok (.invokevirtual 201, 3) := by decide +kernel
theorem dX9_which_40 : decode cX9_which 40 = .ok (.istore_n 2, 1) := by decide +kernel
theorem dX9_which_41 : decode cX9_which 41 = .ok (.iload_n 1, 1) := by decide +kernel
theorem dX9_which_42 : decode cX9_which 42 = .ok (.ifCond .ne 8, 3) := by decide +kernel
theorem dX9_which_45 : decode cX9_which 45 = .ok (.iload_n 2, 1) := by decide +kernel
theorem dX9_which_46 : decode cX9_which 46 = .ok (.invokestatic 173, 3) := by decide +kernel
theorem dX9_which_49 : decode cX9_which 49 = .ok (.ireturn, 1) := by decide +kernel
theorem dX9_which_50 : decode cX9_which 50 = .ok (.iconst 0, 1) := by decide +kernel
theorem dX9_which_51 : decode cX9_which 51 = .ok (.istore_n 3, 1) := by decide +kernel
theorem dX9_which_52 : decode cX9_which 52 = .ok (.iload_n 3, 1) := by decide +kernel
theorem dX9_which_53 : decode cX9_which 53 = .ok (.bipush 7, 2) := by decide +kernel
theorem dX9_which_55 : decode cX9_which 55 = .ok (.if_icmp .ge 19, 3) := by decide +kernel
theorem dX9_which_58 : decode cX9_which 58 = .ok (.iload_n 2, 1) := by decide +kernel
theorem dX9_which_59 : decode cX9_which 59 = .ok (.iload_n 3, 1) := by decide +kernel
theorem dX9_which_60 : decode cX9_which 60 = .ok (.invokestatic 124, 3) := by decide +kernel
theorem dX9_which_63 : decode cX9_which 63 = .ok (.ifCond .eq 5, 3) := by decide +kernel
theorem dX9_which_66 : decode cX9_which 66 = .ok (.iload_n 3, 1) := by decide +kernel
theorem dX9_which_67 : decode cX9_which 67 = .ok (.ireturn, 1) := by decide +kernel
theorem dX9_which_68 : decode cX9_which 68 = .ok (.iinc 3 1, 3) := by decide +kernel
theorem dX9_which_71 : decode cX9_which 71 = .ok (.goto (-19), 3) := by decide +kernel
theorem dX9_which_74 : decode cX9_which 74 = .ok (.bipush (-9), 2) := by decide +kernel
theorem dX9_which_76 : decode cX9_which 76 = .ok (.ireturn, 1) := by decide +kernel
theorem dX9_ask_0 : decode cX9_ask 0 = .ok (.aload_n 0, 1) := by decide +kernel
theorem dX9_ask_1 : decode cX9_ask 1 = .ok (.invokevirtual 201, 3) := by decide +kernel
theorem dX9_ask_4 : decode cX9_ask 4 = .ok (.istore_n 1, 1) := by decide +kernel
theorem dX9_ask_5 : decode cX9_ask 5 = .ok (.iload_n 1, 1) := by decide +kernel
theorem dX9_ask_6 : decode cX9_ask 6 = .ok (.invokestatic 173, 3) := by decide +kernel
theorem dX9_ask_9 : decode cX9_ask 9 = .ok (.iconst 2, 1) := by decide +kernel
theorem dX9_ask_10 : decode cX9_ask 10 = .ok (.if_icmp .ge 6, 3) := by decide +kernel
theorem dX9_ask_13 : decode cX9_ask 13 = .ok (.bipush (-9), 2) := by decide +kernel
theorem dX9_ask_15 : decode cX9_ask 15 = .ok (.ireturn, 1) := by decide +kernel
theorem dX9_ask_16 : decode cX9_ask 16 = .ok (.bipush (-9), 2) := by decide +kernel
theorem dX9_ask_18 : decode cX9_ask 18 = .ok (.istore_n 2, 1) := by decide +kernel
theorem dX9_ask_19 : decode cX9_ask 19 = .ok (.bipush 8, 2) := by decide +kernel
theorem dX9_ask_21 : decode cX9_ask 21 = .ok (.istore_n 3, 1) := by decide +kernel
theorem dX9_ask_22 : decode cX9_ask 22 = .ok (.iconst 0, 1) := by decide +kernel
theorem dX9_ask_23 : decode cX9_ask 23 = .ok (.istore 4, 2) := by decide +kernel
theorem dX9_ask_25 : decode cX9_ask 25 = .ok (.iload 4, 2) := by decide +kernel
theorem dX9_ask_27 : decode cX9_ask 27 = .ok (.bipush 6, 2) := by decide +kernel
theorem dX9_ask_29 : decode cX9_ask 29 = .ok (.if_icmp .ge 146, 3) := by decide +kernel
theorem dX9_ask_32 : decode cX9_ask 32 = .ok (.iconst 0, 1) := by decide +kernel
theorem dX9_ask_33 : decode cX9_ask 33 = .ok (.istore 5, 2) := by decide +kernel
theorem dX9_ask_35 : decode cX9_ask 35 = .ok (.iconst 0, 1) := by decide +kernel
theorem dX9_ask_36 : decode cX9_ask 36 = .ok (.istore 6, 2) := by decide +kernel
theorem dX9_ask_38 : decode cX9_ask 38 = .ok (.iload 6, 2) := by decide +kernel
theorem dX9_ask_40 : decode cX9_ask 40 = .ok (.bipush 7, 2) := by decide +kernel
theorem dX9_ask_42 : decode cX9_ask 42 = .ok (.if_icmp .ge 101, 3) := by decide +kernel
theorem dX9_ask_45 : decode cX9_ask 45 = .ok (.iconst 0, 1) := by decide +kernel
theorem dX9_ask_46 : decode cX9_ask 46 = .ok (.istore 7, 2) := by decide +kernel
theorem dX9_ask_48 : decode cX9_ask 48 = .ok (.iconst 0, 1) := by decide +kernel
theorem dX9_ask_49 : decode cX9_ask 49 = .ok (.istore 8, 2) := by decide +kernel
theorem dX9_ask_51 : decode cX9_ask 51 = .ok (.iload 8, 2) := by decide +kernel
theorem dX9_ask_53 : decode cX9_ask 53 = .ok (.bipush 7, 2) := by decide +kernel
theorem dX9_ask_55 : decode cX9_ask 55 = .ok (.if_icmp .ge 66, 3) := by decide +kernel
theorem dX9_ask_58 : decode cX9_ask 58 = .ok (.iload 7, 2) := by decide +kernel
theorem dX9_ask_60 : decode cX9_ask 60 = .ok (.iload_n 1, 1) := by decide +kernel
theorem dX9_ask_61 : decode cX9_ask 61 = .ok (.iload 6, 2) := by decide +kernel
theorem dX9_ask_63 : decode cX9_ask 63 = .ok (.invokestatic 124, 3) := by decide +kernel
theorem dX9_ask_66 : decode cX9_ask 66 = .ok (.ifCond .eq 45, 3) := by decide +kernel
theorem dX9_ask_69 : decode cX9_ask 69 = .ok (.iload_n 1, 1) := by decide +kernel
theorem dX9_ask_70 : decode cX9_ask 70 = .ok (.iload 8, 2) := by decide +kernel
theorem dX9_ask_72 : decode cX9_ask 72 = .ok (.invokestatic 124, 3) := by decide +kernel
theorem dX9_ask_75 : decode cX9_ask 75 = .ok (.ifCond .eq 36, 3) := by decide +kernel
theorem dX9_ask_78 : decode cX9_ask 78 = .ok (.aload_n 0, 1) := by decide +kernel
theorem dX9_ask_79 : decode cX9_ask 79 = .ok (.getfield 53, 3) := by decide +kernel
theorem dX9_ask_82 : decode cX9_ask 82 = .ok (.bipush 6, 2) := by decide +kernel
theorem dX9_ask_84 : decode cX9_ask 84 = .ok (.iload 6, 2) := by decide +kernel
theorem dX9_ask_86 : decode cX9_ask 86 = .ok (.imul, 1) := by decide +kernel
theorem dX9_ask_87 : decode cX9_ask 87 = .ok (.iload 4, 2) := by decide +kernel
theorem dX9_ask_89 : decode cX9_ask 89 = .ok (.iadd, 1) := by decide +kernel
theorem dX9_ask_90 : decode cX9_ask 90 = .ok (.iaload, 1) := by decide +kernel
theorem dX9_ask_91 : decode cX9_ask 91 = .ok (.aload_n 0, 1) := by decide +kernel
theorem dX9_ask_92 : decode cX9_ask 92 = .ok (.getfield 53, 3) := by decide +kernel
theorem dX9_ask_95 : decode cX9_ask 95 = .ok (.bipush 6, 2) := by decide +kernel
theorem dX9_ask_97 : decode cX9_ask 97 = .ok (.iload 8, 2) := by decide +kernel
theorem dX9_ask_99 : decode cX9_ask 99 = .ok (.imul, 1) := by decide +kernel
theorem dX9_ask_100 : decode cX9_ask 100 = .ok (.iload 4, 2) := by decide +kernel
theorem dX9_ask_102 : decode cX9_ask 102 = .ok (.iadd, 1) := by decide +kernel
theorem dX9_ask_103 : decode cX9_ask 103 = .ok (.iaload, 1) := by decide +kernel
theorem dX9_ask_104 : decode cX9_ask 104 = .ok (.if_icmp .ne 7, 3) := by decide +kernel
theorem dX9_ask_107 : decode cX9_ask 107 = .ok (.iconst 1, 1) := by decide +kernel
theorem dX9_ask_108 : decode cX9_ask 108 = .ok (.goto 4, 3) := by decide +kernel
theorem dX9_ask_111 : decode cX9_ask 111 = .ok (.iconst 0, 1) := by decide +kernel
theorem dX9_ask_112 : decode cX9_ask 112 = .ok (.iadd, 1) := by decide +kernel
theorem dX9_ask_113 : decode cX9_ask 113 = .ok (.istore 7, 2) := by decide +kernel
theorem dX9_ask_115 : decode cX9_ask 115 = .ok (.iinc 8 1, 3) := by decide +kernel
theorem dX9_ask_118 : decode cX9_ask 118 = .ok (.goto (-67), 3) := by decide +kernel
theorem dX9_ask_121 : decode cX9_ask 121 = .ok (.iload 7, 2) := by decide +kernel
theorem dX9_ask_123 : decode cX9_ask 123 = .ok (.iload 5, 2) := by decide +kernel
theorem dX9_ask_125 : decode cX9_ask 125 = .ok (.if_icmp .le 8, 3) := by decide +kernel
theorem dX9_ask_128 : decode cX9_ask 128 = .ok (.iload 7, 2) := by decide +kernel
theorem dX9_ask_130 : decode cX9_ask 130 = .ok (.goto 5, 3) := by decide +kernel
theorem dX9_ask_133 : decode cX9_ask 133 = .ok (.iload 5, 2) := by decide +kernel
theorem dX9_ask_135 : decode cX9_ask 135 = .ok (.istore 5, 2) := by decide +kernel
theorem dX9_ask_137 : decode cX9_ask 137 = .ok (.iinc 6 1, 3) := by decide +kernel
theorem dX9_ask_140 : decode cX9_ask 140 = .ok (.goto (-102), 3) := by decide +kernel
theorem dX9_ask_143 : decode cX9_ask 143 = .ok (.iload 5, 2) := by decide +kernel
theorem dX9_ask_145 : decode cX9_ask 145 = .ok (.iload_n 3, 1) := by decide +kernel
theorem dX9_ask_146 : decode cX9_ask 146 = .ok (.if_icmp .ge 8, 3) := by decide +kernel
theorem dX9_ask_149 : decode cX9_ask 149 = .ok (.iload 4, 2) := by decide +kernel
theorem dX9_ask_151 : decode cX9_ask 151 = .ok (.goto 4, 3) := by decide +kernel
theorem dX9_ask_154 : decode cX9_ask 154 = .ok (.iload_n 2, 1) := by decide +kernel
theorem dX9_ask_155 : decode cX9_ask 155 = .ok (.istore_n 2, 1) := by decide +kernel
theorem dX9_ask_156 : decode cX9_ask 156 = .ok (.iload 5, 2) := by decide +kernel
theorem dX9_ask_158 : decode cX9_ask 158 = .ok (.iload_n 3, 1) := by decide +kernel
theorem dX9_ask_159 : decode cX9_ask 159 = .ok (.if_icmp .ge 8, 3) := by decide +kernel
theorem dX9_ask_162 : decode cX9_ask 162 = .ok (.iload 5, 2) := by decide +kernel
theorem dX9_ask_164 : decode cX9_ask 164 = .ok (.goto 4, 3) := by decide +kernel
theorem dX9_ask_167 : decode cX9_ask 167 = .ok (.iload_n 3, 1) := by decide +kernel
theorem dX9_ask_168 : decode cX9_ask 168 = .ok (.istore_n 3, 1) := by decide +kernel
theorem dX9_ask_169 : decode cX9_ask 169 = .ok (.iinc 4 1, 3) := by decide +kernel
theorem dX9_ask_172 : decode cX9_ask 172 = .ok (.goto (-147), 3) := by decide +kernel
theorem dX9_ask_175 : decode cX9_ask 175 = .ok (.iload_n 2, 1) := by decide +kernel
theorem dX9_ask_176 : decode cX9_ask 176 = .ok (.ireturn, 1) := by decide +kernel
theorem dX9_keep_0 : decode cX9_keep 0 = .ok (.iload_n 1, 1) := by decide +kernel
theorem dX9_keep_1 : decode cX9_keep 1 = .ok (.iconst 0, 1) := by decide +kernel
theorem dX9_keep_2 : decode cX9_keep 2 = .ok (.iconst 1, 1) := by decide +kernel
theorem dX9_keep_3 : decode cX9_keep 3 = .ok (.invokestatic 76, 3) := by decide +kernel
theorem dX9_keep_6 : decode cX9_keep 6 = .ok (.ifCond .ne 5, 3) := by decide +kernel
theorem dX9_keep_9 : decode cX9_keep 9 = .ok (.iconst (-1), 1) := by decide +kernel
theorem dX9_keep_10 : decode cX9_keep 10 = .ok (.ireturn, 1) := by decide +kernel
theorem dX9_keep_11 : decode cX9_keep 11 = .ok (.aload_n 0, 1) := by decide +kernel
theorem dX9_keep_12 : decode cX9_keep 12 = .ok (.getfield 7, 3) := by decide +kernel
theorem dX9_keep_15 : decode cX9_keep 15 = .ok (.iconst 0, 1) := by decide +kernel
theorem dX9_keep_16 : decode cX9_keep 16 = .ok (.aload_n 0, 1) := by decide +kernel
theorem dX9_keep_17 : decode cX9_keep 17 = .ok (.getfield 19, 3) := by decide +kernel
theorem dX9_keep_20 : decode cX9_keep 20 = .ok (.bipush 99, 2) := by decide +kernel
theorem dX9_keep_22 : decode cX9_keep 22 = .ok (.iload_n 1, 1) := by decide +kernel
theorem dX9_keep_23 : decode cX9_keep 23 = .ok (.imul, 1) := by decide +kernel
theorem dX9_keep_24 : decode cX9_keep 24 = .ok (.invokestatic 59, 3) := by decide +kernel
theorem dX9_keep_27 : decode cX9_keep 27 = .ok (.aload_n 0, 1) := by decide +kernel
theorem dX9_keep_28 : decode cX9_keep 28 = .ok (.getfield 22, 3) := by decide +kernel
theorem dX9_keep_31 : decode cX9_keep 31 = .ok (.iload_n 1, 1) := by decide +kernel
theorem dX9_keep_32 : decode cX9_keep 32 = .ok (.iconst 1, 1) := by decide +kernel
theorem dX9_keep_33 : decode cX9_keep 33 = .ok (.bastore, 1) := by decide +kernel
theorem dX9_keep_34 : decode cX9_keep 34 = .ok (.aload_n 0, 1) := by decide +kernel
theorem dX9_keep_35 : decode cX9_keep 35 = .ok (.getfield 7, 3) := by decide +kernel
theorem dX9_keep_38 : decode cX9_keep 38 = .ok (.iconst 0, 1) := by decide +kernel
theorem dX9_keep_39 : decode cX9_keep 39 = .ok (.iaload, 1) := by decide +kernel
theorem dX9_keep_40 : decode cX9_keep 40 = .ok (.ireturn, 1) := by decide +kernel
theorem dX9_back_0 : decode cX9_back 0 = .ok (.iload_n 1, 1) := by decide +kernel
theorem dX9_back_1 : decode cX9_back 1 = .ok (.iconst 0, 1) := by decide +kernel
theorem dX9_back_2 : decode cX9_back 2 = .ok (.iconst 1, 1) := by decide +kernel
theorem dX9_back_3 : decode cX9_back 3 = .ok (.invokestatic 76, 3) := by decide +kernel
theorem dX9_back_6 : decode cX9_back 6 = .ok (.ifCond .ne 5, 3) := by decide +kernel
theorem dX9_back_9 : decode cX9_back 9 = .ok (.iconst (-1), 1) := by decide +kernel
theorem dX9_back_10 : decode cX9_back 10 = .ok (.ireturn, 1) := by decide +kernel
theorem dX9_back_11 : decode cX9_back 11 = .ok (.aload_n 0, 1) := by decide +kernel
theorem dX9_back_12 : decode cX9_back 12 = .ok (.getfield 22, 3) := by decide +kernel
theorem dX9_back_15 : decode cX9_back 15 = .ok (.iload_n 1, 1) := by decide +kernel
theorem dX9_back_16 : decode cX9_back 16 = .ok (.baload, 1) := by decide +kernel
theorem dX9_back_17 : decode cX9_back 17 = .ok (.ifCond .ne 6, 3) := by decide +kernel
theorem dX9_back_20 : decode cX9_back 20 = .ok (.bipush (-2), 2) := by decide +kernel
theorem dX9_back_22 : decode cX9_back 22 = .ok (.ireturn, 1) := by decide +kernel
theorem dX9_back_23 : decode cX9_back 23 = .ok (.aload_n 0, 1) := by decide +kernel
theorem dX9_back_24 : decode cX9_back 24 = .ok (.getfield 19, 3) := by decide +kernel
theorem dX9_back_27 : decode cX9_back 27 = .ok (.bipush 99, 2) := by decide +kernel
theorem dX9_back_29 : decode cX9_back 29 = .ok (.iload_n 1, 1) := by decide +kernel
theorem dX9_back_30 : decode cX9_back 30 = .ok (.imul, 1) := by decide +kernel
theorem dX9_back_31 : decode cX9_back 31 = .ok (.aload_n 0, 1) := by decide +kernel
theorem dX9_back_32 : decode cX9_back 32 = .ok (.getfield 7, 3) := by decide +kernel
theorem dX9_back_35 : decode cX9_back 35 = .ok (.iconst 0, 1) := by decide +kernel
theorem dX9_back_36 : decode cX9_back 36 = .ok (.invokestatic 59, 3) := by decide +kernel
theorem dX9_back_39 : decode cX9_back 39 = .ok (.aload_n 0, 1) := by decide +kernel
theorem dX9_back_40 : decode cX9_back 40 = .ok (.iconst 0, 1) := by decide +kernel
theorem dX9_back_41 : decode cX9_back 41 = .ok (.putfield 164, 3) := by decide +kernel
theorem dX9_back_44 : decode cX9_back 44 = .ok (.aload_n 0, 1) := by decide +kernel
theorem dX9_back_45 : decode cX9_back 45 = .ok (.getfield 7, 3) := by decide +kernel
theorem dX9_back_48 : decode cX9_back 48 = .ok (.iconst 0, 1) := by decide +kernel
theorem dX9_back_49 : decode cX9_back 49 = .ok (.iaload, 1) := by decide +kernel
theorem dX9_back_50 : decode cX9_back 50 = .ok (.ireturn, 1) := by decide +kernel
theorem dX9_spread_0 : decode cX9_spread 0 = .ok (.aload_n 0, 1) := by decide +kernel
theorem dX9_spread_1 : decode cX9_spread 1 = .ok (.iconst 0, 1) := by decide +kernel
theorem dX9_spread_2 : decode cX9_spread 2 = .ok (.invokevirtual 186, 3) := by decide +kernel
theorem dX9_spread_5 : decode cX9_spread 5 = .ok (.istore_n 1, 1) := by decide +kernel
theorem dX9_spread_6 : decode cX9_spread 6 = .ok (.aload_n 0, 1) := by decide +kernel
theorem dX9_spread_7 : decode cX9_spread 7 = .ok (.iconst 0, 1) := by decide +kernel
theorem dX9_spread_8 : decode cX9_spread 8 = .ok (.invokevirtual 186, 3) := by decide +kernel
theorem dX9_spread_11 : decode cX9_spread 11 = .ok (.istore_n 2, 1) := by decide +kernel
theorem dX9_spread_12 : decode cX9_spread 12 = .ok (.iconst 1, 1) := by decide +kernel
theorem dX9_spread_13 : decode cX9_spread 13 = .ok (.istore_n 3, 1) := by decide +kernel
theorem dX9_spread_14 : decode cX9_spread 14 = .ok (.iload_n 3, 1) := by decide +kernel
theorem dX9_spread_15 : decode cX9_spread 15 = .ok (.aload_n 0, 1) := by decide +kernel
theorem dX9_spread_16 : decode cX9_spread 16 = .ok (.getfield 7, 3) := by decide +kernel
theorem dX9_spread_19 : decode cX9_spread 19 = .ok (.iconst 0, 1) := by decide +kernel
theorem dX9_spread_20 : decode cX9_spread 20 = .ok (.iaload, 1) := by decide +kernel
theorem dX9_spread_21 : decode cX9_spread 21 = .ok (.if_icmp .ge 47, 3) := by decide +kernel
theorem dX9_spread_24 : decode cX9_spread 24 = .ok (.aload_n 0, 1) := by decide +kernel
theorem dX9_spread_25 : decode cX9_spread 25 = .ok (.iload_n 3, 1) := by decide +kernel
theorem dX9_spread_26 : decode cX9_spread 26 = .ok (.invokevirtual 186, 3) := by decide +kernel
theorem dX9_spread_29 : decode cX9_spread 29 = .ok (.iload_n 1, 1) := by decide +kernel
theorem dX9_spread_30 : decode cX9_spread 30 = .ok (.if_icmp .ge 11, 3) := by decide +kernel
theorem dX9_spread_33 : decode cX9_spread 33 = .ok (.aload_n 0, 1) := by decide +kernel
theorem dX9_spread_34 : decode cX9_spread 34 = .ok (.iload_n 3, 1) := by decide +kernel
theorem dX9_spread_35 : decode cX9_spread 35 = .ok (.invokevirtual 186, 3) := by decide +kernel
theorem dX9_spread_38 : decode cX9_spread 38 = .ok (.goto 4, 3) := by decide +kernel
theorem dX9_spread_41 : decode cX9_spread 41 = .ok (.iload_n 1, 1) := by decide +kernel
theorem dX9_spread_42 : decode cX9_spread 42 = .ok (.istore_n 1, 1) := by decide +kernel
theorem dX9_spread_43 : decode cX9_spread 43 = .ok (.aload_n 0, 1) := by decide +kernel
theorem dX9_spread_44 : decode cX9_spread 44 = .ok (.iload_n 3, 1) := by decide +kernel
theorem dX9_spread_45 : decode cX9_spread 45 = .ok (.invokevirtual 186, 3) := by decide +kernel
theorem dX9_spread_48 : decode cX9_spread 48 = .ok (.iload_n 2, 1) := by decide +kernel
theorem dX9_spread_49 : decode cX9_spread 49 = .ok (.if_icmp .le 11, 3) := by decide +kernel
theorem dX9_spread_52 : decode cX9_spread 52 = .ok (.aload_n 0, 1) := by decide +kernel
theorem dX9_spread_53 : decode cX9_spread 53 = .ok (.iload_n 3, 1) := by decide +kernel
theorem dX9_spread_54 : decode cX9_spread 54 = .ok (.invokevirtual 186, 3) := by decide +kernel
theorem dX9_spread_57 : decode cX9_spread 57 = .ok (.goto 4, 3) := by decide +kernel
theorem dX9_spread_60 : decode cX9_spread 60 = .ok (.iload_n 2, 1) := by decide +kernel
theorem dX9_spread_61 : decode cX9_spread 61 = .ok (.istore_n 2, 1) := by decide +kernel
theorem dX9_spread_62 : decode cX9_spread 62 = .ok (.iinc 3 1, 3) := by decide +kernel
theorem dX9_spread_65 : decode cX9_spread 65 = .ok (.goto (-51), 3) := by decide +kernel
theorem dX9_spread_68 : decode cX9_spread 68 = .ok (.iload_n 2, 1) := by decide +kernel
theorem dX9_spread_69 : decode cX9_spread 69 = .ok (.iload_n 1, 1) := by decide +kernel
theorem dX9_spread_70 : decode cX9_spread 70 = .ok (.isub, 1) := by decide +kernel
theorem dX9_spread_71 : decode cX9_spread 71 = .ok (.ireturn, 1) := by decide +kernel
theorem dX9_count_0 : decode cX9_count 0 = .ok (.iload_n 1, 1) := by decide +kernel
theorem dX9_count_1 : decode cX9_count 1 = .ok (.tableswitch 152 0 12 #[67, 74, 79, 86, 93, 100, 111, 116, 124, 132, 137, 142, 147], 67) := by decide +kernel
theorem dX9_count_68 : decode cX9_count 68 = .ok (.aload_n 0, 1) := by decide +kernel
theorem dX9_count_69 : decode cX9_count 69 = .ok (.getfield 7, 3) := by decide +kernel
theorem dX9_count_72 : decode cX9_count 72 = .ok (.iconst 0, 1) := by decide +kernel
theorem dX9_count_73 : decode cX9_count 73 = .ok (.iaload, 1) := by decide +kernel
theorem dX9_count_74 : decode cX9_count 74 = .ok (.ireturn, 1) := by decide +kernel
theorem dX9_count_75 : decode cX9_count 75 = .ok (.aload_n 0, 1) := by decide +kernel
theorem dX9_count_76 : decode cX9_count 76 = .ok (.invokevirtual 167, 3) := by decide +kernel
theorem dX9_count_79 : decode cX9_count 79 = .ok (.ireturn, 1) := by decide +kernel
theorem dX9_count_80 : decode cX9_count 80 = .ok (.aload_n 0, 1) := by decide +kernel
theorem dX9_count_81 : decode cX9_count 81 = .ok (.getfield 7, 3) := by decide +kernel
theorem dX9_count_84 : decode cX9_count 84 = .ok (.iconst 1, 1) := by decide +kernel
theorem dX9_count_85 : decode cX9_count 85 = .ok (.iaload, 1) := by decide +kernel
theorem dX9_count_86 : decode cX9_count 86 = .ok (.ireturn, 1) := by decide +kernel
theorem dX9_count_87 : decode cX9_count 87 = .ok (.aload_n 0, 1) := by decide +kernel
theorem dX9_count_88 : decode cX9_count 88 = .ok (.getfield 7, 3) := by decide +kernel
theorem dX9_count_91 : decode cX9_count 91 = .ok (.iconst 2, 1) := by decide +kernel
theorem dX9_count_92 : decode cX9_count 92 = .ok (.iaload, 1) := by decide +kernel
theorem dX9_count_93 : decode cX9_count 93 = .ok (.ireturn, 1) := by decide +kernel
theorem dX9_count_94 : decode cX9_count 94 = .ok (.aload_n 0, 1) := by decide +kernel
theorem dX9_count_95 : decode cX9_count 95 = .ok (.getfield 7, 3) := by decide +kernel
theorem dX9_count_98 : decode cX9_count 98 = .ok (.iconst 3, 1) := by decide +kernel
theorem dX9_count_99 : decode cX9_count 99 = .ok (.iaload, 1) := by decide +kernel
theorem dX9_count_100 : decode cX9_count 100 = .ok (.ireturn, 1) := by decide +kernel
theorem dX9_count_101 : decode cX9_count 101 = .ok (.aload_n 0, 1) := by decide +kernel
theorem dX9_count_102 : decode cX9_count 102 = .ok (.getfield 7, 3) := by decide +kernel
theorem dX9_count_105 : decode cX9_count 105 = .ok (.bipush 16, 2) := by decide +kernel
theorem dX9_count_107 : decode cX9_count 107 = .ok (.iaload, 1) := by decide +kernel
theorem dX9_count_108 : decode cX9_count 108 = .ok (.invokestatic 173, 3) := by decide +kernel
theorem dX9_count_111 : decode cX9_count 111 = .ok (.ireturn, 1) := by decide +kernel
theorem dX9_count_112 : decode cX9_count 112 = .ok (.aload_n 0, 1) := by decide +kernel
theorem dX9_count_113 : decode cX9_count 113 = .ok (.invokevirtual 179, 3) := by decide +kernel
theorem dX9_count_116 : decode cX9_count 116 = .ok (.ireturn, 1) := by decide +kernel
theorem dX9_count_117 : decode cX9_count 117 = .ok (.aload_n 0, 1) := by decide +kernel
theorem dX9_count_118 : decode cX9_count 118 = .ok (.getfield 7, 3) := by decide +kernel
theorem dX9_count_121 : decode cX9_count 121 = .ok (.bipush 7, 2) := by decide +kernel
theorem dX9_count_123 : decode cX9_count 123 = .ok (.iaload, 1) := by decide +kernel
theorem dX9_count_124 : decode cX9_count 124 = .ok (.ireturn, 1) := by decide +kernel
theorem dX9_count_125 : decode cX9_count 125 = .ok (.aload_n 0, 1) := by decide +kernel
theorem dX9_count_126 : decode cX9_count 126 = .ok (.getfield 7, 3) := by decide +kernel
theorem dX9_count_129 : decode cX9_count 129 = .ok (.bipush 8, 2) := by decide +kernel
theorem dX9_count_131 : decode cX9_count 131 = .ok (.iaload, 1) := by decide +kernel
theorem dX9_count_132 : decode cX9_count 132 = .ok (.ireturn, 1) := by decide +kernel
theorem dX9_count_133 : decode cX9_count 133 = .ok (.aload_n 0, 1) := by decide +kernel
theorem dX9_count_134 : decode cX9_count 134 = .ok (.invokevirtual 204, 3) := by decide +kernel
theorem dX9_count_137 : decode cX9_count 137 = .ok (.ireturn, 1) := by decide +kernel
theorem dX9_count_138 : decode cX9_count 138 = .ok (.aload_n 0, 1) := by decide +kernel
theorem dX9_count_139 : decode cX9_count 139 = .ok (.getfield 195, 3) := by decide +kernel
theorem dX9_count_142 : decode cX9_count 142 = .ok (.ireturn, 1) := by decide +kernel
theorem dX9_count_143 : decode cX9_count 143 = .ok (.aload_n 0, 1) := by decide +kernel
theorem dX9_count_144 : decode cX9_count 144 = .ok (.getfield 67, 3) := by decide +kernel
theorem dX9_count_147 : decode cX9_count 147 = .ok (.ireturn, 1) := by decide +kernel
theorem dX9_count_148 : decode cX9_count 148 = .ok (.aload_n 0, 1) := by decide +kernel
theorem dX9_count_149 : decode cX9_count 149 = .ok (.getfield 164, 3) := by decide +kernel
theorem dX9_count_152 : decode cX9_count 152 = .ok (.ireturn, 1) := by decide +kernel
theorem dX9_count_153 : decode cX9_count 153 = .ok (.iconst (-1), 1) := by decide +kernel
theorem dX9_count_154 : decode cX9_count 154 = .ok (.ireturn, 1) := by decide +kernel
theorem dJ6_bitCount_0f7a4_0 : decode cJ6_bitCount_0f7a4 0 = .ok (.iload_n 0, 1) := by decide +kernel
theorem dJ6_bitCount_0f7a4_1 : decode cJ6_bitCount_0f7a4 1 = .ok (.iload_n 0, 1) := by decide +kernel
theorem dJ6_bitCount_0f7a4_2 : decode cJ6_bitCount_0f7a4 2 = .ok (.iconst 1, 1) := by decide +kernel
theorem dJ6_bitCount_0f7a4_3 : decode cJ6_bitCount_0f7a4 3 = .ok (.iushr, 1) := by decide +kernel
theorem dJ6_bitCount_0f7a4_4 : decode cJ6_bitCount_0f7a4 4 = .ok (.ldc_w 265, 3) := by decide +kernel
theorem dJ6_bitCount_0f7a4_7 : decode cJ6_bitCount_0f7a4 7 = .ok (.iand, 1) := by decide +kernel
theorem dJ6_bitCount_0f7a4_8 : decode cJ6_bitCount_0f7a4 8 = .ok (.isub, 1) := by decide +kernel
theorem dJ6_bitCount_0f7a4_9 : decode cJ6_bitCount_0f7a4 9 = .ok (.istore_n 0, 1) := by decide +kernel
theorem dJ6_bitCount_0f7a4_10 : decode cJ6_bitCount_0f7a4 10 = .ok (.iload_n 0, 1) := by decide +kernel
theorem dJ6_bitCount_0f7a4_11 : decode cJ6_bitCount_0f7a4 11 = .ok (.ldc_w 266, 3) := by decide +kernel
theorem dJ6_bitCount_0f7a4_14 : decode cJ6_bitCount_0f7a4 14 = .ok (.iand, 1) := by decide +kernel
theorem dJ6_bitCount_0f7a4_15 : decode cJ6_bitCount_0f7a4 15 = .ok (.iload_n 0, 1) := by decide +kernel
theorem dJ6_bitCount_0f7a4_16 : decode cJ6_bitCount_0f7a4 16 = .ok (.iconst 2, 1) := by decide +kernel
theorem dJ6_bitCount_0f7a4_17 : decode cJ6_bitCount_0f7a4 17 = .ok (.iushr, 1) := by decide +kernel
theorem dJ6_bitCount_0f7a4_18 : decode cJ6_bitCount_0f7a4 18 = .ok (.ldc_w 266, 3) := by decide +kernel
theorem dJ6_bitCount_0f7a4_21 : decode cJ6_bitCount_0f7a4 21 = .ok (.iand, 1) := by decide +kernel
theorem dJ6_bitCount_0f7a4_22 : decode cJ6_bitCount_0f7a4 22 = .ok (.iadd, 1) := by decide +kernel
theorem dJ6_bitCount_0f7a4_23 : decode cJ6_bitCount_0f7a4 23 = .ok (.istore_n 0, 1) := by decide +kernel
theorem dJ6_bitCount_0f7a4_24 : decode cJ6_bitCount_0f7a4 24 = .ok (.iload_n 0, 1) := by decide +kernel
theorem dJ6_bitCount_0f7a4_25 : decode cJ6_bitCount_0f7a4 25 = .ok (.iload_n 0, 1) := by decide +kernel
theorem dJ6_bitCount_0f7a4_26 : decode cJ6_bitCount_0f7a4 26 = .ok (.iconst 4, 1) := by decide +kernel
theorem dJ6_bitCount_0f7a4_27 : decode cJ6_bitCount_0f7a4 27 = .ok (.iushr, 1) := by decide +kernel
theorem dJ6_bitCount_0f7a4_28 : decode cJ6_bitCount_0f7a4 28 = .ok (.iadd, 1) := by decide +kernel
theorem dJ6_bitCount_0f7a4_29 : decode cJ6_bitCount_0f7a4 29 = .ok (.ldc_w 267, 3) := by decide +kernel
theorem dJ6_bitCount_0f7a4_32 : decode cJ6_bitCount_0f7a4 32 = .ok (.iand, 1) := by decide +kernel
theorem dJ6_bitCount_0f7a4_33 : decode cJ6_bitCount_0f7a4 33 = .ok (.istore_n 0, 1) := by decide +kernel
theorem dJ6_bitCount_0f7a4_34 : decode cJ6_bitCount_0f7a4 34 = .ok (.iload_n 0, 1) := by decide +kernel
theorem dJ6_bitCount_0f7a4_35 : decode cJ6_bitCount_0f7a4 35 = .ok (.iload_n 0, 1) := by decide +kernel
theorem dJ6_bitCount_0f7a4_36 : decode cJ6_bitCount_0f7a4 36 = .ok (.bipush 8, 2) := by decide +kernel
theorem dJ6_bitCount_0f7a4_38 : decode cJ6_bitCount_0f7a4 38 = .ok (.iushr, 1) := by decide +kernel
theorem dJ6_bitCount_0f7a4_39 : decode cJ6_bitCount_0f7a4 39 = .ok (.iadd, 1) := by decide +kernel
theorem dJ6_bitCount_0f7a4_40 : decode cJ6_bitCount_0f7a4 40 = .ok (.istore_n 0, 1) := by decide +kernel
theorem dJ6_bitCount_0f7a4_41 : decode cJ6_bitCount_0f7a4 41 = .ok (.iload_n 0, 1) := by decide +kernel
theorem dJ6_bitCount_0f7a4_42 : decode cJ6_bitCount_0f7a4 42 = .ok (.iload_n 0, 1) := by decide +kernel
theorem dJ6_bitCount_0f7a4_43 : decode cJ6_bitCount_0f7a4 43 = .ok (.bipush 16, 2) := by decide +kernel
theorem dJ6_bitCount_0f7a4_45 : decode cJ6_bitCount_0f7a4 45 = .ok (.iushr, 1) := by decide +kernel
theorem dJ6_bitCount_0f7a4_46 : decode cJ6_bitCount_0f7a4 46 = .ok (.iadd, 1) := by decide +kernel
theorem dJ6_bitCount_0f7a4_47 : decode cJ6_bitCount_0f7a4 47 = .ok (.istore_n 0, 1) := by decide +kernel
theorem dJ6_bitCount_0f7a4_48 : decode cJ6_bitCount_0f7a4 48 = .ok (.iload_n 0, 1) := by decide +kernel
theorem dJ6_bitCount_0f7a4_49 : decode cJ6_bitCount_0f7a4 49 = .ok (.bipush 63, 2) := by decide +kernel
theorem dJ6_bitCount_0f7a4_51 : decode cJ6_bitCount_0f7a4 51 = .ok (.iand, 1) := by decide +kernel
theorem dJ6_bitCount_0f7a4_52 : decode cJ6_bitCount_0f7a4 52 = .ok (.ireturn, 1) := by decide +kernel
theorem dJ9_max_7cf53_0 : decode cJ9_max_7cf53 0 = .ok (.iload_n 0, 1) := by decide +kernel
theorem dJ9_max_7cf53_1 : decode cJ9_max_7cf53 1 = .ok (.iload_n 1, 1) := by decide +kernel
theorem dJ9_max_7cf53_2 : decode cJ9_max_7cf53 2 = .ok (.if_icmp .lt 7, 3) := by decide +kernel
theorem dJ9_max_7cf53_5 : decode cJ9_max_7cf53 5 = .ok (.iload_n 0, 1) := by decide +kernel
theorem dJ9_max_7cf53_6 : decode cJ9_max_7cf53 6 = .ok (.goto 4, 3) := by decide +kernel
theorem dJ9_max_7cf53_9 : decode cJ9_max_7cf53 9 = .ok (.iload_n 1, 1) := by decide +kernel
theorem dJ9_max_7cf53_10 : decode cJ9_max_7cf53 10 = .ok (.ireturn, 1) := by decide +kernel
theorem dJ9_min_7cf53_0 : decode cJ9_min_7cf53 0 = .ok (.iload_n 0, 1) := by decide +kernel
theorem dJ9_min_7cf53_1 : decode cJ9_min_7cf53 1 = .ok (.iload_n 1, 1) := by decide +kernel
theorem dJ9_min_7cf53_2 : decode cJ9_min_7cf53 2 = .ok (.if_icmp .gt 7, 3) := by decide +kernel
theorem dJ9_min_7cf53_5 : decode cJ9_min_7cf53 5 = .ok (.iload_n 0, 1) := by decide +kernel
theorem dJ9_min_7cf53_6 : decode cJ9_min_7cf53 6 = .ok (.goto 4, 3) := by decide +kernel
theorem dJ9_min_7cf53_9 : decode cJ9_min_7cf53 9 = .ok (.iload_n 1, 1) := by decide +kernel
theorem dJ9_min_7cf53_10 : decode cJ9_min_7cf53 10 = .ok (.ireturn, 1) := by decide +kernel
theorem dJ7_rangeCheck_23922_0 : decode cJ7_rangeCheck_23922 0 = .ok (.iload_n 1, 1) := by decide +kernel
theorem dJ7_rangeCheck_23922_1 : decode cJ7_rangeCheck_23922 1 = .ok (.iload_n 2, 1) := by decide +kernel
theorem dJ7_rangeCheck_23922_2 : decode cJ7_rangeCheck_23922 2 = .ok (.if_icmp .le 44, 3) := by decide +kernel
theorem dJ7_rangeCheck_23922_5 : decode cJ7_rangeCheck_23922 5 = .ok (.new 43, 3) := by decide +kernel
theorem dJ7_rangeCheck_23922_8 : decode cJ7_rangeCheck_23922 8 = .ok (.dup, 1) := by decide +kernel
theorem dJ7_rangeCheck_23922_9 : decode cJ7_rangeCheck_23922 9 = .ok (.new 45, 3) := by decide +kernel
theorem dJ7_rangeCheck_23922_12 : decode cJ7_rangeCheck_23922 12 = .ok (.dup, 1) := by decide +kernel
theorem dJ7_rangeCheck_23922_13 : decode cJ7_rangeCheck_23922 13 = .ok (.invokespecial 47, 3) := by decide +kernel
theorem dJ7_rangeCheck_23922_16 : decode cJ7_rangeCheck_23922 16 = .ok (.ldc 48, 2) := by decide +kernel
theorem dJ7_rangeCheck_23922_18 : decode cJ7_rangeCheck_23922 18 = .ok (.invokevirtual 50, 3) := by decide +kernel
theorem dJ7_rangeCheck_23922_21 : decode cJ7_rangeCheck_23922 21 = .ok (.iload_n 1, 1) := by decide +kernel
theorem dJ7_rangeCheck_23922_22 : decode cJ7_rangeCheck_23922 22 = .ok (.invokevirtual 54, 3) := by decide +kernel
theorem dJ7_rangeCheck_23922_25 : decode cJ7_rangeCheck_23922 25 = .ok (.ldc 57, 2) := by decide +kernel
theorem dJ7_rangeCheck_23922_27 : decode cJ7_rangeCheck_23922 27 = .ok (.invokevirtual 50, 3) := by decide +kernel
theorem dJ7_rangeCheck_23922_30 : decode cJ7_rangeCheck_23922 30 = .ok (.iload_n 2, 1) := by decide +kernel
theorem dJ7_rangeCheck_23922_31 : decode cJ7_rangeCheck_23922 31 = .ok (.invokevirtual 54, 3) := by decide +kernel
theorem dJ7_rangeCheck_23922_34 : decode cJ7_rangeCheck_23922 34 = .ok (.ldc 59, 2) := by decide +kernel
theorem dJ7_rangeCheck_23922_36 : decode cJ7_rangeCheck_23922 36 = .ok (.invokevirtual 50, 3) := by decide +kernel
theorem dJ7_rangeCheck_23922_39 : decode cJ7_rangeCheck_23922 39 = .ok (.invokevirtual 61, 3) := by decide +kernel
theorem dJ7_rangeCheck_23922_42 : decode cJ7_rangeCheck_23922 42 = .ok (.invokespecial 65, 3) := by decide +kernel
theorem dJ7_rangeCheck_23922_45 : decode cJ7_rangeCheck_23922 45 = .ok (.athrow, 1) := by decide +kernel
theorem dJ7_rangeCheck_23922_46 : decode cJ7_rangeCheck_23922 46 = .ok (.iload_n 1, 1) := by decide +kernel
theorem dJ7_rangeCheck_23922_47 : decode cJ7_rangeCheck_23922 47 = .ok (.ifCond .ge 12, 3) := by decide +kernel
theorem dJ7_rangeCheck_23922_50 : decode cJ7_rangeCheck_23922 50 = .ok (.new 68, 3) := by decide +kernel
theorem dJ7_rangeCheck_23922_53 : decode cJ7_rangeCheck_23922 53 = .ok (.dup, 1) := by decide +kernel
theorem dJ7_rangeCheck_23922_54 : decode cJ7_rangeCheck_23922 54 = .ok (.iload_n 1, 1) := by decide +kernel
theorem dJ7_rangeCheck_23922_55 : decode cJ7_rangeCheck_23922 55 = .ok (.invokespecial 70, 3) := by decide +kernel
theorem dJ7_rangeCheck_23922_58 : decode cJ7_rangeCheck_23922 58 = .ok (.athrow, 1) := by decide +kernel
theorem dJ7_rangeCheck_23922_59 : decode cJ7_rangeCheck_23922 59 = .ok (.iload_n 2, 1) := by decide +kernel
theorem dJ7_rangeCheck_23922_60 : decode cJ7_rangeCheck_23922 60 = .ok (.iload_n 0, 1) := by decide +kernel
theorem dJ7_rangeCheck_23922_61 : decode cJ7_rangeCheck_23922 61 = .ok (.if_icmp .le 12, 3) := by decide +kernel
theorem dJ7_rangeCheck_23922_64 : decode cJ7_rangeCheck_23922 64 = .ok (.new 68, 3) := by decide +kernel
theorem dJ7_rangeCheck_23922_67 : decode cJ7_rangeCheck_23922 67 = .ok (.dup, 1) := by decide +kernel
theorem dJ7_rangeCheck_23922_68 : decode cJ7_rangeCheck_23922 68 = .ok (.iload_n 2, 1) := by decide +kernel
theorem dJ7_rangeCheck_23922_69 : decode cJ7_rangeCheck_23922 69 = .ok (.invokespecial 70, 3) := by decide +kernel
theorem dJ7_rangeCheck_23922_72 : decode cJ7_rangeCheck_23922 72 = .ok (.athrow, 1) := by decide +kernel
theorem dJ7_rangeCheck_23922_73 : decode cJ7_rangeCheck_23922 73 = .ok (.return_, 1) := by decide +kernel
theorem dJ7_fill_53178_0 : decode cJ7_fill_53178 0 = .ok (.iconst 0, 1) := by decide +kernel
theorem dJ7_fill_53178_1 : decode cJ7_fill_53178 1 = .ok (.istore_n 2, 1) := by decide +kernel
theorem dJ7_fill_53178_2 : decode cJ7_fill_53178 2 = .ok (.aload_n 0, 1) := by decide +kernel
theorem dJ7_fill_53178_3 : decode cJ7_fill_53178 3 = .ok (.arraylength, 1) := by decide +kernel
theorem dJ7_fill_53178_4 : decode cJ7_fill_53178 4 = .ok (.istore_n 3, 1) := by decide +kernel
theorem dJ7_fill_53178_5 : decode cJ7_fill_53178 5 = .ok (.iload_n 2, 1) := by decide +kernel
theorem dJ7_fill_53178_6 : decode cJ7_fill_53178 6 = .ok (.iload_n 3, 1) := by decide +kernel
theorem dJ7_fill_53178_7 : decode cJ7_fill_53178 7 = .ok (.if_icmp .ge 13, 3) := by decide +kernel
theorem dJ7_fill_53178_10 : decode cJ7_fill_53178 10 = .ok (.aload_n 0, 1) := by decide +kernel
theorem dJ7_fill_53178_11 : decode cJ7_fill_53178 11 = .ok (.iload_n 2, 1) := by decide +kernel
theorem dJ7_fill_53178_12 : decode cJ7_fill_53178 12 = .ok (.iload_n 1, 1) := by decide +kernel
theorem dJ7_fill_53178_13 : decode cJ7_fill_53178 13 = .ok (.iastore, 1) := by decide +kernel
theorem dJ7_fill_53178_14 : decode cJ7_fill_53178 14 = .ok (.iinc 2 1, 3) := by decide +kernel
theorem dJ7_fill_53178_17 : decode cJ7_fill_53178 17 = .ok (.goto (-12), 3) := by decide +kernel
theorem dJ7_fill_53178_20 : decode cJ7_fill_53178 20 = .ok (.return_, 1) := by decide +kernel
theorem dJ7_fill_fda19_0 : decode cJ7_fill_fda19 0 = .ok (.aload_n 0, 1) := by decide +kernel
theorem dJ7_fill_fda19_1 : decode cJ7_fill_fda19 1 = .ok (.arraylength, 1) := by decide +kernel
theorem dJ7_fill_fda19_2 : decode cJ7_fill_fda19 2 = .ok (.iload_n 1, 1) := by decide +kernel
theorem dJ7_fill_fda19_3 : decode cJ7_fill_fda19 3 = .ok (.iload_n 2, 1) := by decide +kernel
theorem dJ7_fill_fda19_4 : decode cJ7_fill_fda19 4 = .ok (.invokestatic 13, 3) := by decide +kernel
theorem dJ7_fill_fda19_7 : decode cJ7_fill_fda19 7 = .ok (.iload_n 1, 1) := by decide +kernel
theorem dJ7_fill_fda19_8 : decode cJ7_fill_fda19 8 = .ok (.istore 4, 2) := by decide +kernel
theorem dJ7_fill_fda19_10 : decode cJ7_fill_fda19 10 = .ok (.iload 4, 2) := by decide +kernel
theorem dJ7_fill_fda19_12 : decode cJ7_fill_fda19 12 = .ok (.iload_n 2, 1) := by decide +kernel
theorem dJ7_fill_fda19_13 : decode cJ7_fill_fda19 13 = .ok (.if_icmp .ge 14, 3) := by decide +kernel
theorem dJ7_fill_fda19_16 : decode cJ7_fill_fda19 16 = .ok (.aload_n 0, 1) := by decide +kernel
theorem dJ7_fill_fda19_17 : decode cJ7_fill_fda19 17 = .ok (.iload 4, 2) := by decide +kernel
theorem dJ7_fill_fda19_19 : decode cJ7_fill_fda19 19 = .ok (.iload_n 3, 1) := by decide +kernel
theorem dJ7_fill_fda19_20 : decode cJ7_fill_fda19 20 = .ok (.iastore, 1) := by decide +kernel
theorem dJ7_fill_fda19_21 : decode cJ7_fill_fda19 21 = .ok (.iinc 4 1, 3) := by decide +kernel
theorem dJ7_fill_fda19_24 : decode cJ7_fill_fda19 24 = .ok (.goto (-14), 3) := by decide +kernel
theorem dJ7_fill_fda19_27 : decode cJ7_fill_fda19 27 = .ok (.return_, 1) := by decide +kernel
theorem dL_law_0 : decode cL_law 0 = .ok (.new 7, 3) := by decide +kernel
theorem dL_law_3 : decode cL_law 3 = .ok (.dup, 1) := by decide +kernel
theorem dL_law_4 : decode cL_law 4 = .ok (.invokespecial 9, 3) := by decide +kernel
theorem dL_law_7 : decode cL_law 7 = .ok (.astore_n 1, 1) := by decide +kernel
theorem dL_law_8 : decode cL_law 8 = .ok (.new 10, 3) := by decide +kernel
theorem dL_law_11 : decode cL_law 11 = .ok (.dup, 1) := by decide +kernel
theorem dL_law_12 : decode cL_law 12 = .ok (.invokespecial 12, 3) := by decide +kernel
theorem dL_law_15 : decode cL_law 15 = .ok (.astore_n 2, 1) := by decide +kernel
theorem dL_law_16 : decode cL_law 16 = .ok (.iconst 0, 1) := by decide +kernel
theorem dL_law_17 : decode cL_law 17 = .ok (.istore_n 3, 1) := by decide +kernel
theorem dL_law_18 : decode cL_law 18 = .ok (.iload_n 3, 1) := by decide +kernel
theorem dL_law_19 : decode cL_law 19 = .ok (.aload_n 0, 1) := by decide +kernel
theorem dL_law_20 : decode cL_law 20 = .ok (.arraylength, 1) := by decide +kernel
theorem dL_law_21 : decode cL_law 21 = .ok (.iconst 4, 1) := by decide +kernel
theorem dL_law_22 : decode cL_law 22 = .ok (.isub, 1) := by decide +kernel
theorem dL_law_23 : decode cL_law 23 = .ok (.if_icmp .gt 743, 3) := by decide +kernel
theorem dL_law_26 : decode cL_law 26 = .ok (.aload_n 0, 1) := by decide +kernel
theorem dL_law_27 : decode cL_law 27 = .ok (.iload_n 3, 1) := by decide +kernel
theorem dL_law_28 : decode cL_law 28 = .ok (.iaload, 1) := by decide +kernel
theorem dL_law_29 : decode cL_law 29 = .ok (.bipush 31, 2) := by decide +kernel
theorem dL_law_31 : decode cL_law 31 = .ok (.iand, 1) := by decide +kernel
theorem dL_law_32 : decode cL_law 32 = .ok (.tableswitch 728 0 25 #[120, 143, 156, 169, 182, 205, 228, 251, 274, 317, 350, 363, 376, 409, 442, 475, 508, 531, 554, 577, 610, 623, 646, 659, 682, 705], 120) := by decide +kernel
theorem dL_law_152 : decode cL_law 152 = .ok (.aload_n 1, 1) := by decide +kernel
theorem dL_law_153 : decode cL_law 153 = .ok (.aload_n 0, 1) := by decide +kernel
theorem dL_law_154 : decode cL_law 154 = .ok (.iload_n 3, 1) := by decide +kernel
theorem dL_law_155 : decode cL_law 155 = .ok (.iconst 1, 1) := by decide +kernel
theorem dL_law_156 : decode cL_law 156 = .ok (.iadd, 1) := by decide +kernel
theorem dL_law_157 : decode cL_law 157 = .ok (.iaload, 1) := by decide +kernel
theorem dL_law_158 : decode cL_law 158 = .ok (.invokevirtual 13, 3) := by decide +kernel
theorem dL_law_161 : decode cL_law 161 = .ok (.aload_n 2, 1) := by decide +kernel
theorem dL_law_162 : decode cL_law 162 = .ok (.aload_n 0, 1) := by decide +kernel
theorem dL_law_163 : decode cL_law 163 = .ok (.iload_n 3, 1) := by decide +kernel
theorem dL_law_164 : decode cL_law 164 = .ok (.iconst 1, 1) := by decide +kernel
theorem dL_law_165 : decode cL_law 165 = .ok (.iadd, 1) := by decide +kernel
theorem dL_law_166 : decode cL_law 166 = .ok (.iaload, 1) := by decide +kernel
theorem dL_law_167 : decode cL_law 167 = .ok (.invokevirtual 17, 3) := by decide +kernel
theorem dL_law_170 : decode cL_law 170 = .ok (.if_icmp .eq 590, 3) := by decide +kernel
theorem dL_law_173 : decode cL_law 173 = .ok (.iconst 0, 1) := by decide +kernel
theorem dL_law_174 : decode cL_law 174 = .ok (.ireturn, 1) := by decide +kernel
theorem dL_law_175 : decode cL_law 175 = .ok (.aload_n 1, 1) := by decide +kernel
theorem dL_law_176 : decode cL_law 176 = .ok (.invokevirtual 18, 3) := by decide +kernel
theorem dL_law_179 : decode cL_law 179 = .ok (.aload_n 2, 1) := by decide +kernel
theorem dL_law_180 : decode cL_law 180 = .ok (.invokevirtual 22, 3) := by decide +kernel
theorem dL_law_183 : decode cL_law 183 = .ok (.if_icmp .eq 577, 3) := by decide +kernel
theorem dL_law_186 : decode cL_law 186 = .ok (.iconst 0, 1) := by decide +kernel
theorem dL_law_187 : decode cL_law 187 = .ok (.ireturn, 1) := by decide +kernel
theorem dL_law_188 : decode cL_law 188 = .ok (.aload_n 1, 1) := by decide +kernel
theorem dL_law_189 : decode cL_law 189 = .ok (.invokevirtual 23, 3) := by decide +kernel
theorem dL_law_192 : decode cL_law 192 = .ok (.aload_n 2, 1) := by decide +kernel
theorem dL_law_193 : decode cL_law 193 = .ok (.invokevirtual 26, 3) := by decide +kernel
theorem dL_law_196 : decode cL_law 196 = .ok (.if_icmp .eq 564, 3) := by decide +kernel
theorem dL_law_199 : decode cL_law 199 = .ok (.iconst 0, 1) := by decide +kernel
theorem dL_law_200 : decode cL_law 200 = .ok (.ireturn, 1) := by decide +kernel
theorem dL_law_201 : decode cL_law 201 = .ok (.aload_n 1, 1) := by decide +kernel
theorem dL_law_202 : decode cL_law 202 = .ok (.invokevirtual 27, 3) := by decide +kernel
theorem dL_law_205 : decode cL_law 205 = .ok (.aload_n 2, 1) := by decide +kernel
theorem dL_law_206 : decode cL_law 206 = .ok (.invokevirtual 30, 3) := by decide +kernel
theorem dL_law_209 : decode cL_law 209 = .ok (.if_icmp .eq 551, 3) := by decide +kernel
theorem dL_law_212 : decode cL_law 212 = .ok (.iconst 0, 1) := by decide +kernel
theorem dL_law_213 : decode cL_law 213 = .ok (.ireturn, 1) := by decide +kernel
theorem dL_law_214 : decode cL_law 214 = .ok (.aload_n 1, 1) := by decide +kernel
theorem dL_law_215 : decode cL_law 215 = .ok (.aload_n 0, 1) := by decide +kernel
theorem dL_law_216 : decode cL_law 216 = .ok (.iload_n 3, 1) := by decide +kernel
theorem dL_law_217 : decode cL_law 217 = .ok (.iconst 1, 1) := by decide +kernel
theorem dL_law_218 : decode cL_law 218 = .ok (.iadd, 1) := by decide +kernel
theorem dL_law_219 : decode cL_law 219 = .ok (.iaload, 1) := by decide +kernel
theorem dL_law_220 : decode cL_law 220 = .ok (.invokevirtual 31, 3) := by decide +kernel
theorem dL_law_223 : decode cL_law 223 = .ok (.aload_n 2, 1) := by decide +kernel
theorem dL_law_224 : decode cL_law 224 = .ok (.aload_n 0, 1) := by decide +kernel
theorem dL_law_225 : decode cL_law 225 = .ok (.iload_n 3, 1) := by decide +kernel
theorem dL_law_226 : decode cL_law 226 = .ok (.iconst 1, 1) := by decide +kernel
theorem dL_law_227 : decode cL_law 227 = .ok (.iadd, 1) := by decide +kernel
theorem dL_law_228 : decode cL_law 228 = .ok (.iaload, 1) := by decide +kernel
theorem dL_law_229 : decode cL_law 229 = .ok (.invokevirtual 34, 3) := by decide +kernel
theorem dL_law_232 : decode cL_law 232 = .ok (.if_icmp .eq 528, 3) := by decide +kernel
theorem dL_law_235 : decode cL_law 235 = .ok (.iconst 0, 1) := by decide +kernel
theorem dL_law_236 : decode cL_law 236 = .ok (.ireturn, 1) := by decide +kernel
theorem dL_law_237 : decode cL_law 237 = .ok (.aload_n 1, 1) := by decide +kernel
theorem dL_law_238 : decode cL_law 238 = .ok (.aload_n 0, 1) := by decide +kernel
theorem dL_law_239 : decode cL_law 239 = .ok (.iload_n 3, 1) := by decide +kernel
theorem dL_law_240 : decode cL_law 240 = .ok (.iconst 1, 1) := by decide +kernel
theorem dL_law_241 : decode cL_law 241 = .ok (.iadd, 1) := by decide +kernel
theorem dL_law_242 : decode cL_law 242 = .ok (.iaload, 1) := by decide +kernel
theorem dL_law_243 : decode cL_law 243 = .ok (.invokevirtual 35, 3) := by decide +kernel
theorem dL_law_246 : decode cL_law 246 = .ok (.aload_n 2, 1) := by decide +kernel
theorem dL_law_247 : decode cL_law 247 = .ok (.aload_n 0, 1) := by decide +kernel
theorem dL_law_248 : decode cL_law 248 = .ok (.iload_n 3, 1) := by decide +kernel
theorem dL_law_249 : decode cL_law 249 = .ok (.iconst 1, 1) := by decide +kernel
theorem dL_law_250 : decode cL_law 250 = .ok (.iadd, 1) := by decide +kernel
theorem dL_law_251 : decode cL_law 251 = .ok (.iaload, 1) := by decide +kernel
theorem dL_law_252 : decode cL_law 252 = .ok (.invokevirtual 38, 3) := by decide +kernel
theorem dL_law_255 : decode cL_law 255 = .ok (.if_icmp .eq 505, 3) := by decide +kernel
theorem dL_law_258 : decode cL_law 258 = .ok (.iconst 0, 1) := by decide +kernel
theorem dL_law_259 : decode cL_law 259 = .ok (.ireturn, 1) := by decide +kernel
theorem dL_law_260 : decode cL_law 260 = .ok (.aload_n 1, 1) := by decide +kernel
theorem dL_law_261 : decode cL_law 261 = .ok (.aload_n 0, 1) := by decide +kernel
theorem dL_law_262 : decode cL_law 262 = .ok (.iload_n 3, 1) := by decide +kernel
theorem dL_law_263 : decode cL_law 263 = .ok (.iconst 1, 1) := by decide +kernel
theorem dL_law_264 : decode cL_law 264 = .ok (.iadd, 1) := by decide +kernel
theorem dL_law_265 : decode cL_law 265 = .ok (.iaload, 1) := by decide +kernel
theorem dL_law_266 : decode cL_law 266 = .ok (.invokevirtual 39, 3) := by decide +kernel
theorem dL_law_269 : decode cL_law 269 = .ok (.aload_n 2, 1) := by decide +kernel
theorem dL_law_270 : decode cL_law 270 = .ok (.aload_n 0, 1) := by decide +kernel
theorem dL_law_271 : decode cL_law 271 = .ok (.iload_n 3, 1) := by decide +kernel
theorem dL_law_272 : decode cL_law 272 = .ok (.iconst 1, 1) := by decide +kernel
theorem dL_law_273 : decode cL_law 273 = .ok (.iadd, 1) := by decide +kernel
theorem dL_law_274 : decode cL_law 274 = .ok (.iaload, 1) := by decide +kernel
theorem dL_law_275 : decode cL_law 275 = .ok (.invokevirtual 42, 3) := by decide +kernel
theorem dL_law_278 : decode cL_law 278 = .ok (.if_icmp .eq 482, 3) := by decide +kernel
theorem dL_law_281 : decode cL_law 281 = .ok (.iconst 0, 1) := by decide +kernel
theorem dL_law_282 : decode cL_law 282 = .ok (.ireturn, 1) := by decide +kernel
theorem dL_law_283 : decode cL_law 283 = .ok (.aload_n 1, 1) := by decide +kernel
theorem dL_law_284 : decode cL_law 284 = .ok (.aload_n 0, 1) := by decide +kernel
theorem dL_law_285 : decode cL_law 285 = .ok (.iload_n 3, 1) := by decide +kernel
theorem dL_law_286 : decode cL_law 286 = .ok (.iconst 1, 1) := by decide +kernel
theorem dL_law_287 : decode cL_law 287 = .ok (.iadd, 1) := by decide +kernel
theorem dL_law_288 : decode cL_law 288 = .ok (.iaload, 1) := by decide +kernel
theorem dL_law_289 : decode cL_law 289 = .ok (.invokevirtual 43, 3) := by decide +kernel
theorem dL_law_292 : decode cL_law 292 = .ok (.aload_n 2, 1) := by decide +kernel
theorem dL_law_293 : decode cL_law 293 = .ok (.aload_n 0, 1) := by decide +kernel
theorem dL_law_294 : decode cL_law 294 = .ok (.iload_n 3, 1) := by decide +kernel
theorem dL_law_295 : decode cL_law 295 = .ok (.iconst 1, 1) := by decide +kernel
theorem dL_law_296 : decode cL_law 296 = .ok (.iadd, 1) := by decide +kernel
theorem dL_law_297 : decode cL_law 297 = .ok (.iaload, 1) := by decide +kernel
theorem dL_law_298 : decode cL_law 298 = .ok (.invokevirtual 46, 3) := by decide +kernel
theorem dL_law_301 : decode cL_law 301 = .ok (.if_icmp .eq 459, 3) := by decide +kernel
theorem dL_law_304 : decode cL_law 304 = .ok (.iconst 0, 1) := by decide +kernel
theorem dL_law_305 : decode cL_law 305 = .ok (.ireturn, 1) := by decide +kernel
theorem dL_law_306 : decode cL_law 306 = .ok (.aload_n 1, 1) := by decide +kernel
theorem dL_law_307 : decode cL_law 307 = .ok (.aload_n 0, 1) := by decide +kernel
theorem dL_law_308 : decode cL_law 308 = .ok (.iload_n 3, 1) := by decide +kernel
theorem dL_law_309 : decode cL_law 309 = .ok (.iconst 1, 1) := by decide +kernel
theorem dL_law_310 : decode cL_law 310 = .ok (.iadd, 1) := by decide +kernel
theorem dL_law_311 : decode cL_law 311 = .ok (.iaload, 1) := by decide +kernel
theorem dL_law_312 : decode cL_law 312 = .ok (.aload_n 0, 1) := by decide +kernel
theorem dL_law_313 : decode cL_law 313 = .ok (.iload_n 3, 1) := by decide +kernel
theorem dL_law_314 : decode cL_law 314 = .ok (.iconst 2, 1) := by decide +kernel
theorem dL_law_315 : decode cL_law 315 = .ok (.iadd, 1) := by decide +kernel
theorem dL_law_316 : decode cL_law 316 = .ok (.iaload, 1) := by decide +kernel
theorem dL_law_317 : decode cL_law 317 = .ok (.aload_n 0, 1) := by decide +kernel
theorem dL_law_318 : decode cL_law 318 = .ok (.iload_n 3, 1) := by decide +kernel
theorem dL_law_319 : decode cL_law 319 = .ok (.iconst 3, 1) := by decide +kernel
theorem dL_law_320 : decode cL_law 320 = .ok (.iadd, 1) := by decide +kernel
theorem dL_law_321 : decode cL_law 321 = .ok (.iaload, 1) := by decide +kernel
theorem dL_law_322 : decode cL_law 322 = .ok (.invokevirtual 47, 3) := by decide +kernel
theorem dL_law_325 : decode cL_law 325 = .ok (.aload_n 2, 1) := by decide +kernel
theorem dL_law_326 : decode cL_law 326 = .ok (.aload_n 0, 1) := by decide +kernel
theorem dL_law_327 : decode cL_law 327 = .ok (.iload_n 3, 1) := by decide +kernel
theorem dL_law_328 : decode cL_law 328 = .ok (.iconst 1, 1) := by decide +kernel
theorem dL_law_329 : decode cL_law 329 = .ok (.iadd, 1) := by decide +kernel
theorem dL_law_330 : decode cL_law 330 = .ok (.iaload, 1) := by decide +kernel
theorem dL_law_331 : decode cL_law 331 = .ok (.aload_n 0, 1) := by decide +kernel
theorem dL_law_332 : decode cL_law 332 = .ok (.iload_n 3, 1) := by decide +kernel
theorem dL_law_333 : decode cL_law 333 = .ok (.iconst 2, 1) := by decide +kernel
theorem dL_law_334 : decode cL_law 334 = .ok (.iadd, 1) := by decide +kernel
theorem dL_law_335 : decode cL_law 335 = .ok (.iaload, 1) := by decide +kernel
theorem dL_law_336 : decode cL_law 336 = .ok (.aload_n 0, 1) := by decide +kernel
theorem dL_law_337 : decode cL_law 337 = .ok (.iload_n 3, 1) := by decide +kernel
theorem dL_law_338 : decode cL_law 338 = .ok (.iconst 3, 1) := by decide +kernel
theorem dL_law_339 : decode cL_law 339 = .ok (.iadd, 1) := by decide +kernel
theorem dL_law_340 : decode cL_law 340 = .ok (.iaload, 1) := by decide +kernel
theorem dL_law_341 : decode cL_law 341 = .ok (.invokevirtual 51, 3) := by decide +kernel
theorem dL_law_344 : decode cL_law 344 = .ok (.if_icmp .eq 416, 3) := by decide +kernel
theorem dL_law_347 : decode cL_law 347 = .ok (.iconst 0, 1) := by decide +kernel
theorem dL_law_348 : decode cL_law 348 = .ok (.ireturn, 1) := by decide +kernel
theorem dL_law_349 : decode cL_law 349 = .ok (.aload_n 1, 1) := by decide +kernel
theorem dL_law_350 : decode cL_law 350 = .ok (.aload_n 0, 1) := by decide +kernel
theorem dL_law_351 : decode cL_law 351 = .ok (.iload_n 3, 1) := by decide +kernel
theorem dL_law_352 : decode cL_law 352 = .ok (.iconst 1, 1) := by decide +kernel
theorem dL_law_353 : decode cL_law 353 = .ok (.iadd, 1) := by decide +kernel
theorem dL_law_354 : decode cL_law 354 = .ok (.iaload, 1) := by decide +kernel
theorem dL_law_355 : decode cL_law 355 = .ok (.aload_n 0, 1) := by decide +kernel
theorem dL_law_356 : decode cL_law 356 = .ok (.iload_n 3, 1) := by decide +kernel
theorem dL_law_357 : decode cL_law 357 = .ok (.iconst 2, 1) := by decide +kernel
theorem dL_law_358 : decode cL_law 358 = .ok (.iadd, 1) := by decide +kernel
theorem dL_law_359 : decode cL_law 359 = .ok (.iaload, 1) := by decide +kernel
theorem dL_law_360 : decode cL_law 360 = .ok (.invokevirtual 52, 3) := by decide +kernel
theorem dL_law_363 : decode cL_law 363 = .ok (.aload_n 2, 1) := by decide +kernel
theorem dL_law_364 : decode cL_law 364 = .ok (.aload_n 0, 1) := by decide +kernel
theorem dL_law_365 : decode cL_law 365 = .ok (.iload_n 3, 1) := by decide +kernel
theorem dL_law_366 : decode cL_law 366 = .ok (.iconst 1, 1) := by decide +kernel
theorem dL_law_367 : decode cL_law 367 = .ok (.iadd, 1) := by decide +kernel
theorem dL_law_368 : decode cL_law 368 = .ok (.iaload, 1) := by decide +kernel
theorem dL_law_369 : decode cL_law 369 = .ok (.aload_n 0, 1) := by decide +kernel
theorem dL_law_370 : decode cL_law 370 = .ok (.iload_n 3, 1) := by decide +kernel
theorem dL_law_371 : decode cL_law 371 = .ok (.iconst 2, 1) := by decide +kernel
theorem dL_law_372 : decode cL_law 372 = .ok (.iadd, 1) := by decide +kernel
theorem dL_law_373 : decode cL_law 373 = .ok (.iaload, 1) := by decide +kernel
theorem dL_law_374 : decode cL_law 374 = .ok (.invokevirtual 56, 3) := by decide +kernel
theorem dL_law_377 : decode cL_law 377 = .ok (.if_icmp .eq 383, 3) := by decide +kernel
theorem dL_law_380 : decode cL_law 380 = .ok (.iconst 0, 1) := by decide +kernel
theorem dL_law_381 : decode cL_law 381 = .ok (.ireturn, 1) := by decide +kernel
theorem dL_law_382 : decode cL_law 382 = .ok (.aload_n 1, 1) := by decide +kernel
theorem dL_law_383 : decode cL_law 383 = .ok (.invokevirtual 57, 3) := by decide +kernel
theorem dL_law_386 : decode cL_law 386 = .ok (.aload_n 2, 1) := by decide +kernel
theorem dL_law_387 : decode cL_law 387 = .ok (.invokevirtual 60, 3) := by decide +kernel
theorem dL_law_390 : decode cL_law 390 = .ok (.if_icmp .eq 370, 3) := by decide +kernel
theorem dL_law_393 : decode cL_law 393 = .ok (.iconst 0, 1) := by decide +kernel
theorem dL_law_394 : decode cL_law 394 = .ok (.ireturn, 1) := by decide +kernel
theorem dL_law_395 : decode cL_law 395 = .ok (.aload_n 1, 1) := by decide +kernel
theorem dL_law_396 : decode cL_law 396 = .ok (.invokevirtual 61, 3) := by decide +kernel
theorem dL_law_399 : decode cL_law 399 = .ok (.aload_n 2, 1) := by decide +kernel
theorem dL_law_400 : decode cL_law 400 = .ok (.invokevirtual 64, 3) := by decide +kernel
theorem dL_law_403 : decode cL_law 403 = .ok (.if_icmp .eq 357, 3) := by decide +kernel
theorem dL_law_406 : decode cL_law 406 = .ok (.iconst 0, 1) := by decide +kernel
theorem dL_law_407 : decode cL_law 407 = .ok (.ireturn, 1) := by decide +kernel
theorem dL_law_408 : decode cL_law 408 = .ok (.aload_n 1, 1) := by decide +kernel
theorem dL_law_409 : decode cL_law 409 = .ok (.aload_n 0, 1) := by decide +kernel
theorem dL_law_410 : decode cL_law 410 = .ok (.iload_n 3, 1) := by decide +kernel
theorem dL_law_411 : decode cL_law 411 = .ok (.iconst 1, 1) := by decide +kernel
theorem dL_law_412 : decode cL_law 412 = .ok (.iadd, 1) := by decide +kernel
theorem dL_law_413 : decode cL_law 413 = .ok (.iaload, 1) := by decide +kernel
theorem dL_law_414 : decode cL_law 414 = .ok (.aload_n 0, 1) := by decide +kernel
theorem dL_law_415 : decode cL_law 415 = .ok (.iload_n 3, 1) := by decide +kernel
theorem dL_law_416 : decode cL_law 416 = .ok (.iconst 2, 1) := by decide +kernel
theorem dL_law_417 : decode cL_law 417 = .ok (.iadd, 1) := by decide +kernel
theorem dL_law_418 : decode cL_law 418 = .ok (.iaload, 1) := by decide +kernel
theorem dL_law_419 : decode cL_law 419 = .ok (.invokevirtual 65, 3) := by decide +kernel
theorem dL_law_422 : decode cL_law 422 = .ok (.aload_n 2, 1) := by decide +kernel
theorem dL_law_423 : decode cL_law 423 = .ok (.aload_n 0, 1) := by decide +kernel
theorem dL_law_424 : decode cL_law 424 = .ok (.iload_n 3, 1) := by decide +kernel
theorem dL_law_425 : decode cL_law 425 = .ok (.iconst 1, 1) := by decide +kernel
theorem dL_law_426 : decode cL_law 426 = .ok (.iadd, 1) := by decide +kernel
theorem dL_law_427 : decode cL_law 427 = .ok (.iaload, 1) := by decide +kernel
theorem dL_law_428 : decode cL_law 428 = .ok (.aload_n 0, 1) := by decide +kernel
theorem dL_law_429 : decode cL_law 429 = .ok (.iload_n 3, 1) := by decide +kernel
theorem dL_law_430 : decode cL_law 430 = .ok (.iconst 2, 1) := by decide +kernel
theorem dL_law_431 : decode cL_law 431 = .ok (.iadd, 1) := by decide +kernel
theorem dL_law_432 : decode cL_law 432 = .ok (.iaload, 1) := by decide +kernel
theorem dL_law_433 : decode cL_law 433 = .ok (.invokevirtual 68, 3) := by decide +kernel
theorem dL_law_436 : decode cL_law 436 = .ok (.if_icmp .eq 324, 3) := by decide +kernel
theorem dL_law_439 : decode cL_law 439 = .ok (.iconst 0, 1) := by decide +kernel
theorem dL_law_440 : decode cL_law 440 = .ok (.ireturn, 1) := by decide +kernel
theorem dL_law_441 : decode cL_law 441 = .ok (.aload_n 1, 1) := by decide +kernel
theorem dL_law_442 : decode cL_law 442 = .ok (.aload_n 0, 1) := by decide +kernel
theorem dL_law_443 : decode cL_law 443 = .ok (.iload_n 3, 1) := by decide +kernel
theorem dL_law_444 : decode cL_law 444 = .ok (.iconst 1, 1) := by decide +kernel
theorem dL_law_445 : decode cL_law 445 = .ok (.iadd, 1) := by decide +kernel
theorem dL_law_446 : decode cL_law 446 = .ok (.iaload, 1) := by decide +kernel
theorem dL_law_447 : decode cL_law 447 = .ok (.aload_n 0, 1) := by decide +kernel
theorem dL_law_448 : decode cL_law 448 = .ok (.iload_n 3, 1) := by decide +kernel
theorem dL_law_449 : decode cL_law 449 = .ok (.iconst 2, 1) := by decide +kernel
theorem dL_law_450 : decode cL_law 450 = .ok (.iadd, 1) := by decide +kernel
theorem dL_law_451 : decode cL_law 451 = .ok (.iaload, 1) := by decide +kernel
theorem dL_law_452 : decode cL_law 452 = .ok (.invokevirtual 69, 3) := by decide +kernel
theorem dL_law_455 : decode cL_law 455 = .ok (.aload_n 2, 1) := by decide +kernel
theorem dL_law_456 : decode cL_law 456 = .ok (.aload_n 0, 1) := by decide +kernel
theorem dL_law_457 : decode cL_law 457 = .ok (.iload_n 3, 1) := by decide +kernel
theorem dL_law_458 : decode cL_law 458 = .ok (.iconst 1, 1) := by decide +kernel
theorem dL_law_459 : decode cL_law 459 = .ok (.iadd, 1) := by decide +kernel
theorem dL_law_460 : decode cL_law 460 = .ok (.iaload, 1) := by decide +kernel
theorem dL_law_461 : decode cL_law 461 = .ok (.aload_n 0, 1) := by decide +kernel
theorem dL_law_462 : decode cL_law 462 = .ok (.iload_n 3, 1) := by decide +kernel
theorem dL_law_463 : decode cL_law 463 = .ok (.iconst 2, 1) := by decide +kernel
theorem dL_law_464 : decode cL_law 464 = .ok (.iadd, 1) := by decide +kernel
theorem dL_law_465 : decode cL_law 465 = .ok (.iaload, 1) := by decide +kernel
theorem dL_law_466 : decode cL_law 466 = .ok (.invokevirtual 72, 3) := by decide +kernel
theorem dL_law_469 : decode cL_law 469 = .ok (.if_icmp .eq 291, 3) := by decide +kernel
theorem dL_law_472 : decode cL_law 472 = .ok (.iconst 0, 1) := by decide +kernel
theorem dL_law_473 : decode cL_law 473 = .ok (.ireturn, 1) := by decide +kernel
theorem dL_law_474 : decode cL_law 474 = .ok (.aload_n 1, 1) := by decide +kernel
theorem dL_law_475 : decode cL_law 475 = .ok (.aload_n 0, 1) := by decide +kernel
theorem dL_law_476 : decode cL_law 476 = .ok (.iload_n 3, 1) := by decide +kernel
theorem dL_law_477 : decode cL_law 477 = .ok (.iconst 1, 1) := by decide +kernel
theorem dL_law_478 : decode cL_law 478 = .ok (.iadd, 1) := by decide +kernel
theorem dL_law_479 : decode cL_law 479 = .ok (.iaload, 1) := by decide +kernel
theorem dL_law_480 : decode cL_law 480 = .ok (.aload_n 0, 1) := by decide +kernel
theorem dL_law_481 : decode cL_law 481 = .ok (.iload_n 3, 1) := by decide +kernel
theorem dL_law_482 : decode cL_law 482 = .ok (.iconst 2, 1) := by decide +kernel
theorem dL_law_483 : decode cL_law 483 = .ok (.iadd, 1) := by decide +kernel
theorem dL_law_484 : decode cL_law 484 = .ok (.iaload, 1) := by decide +kernel
theorem dL_law_485 : decode cL_law 485 = .ok (.invokevirtual 73, 3) := by decide +kernel
theorem dL_law_488 : decode cL_law 488 = .ok (.aload_n 2, 1) := by decide +kernel
theorem dL_law_489 : decode cL_law 489 = .ok (.aload_n 0, 1) := by decide +kernel
theorem dL_law_490 : decode cL_law 490 = .ok (.iload_n 3, 1) := by decide +kernel
theorem dL_law_491 : decode cL_law 491 = .ok (.iconst 1, 1) := by decide +kernel
theorem dL_law_492 : decode cL_law 492 = .ok (.iadd, 1) := by decide +kernel
theorem dL_law_493 : decode cL_law 493 = .ok (.iaload, 1) := by decide +kernel
theorem dL_law_494 : decode cL_law 494 = .ok (.aload_n 0, 1) := by decide +kernel
theorem dL_law_495 : decode cL_law 495 = .ok (.iload_n 3, 1) := by decide +kernel
theorem dL_law_496 : decode cL_law 496 = .ok (.iconst 2, 1) := by decide +kernel
theorem dL_law_497 : decode cL_law 497 = .ok (.iadd, 1) := by decide +kernel
theorem dL_law_498 : decode cL_law 498 = .ok (.iaload, 1) := by decide +kernel
theorem dL_law_499 : decode cL_law 499 = .ok (.invokevirtual 76, 3) := by decide +kernel
theorem dL_law_502 : decode cL_law 502 = .ok (.if_icmp .eq 258, 3) := by decide +kernel
theorem dL_law_505 : decode cL_law 505 = .ok (.iconst 0, 1) := by decide +kernel
theorem dL_law_506 : decode cL_law 506 = .ok (.ireturn, 1) := by decide +kernel
theorem dL_law_507 : decode cL_law 507 = .ok (.aload_n 1, 1) := by decide +kernel
theorem dL_law_508 : decode cL_law 508 = .ok (.aload_n 0, 1) := by decide +kernel
theorem dL_law_509 : decode cL_law 509 = .ok (.iload_n 3, 1) := by decide +kernel
theorem dL_law_510 : decode cL_law 510 = .ok (.iconst 1, 1) := by decide +kernel
theorem dL_law_511 : decode cL_law 511 = .ok (.iadd, 1) := by decide +kernel
theorem dL_law_512 : decode cL_law 512 = .ok (.iaload, 1) := by decide +kernel
theorem dL_law_513 : decode cL_law 513 = .ok (.aload_n 0, 1) := by decide +kernel
theorem dL_law_514 : decode cL_law 514 = .ok (.iload_n 3, 1) := by decide +kernel
theorem dL_law_515 : decode cL_law 515 = .ok (.iconst 2, 1) := by decide +kernel
theorem dL_law_516 : decode cL_law 516 = .ok (.iadd, 1) := by decide +kernel
theorem dL_law_517 : decode cL_law 517 = .ok (.iaload, 1) := by decide +kernel
theorem dL_law_518 : decode cL_law 518 = .ok (.invokevirtual 77, 3) := by decide +kernel
theorem dL_law_521 : decode cL_law 521 = .ok (.aload_n 2, 1) := by decide +kernel
theorem dL_law_522 : decode cL_law 522 = .ok (.aload_n 0, 1) := by decide +kernel
theorem dL_law_523 : decode cL_law 523 = .ok (.iload_n 3, 1) := by decide +kernel
theorem dL_law_524 : decode cL_law 524 = .ok (.iconst 1, 1) := by decide +kernel
theorem dL_law_525 : decode cL_law 525 = .ok (.iadd, 1) := by decide +kernel
theorem dL_law_526 : decode cL_law 526 = .ok (.iaload, 1) := by decide +kernel
theorem dL_law_527 : decode cL_law 527 = .ok (.aload_n 0, 1) := by decide +kernel
theorem dL_law_528 : decode cL_law 528 = .ok (.iload_n 3, 1) := by decide +kernel
theorem dL_law_529 : decode cL_law 529 = .ok (.iconst 2, 1) := by decide +kernel
theorem dL_law_530 : decode cL_law 530 = .ok (.iadd, 1) := by decide +kernel
theorem dL_law_531 : decode cL_law 531 = .ok (.iaload, 1) := by decide +kernel
theorem dL_law_532 : decode cL_law 532 = .ok (.invokevirtual 80, 3) := by decide +kernel
theorem dL_law_535 : decode cL_law 535 = .ok (.if_icmp .eq 225, 3) := by decide +kernel
theorem dL_law_538 : decode cL_law 538 = .ok (.iconst 0, 1) := by decide +kernel
theorem dL_law_539 : decode cL_law 539 = .ok (.ireturn, 1) := by decide +kernel
theorem dL_law_540 : decode cL_law 540 = .ok (.aload_n 1, 1) := by decide +kernel
theorem dL_law_541 : decode cL_law 541 = .ok (.aload_n 0, 1) := by decide +kernel
theorem dL_law_542 : decode cL_law 542 = .ok (.iload_n 3, 1) := by decide +kernel
theorem dL_law_543 : decode cL_law 543 = .ok (.iconst 1, 1) := by decide +kernel
theorem dL_law_544 : decode cL_law 544 = .ok (.iadd, 1) := by decide +kernel
theorem dL_law_545 : decode cL_law 545 = .ok (.iaload, 1) := by decide +kernel
theorem dL_law_546 : decode cL_law 546 = .ok (.invokevirtual 81, 3) := by decide +kernel
theorem dL_law_549 : decode cL_law 549 = .ok (.aload_n 2, 1) := by decide +kernel
theorem dL_law_550 : decode cL_law 550 = .ok (.aload_n 0, 1) := by decide +kernel
theorem dL_law_551 : decode cL_law 551 = .ok (.iload_n 3, 1) := by decide +kernel
theorem dL_law_552 : decode cL_law 552 = .ok (.iconst 1, 1) := by decide +kernel
theorem dL_law_553 : decode cL_law 553 = .ok (.iadd, 1) := by decide +kernel
theorem dL_law_554 : decode cL_law 554 = .ok (.iaload, 1) := by decide +kernel
theorem dL_law_555 : decode cL_law 555 = .ok (.invokevirtual 84, 3) := by decide +kernel
theorem dL_law_558 : decode cL_law 558 = .ok (.if_icmp .eq 202, 3) := by decide +kernel
theorem dL_law_561 : decode cL_law 561 = .ok (.iconst 0, 1) := by decide +kernel
theorem dL_law_562 : decode cL_law 562 = .ok (.ireturn, 1) := by decide +kernel
theorem dL_law_563 : decode cL_law 563 = .ok (.aload_n 1, 1) := by decide +kernel
theorem dL_law_564 : decode cL_law 564 = .ok (.aload_n 0, 1) := by decide +kernel
theorem dL_law_565 : decode cL_law 565 = .ok (.iload_n 3, 1) := by decide +kernel
theorem dL_law_566 : decode cL_law 566 = .ok (.iconst 1, 1) := by decide +kernel
theorem dL_law_567 : decode cL_law 567 = .ok (.iadd, 1) := by decide +kernel
theorem dL_law_568 : decode cL_law 568 = .ok (.iaload, 1) := by decide +kernel
theorem dL_law_569 : decode cL_law 569 = .ok (.invokevirtual 85, 3) := by decide +kernel
theorem dL_law_572 : decode cL_law 572 = .ok (.aload_n 2, 1) := by decide +kernel
theorem dL_law_573 : decode cL_law 573 = .ok (.aload_n 0, 1) := by decide +kernel
theorem dL_law_574 : decode cL_law 574 = .ok (.iload_n 3, 1) := by decide +kernel
theorem dL_law_575 : decode cL_law 575 = .ok (.iconst 1, 1) := by decide +kernel
theorem dL_law_576 : decode cL_law 576 = .ok (.iadd, 1) := by decide +kernel
theorem dL_law_577 : decode cL_law 577 = .ok (.iaload, 1) := by decide +kernel
theorem dL_law_578 : decode cL_law 578 = .ok (.invokevirtual 88, 3) := by decide +kernel
theorem dL_law_581 : decode cL_law 581 = .ok (.if_icmp .eq 179, 3) := by decide +kernel
theorem dL_law_584 : decode cL_law 584 = .ok (.iconst 0, 1) := by decide +kernel
theorem dL_law_585 : decode cL_law 585 = .ok (.ireturn, 1) := by decide +kernel
theorem dL_law_586 : decode cL_law 586 = .ok (.aload_n 1, 1) := by decide +kernel
theorem dL_law_587 : decode cL_law 587 = .ok (.aload_n 0, 1) := by decide +kernel
theorem dL_law_588 : decode cL_law 588 = .ok (.iload_n 3, 1) := by decide +kernel
theorem dL_law_589 : decode cL_law 589 = .ok (.iconst 1, 1) := by decide +kernel
theorem dL_law_590 : decode cL_law 590 = .ok (.iadd, 1) := by decide +kernel
theorem dL_law_591 : decode cL_law 591 = .ok (.iaload, 1) := by decide +kernel
theorem dL_law_592 : decode cL_law 592 = .ok (.invokevirtual 89, 3) := by decide +kernel
theorem dL_law_595 : decode cL_law 595 = .ok (.aload_n 2, 1) := by decide +kernel
theorem dL_law_596 : decode cL_law 596 = .ok (.aload_n 0, 1) := by decide +kernel
theorem dL_law_597 : decode cL_law 597 = .ok (.iload_n 3, 1) := by decide +kernel
theorem dL_law_598 : decode cL_law 598 = .ok (.iconst 1, 1) := by decide +kernel
theorem dL_law_599 : decode cL_law 599 = .ok (.iadd, 1) := by decide +kernel
theorem dL_law_600 : decode cL_law 600 = .ok (.iaload, 1) := by decide +kernel
theorem dL_law_601 : decode cL_law 601 = .ok (.invokevirtual 92, 3) := by decide +kernel
theorem dL_law_604 : decode cL_law 604 = .ok (.if_icmp .eq 156, 3) := by decide +kernel
theorem dL_law_607 : decode cL_law 607 = .ok (.iconst 0, 1) := by decide +kernel
theorem dL_law_608 : decode cL_law 608 = .ok (.ireturn, 1) := by decide +kernel
theorem dL_law_609 : decode cL_law 609 = .ok (.aload_n 1, 1) := by decide +kernel
theorem dL_law_610 : decode cL_law 610 = .ok (.aload_n 0, 1) := by decide +kernel
theorem dL_law_611 : decode cL_law 611 = .ok (.iload_n 3, 1) := by decide +kernel
theorem dL_law_612 : decode cL_law 612 = .ok (.iconst 1, 1) := by decide +kernel
theorem dL_law_613 : decode cL_law 613 = .ok (.iadd, 1) := by decide +kernel
theorem dL_law_614 : decode cL_law 614 = .ok (.iaload, 1) := by decide +kernel
theorem dL_law_615 : decode cL_law 615 = .ok (.aload_n 0, 1) := by decide +kernel
theorem dL_law_616 : decode cL_law 616 = .ok (.iload_n 3, 1) := by decide +kernel
theorem dL_law_617 : decode cL_law 617 = .ok (.iconst 2, 1) := by decide +kernel
theorem dL_law_618 : decode cL_law 618 = .ok (.iadd, 1) := by decide +kernel
theorem dL_law_619 : decode cL_law 619 = .ok (.iaload, 1) := by decide +kernel
theorem dL_law_620 : decode cL_law 620 = .ok (.invokevirtual 93, 3) := by decide +kernel
theorem dL_law_623 : decode cL_law 623 = .ok (.aload_n 2, 1) := by decide +kernel
theorem dL_law_624 : decode cL_law 624 = .ok (.aload_n 0, 1) := by decide +kernel
theorem dL_law_625 : decode cL_law 625 = .ok (.iload_n 3, 1) := by decide +kernel
theorem dL_law_626 : decode cL_law 626 = .ok (.iconst 1, 1) := by decide +kernel
theorem dL_law_627 : decode cL_law 627 = .ok (.iadd, 1) := by decide +kernel
theorem dL_law_628 : decode cL_law 628 = .ok (.iaload, 1) := by decide +kernel
theorem dL_law_629 : decode cL_law 629 = .ok (.aload_n 0, 1) := by decide +kernel
theorem dL_law_630 : decode cL_law 630 = .ok (.iload_n 3, 1) := by decide +kernel
theorem dL_law_631 : decode cL_law 631 = .ok (.iconst 2, 1) := by decide +kernel
theorem dL_law_632 : decode cL_law 632 = .ok (.iadd, 1) := by decide +kernel
theorem dL_law_633 : decode cL_law 633 = .ok (.iaload, 1) := by decide +kernel
theorem dL_law_634 : decode cL_law 634 = .ok (.invokevirtual 96, 3) := by decide +kernel
theorem dL_law_637 : decode cL_law 637 = .ok (.if_icmp .eq 123, 3) := by decide +kernel
theorem dL_law_640 : decode cL_law 640 = .ok (.iconst 0, 1) := by decide +kernel
theorem dL_law_641 : decode cL_law 641 = .ok (.ireturn, 1) := by decide +kernel
theorem dL_law_642 : decode cL_law 642 = .ok (.aload_n 1, 1) := by decide +kernel
theorem dL_law_643 : decode cL_law 643 = .ok (.invokevirtual 97, 3) := by decide +kernel
theorem dL_law_646 : decode cL_law 646 = .ok (.aload_n 2, 1) := by decide +kernel
theorem dL_law_647 : decode cL_law 647 = .ok (.invokevirtual 100, 3) := by decide +kernel
theorem dL_law_650 : decode cL_law 650 = .ok (.if_icmp .eq 110, 3) := by decide +kernel
theorem dL_law_653 : decode cL_law 653 = .ok (.iconst 0, 1) := by decide +kernel
theorem dL_law_654 : decode cL_law 654 = .ok (.ireturn, 1) := by decide +kernel
theorem dL_law_655 : decode cL_law 655 = .ok (.aload_n 1, 1) := by decide +kernel
theorem dL_law_656 : decode cL_law 656 = .ok (.aload_n 0, 1) := by decide +kernel
theorem dL_law_657 : decode cL_law 657 = .ok (.iload_n 3, 1) := by decide +kernel
theorem dL_law_658 : decode cL_law 658 = .ok (.iconst 1, 1) := by decide +kernel
theorem dL_law_659 : decode cL_law 659 = .ok (.iadd, 1) := by decide +kernel
theorem dL_law_660 : decode cL_law 660 = .ok (.iaload, 1) := by decide +kernel
theorem dL_law_661 : decode cL_law 661 = .ok (.invokevirtual 101, 3) := by decide +kernel
theorem dL_law_664 : decode cL_law 664 = .ok (.aload_n 2, 1) := by decide +kernel
theorem dL_law_665 : decode cL_law 665 = .ok (.aload_n 0, 1) := by decide +kernel
theorem dL_law_666 : decode cL_law 666 = .ok (.iload_n 3, 1) := by decide +kernel
theorem dL_law_667 : decode cL_law 667 = .ok (.iconst 1, 1) := by decide +kernel
theorem dL_law_668 : decode cL_law 668 = .ok (.iadd, 1) := by decide +kernel
theorem dL_law_669 : decode cL_law 669 = .ok (.iaload, 1) := by decide +kernel
theorem dL_law_670 : decode cL_law 670 = .ok (.invokevirtual 104, 3) := by decide +kernel
theorem dL_law_673 : decode cL_law 673 = .ok (.if_icmp .eq 87, 3) := by decide +kernel
theorem dL_law_676 : decode cL_law 676 = .ok (.iconst 0, 1) := by decide +kernel
theorem dL_law_677 : decode cL_law 677 = .ok (.ireturn, 1) := by decide +kernel
theorem dL_law_678 : decode cL_law 678 = .ok (.aload_n 1, 1) := by decide +kernel
theorem dL_law_679 : decode cL_law 679 = .ok (.invokevirtual 105, 3) := by decide +kernel
theorem dL_law_682 : decode cL_law 682 = .ok (.aload_n 2, 1) := by decide +kernel
theorem dL_law_683 : decode cL_law 683 = .ok (.invokevirtual 108, 3) := by decide +kernel
theorem dL_law_686 : decode cL_law 686 = .ok (.if_icmp .eq 74, 3) := by decide +kernel
theorem dL_law_689 : decode cL_law 689 = .ok (.iconst 0, 1) := by decide +kernel
theorem dL_law_690 : decode cL_law 690 = .ok (.ireturn, 1) := by decide +kernel
theorem dL_law_691 : decode cL_law 691 = .ok (.aload_n 1, 1) := by decide +kernel
theorem dL_law_692 : decode cL_law 692 = .ok (.aload_n 0, 1) := by decide +kernel
theorem dL_law_693 : decode cL_law 693 = .ok (.iload_n 3, 1) := by decide +kernel
theorem dL_law_694 : decode cL_law 694 = .ok (.iconst 1, 1) := by decide +kernel
theorem dL_law_695 : decode cL_law 695 = .ok (.iadd, 1) := by decide +kernel
theorem dL_law_696 : decode cL_law 696 = .ok (.iaload, 1) := by decide +kernel
theorem dL_law_697 : decode cL_law 697 = .ok (.invokevirtual 109, 3) := by decide +kernel
theorem dL_law_700 : decode cL_law 700 = .ok (.aload_n 2, 1) := by decide +kernel
theorem dL_law_701 : decode cL_law 701 = .ok (.aload_n 0, 1) := by decide +kernel
theorem dL_law_702 : decode cL_law 702 = .ok (.iload_n 3, 1) := by decide +kernel
theorem dL_law_703 : decode cL_law 703 = .ok (.iconst 1, 1) := by decide +kernel
theorem dL_law_704 : decode cL_law 704 = .ok (.iadd, 1) := by decide +kernel
theorem dL_law_705 : decode cL_law 705 = .ok (.iaload, 1) := by decide +kernel
theorem dL_law_706 : decode cL_law 706 = .ok (.invokevirtual 112, 3) := by decide +kernel
theorem dL_law_709 : decode cL_law 709 = .ok (.if_icmp .eq 51, 3) := by decide +kernel
theorem dL_law_712 : decode cL_law 712 = .ok (.iconst 0, 1) := by decide +kernel
theorem dL_law_713 : decode cL_law 713 = .ok (.ireturn, 1) := by decide +kernel
theorem dL_law_714 : decode cL_law 714 = .ok (.aload_n 1, 1) := by decide +kernel
theorem dL_law_715 : decode cL_law 715 = .ok (.aload_n 0, 1) := by decide +kernel
theorem dL_law_716 : decode cL_law 716 = .ok (.iload_n 3, 1) := by decide +kernel
theorem dL_law_717 : decode cL_law 717 = .ok (.iconst 1, 1) := by decide +kernel
theorem dL_law_718 : decode cL_law 718 = .ok (.iadd, 1) := by decide +kernel
theorem dL_law_719 : decode cL_law 719 = .ok (.iaload, 1) := by decide +kernel
theorem dL_law_720 : decode cL_law 720 = .ok (.invokevirtual 113, 3) := by decide +kernel
theorem dL_law_723 : decode cL_law 723 = .ok (.aload_n 2, 1) := by decide +kernel
theorem dL_law_724 : decode cL_law 724 = .ok (.aload_n 0, 1) := by decide +kernel
theorem dL_law_725 : decode cL_law 725 = .ok (.iload_n 3, 1) := by decide +kernel
theorem dL_law_726 : decode cL_law 726 = .ok (.iconst 1, 1) := by decide +kernel
theorem dL_law_727 : decode cL_law 727 = .ok (.iadd, 1) := by decide +kernel
theorem dL_law_728 : decode cL_law 728 = .ok (.iaload, 1) := by decide +kernel
theorem dL_law_729 : decode cL_law 729 = .ok (.invokevirtual 116, 3) := by decide +kernel
theorem dL_law_732 : decode cL_law 732 = .ok (.if_icmp .eq 28, 3) := by decide +kernel
theorem dL_law_735 : decode cL_law 735 = .ok (.iconst 0, 1) := by decide +kernel
theorem dL_law_736 : decode cL_law 736 = .ok (.ireturn, 1) := by decide +kernel
theorem dL_law_737 : decode cL_law 737 = .ok (.aload_n 1, 1) := by decide +kernel
theorem dL_law_738 : decode cL_law 738 = .ok (.aload_n 0, 1) := by decide +kernel
theorem dL_law_739 : decode cL_law 739 = .ok (.iload_n 3, 1) := by decide +kernel
theorem dL_law_740 : decode cL_law 740 = .ok (.iconst 1, 1) := by decide +kernel
theorem dL_law_741 : decode cL_law 741 = .ok (.iadd, 1) := by decide +kernel
theorem dL_law_742 : decode cL_law 742 = .ok (.iaload, 1) := by decide +kernel
theorem dL_law_743 : decode cL_law 743 = .ok (.invokevirtual 117, 3) := by decide +kernel
theorem dL_law_746 : decode cL_law 746 = .ok (.aload_n 2, 1) := by decide +kernel
theorem dL_law_747 : decode cL_law 747 = .ok (.aload_n 0, 1) := by decide +kernel
theorem dL_law_748 : decode cL_law 748 = .ok (.iload_n 3, 1) := by decide +kernel
theorem dL_law_749 : decode cL_law 749 = .ok (.iconst 1, 1) := by decide +kernel
theorem dL_law_750 : decode cL_law 750 = .ok (.iadd, 1) := by decide +kernel
theorem dL_law_751 : decode cL_law 751 = .ok (.iaload, 1) := by decide +kernel
theorem dL_law_752 : decode cL_law 752 = .ok (.invokevirtual 120, 3) := by decide +kernel
theorem dL_law_755 : decode cL_law 755 = .ok (.if_icmp .eq 5, 3) := by decide +kernel
theorem dL_law_758 : decode cL_law 758 = .ok (.iconst 0, 1) := by decide +kernel
theorem dL_law_759 : decode cL_law 759 = .ok (.ireturn, 1) := by decide +kernel
theorem dL_law_760 : decode cL_law 760 = .ok (.iinc 3 4, 3) := by decide +kernel
theorem dL_law_763 : decode cL_law 763 = .ok (.goto (-745), 3) := by decide +kernel
theorem dL_law_766 : decode cL_law 766 = .ok (.iconst 1, 1) := by decide +kernel
theorem dL_law_767 : decode cL_law 767 = .ok (.ireturn, 1) := by decide +kernel
end
section
/-! The judgement G: W with heap, locations and locals hidden; its rows; contracts CI, CV. -/
abbrev VT : Type := Launch × va_G × (Nat → ClassId)
/-- program, environment, room, entry state, method, its arguments, the frames below, its facts, code, the cells it may change, the heap at its start, its end -/
abbrev KT : Type := Program × Env × Room × State × MethodId × Array Value × List Frame × Method × Code × (Nat → Prop) × Heap × (State → Prop)
def rf_tys (cy : Nat → ClassId) : List (ClassId × FieldType) := [(cy 0, .int), (cy 1, .boolean), (cy 2, .object "RingFrames$Ring")]
def rf_N (U : State) : Prop := (∀ w ∈ lw_nst, va_Nw w U) ∧ va_AO "RingFrames$Ring" U
theorem rf_nst_form : ∀ w ∈ lw_nst, (∃ a i b n d h, w = .fieldLinkNest a i b n d h) ∨ ∃ a i x h, w = .methodLinkNest a i x h := by
  intro w hw
  have e : lw_nst.all (fun w => match w with | .fieldLinkNest .. => true | .methodLinkNest .. => true | _ => false) = true := by decide +kernel
  have h := List.all_eq_true.mp e w hw
  cases w <;> first | exact Or.inl ⟨_, _, _, _, _, _, rfl⟩ | exact Or.inr ⟨_, _, _, _, rfl⟩ | (exact absurd h (by simp))
theorem rf_N.warm {s U : State} (hW : s.WarmedH U.vm) (h : rf_N s) : rf_N U := by
  refine ⟨fun w hw => ?_, va_AO.moved hW.alike h.2⟩
  rcases rf_nst_form w hw with ⟨a, i, b, n, d, hh, rfl⟩ | ⟨a, i, x, hh, rfl⟩
  · exact va_Nw.warmF hW (h.1 _ hw)
  · exact va_Nw.warmM hW (h.1 _ hw)
theorem rf_N.calling {U : State} {g : JFrame} {mk : MethodId} {a : Array Value} (h : rf_N U) : rf_N (U.calling g mk a) := by
  refine ⟨fun w hw => ?_, va_AO.moved (u := U) (U := U.calling g mk a) (Vm.Alike.refl U.vm) h.2⟩
  rcases rf_nst_form w hw with ⟨_, _, _, _, _, _, rfl⟩ | ⟨_, _, _, _, rfl⟩
  · exact va_Nw.same rfl (u := U) (U := U.calling g mk a) rfl (h.1 _ hw)
  · exact va_Nw.same rfl (u := U) (U := U.calling g mk a) rfl (h.1 _ hw)
def G (V : VT) (K : KT) (nL nc ns : Nat) (ws : va_W) (pc : Nat) (lv : List (Nat × Value)) (st : List Value) : Prop :=
  match V, K with
  | (l, D, _), (p, e, R, s, m, args, below, meth, c, A, H0, Q) => ∀ (H : Heap) (locs : List Loc) (ls : Array Slot), va_P D vwCl ws H → va_D A ws → va_S A H0 H locs → lv_has ls nL lv → W p l e R s m args below meth c H locs nc ns Q (F0 m pc ls st)
def Cx (V : VT) (K : KT) (nL : Nat) (cc : ByteArray) (own : String) (rm : Room) : Prop :=
  match V, K with
  | (_, D, cy), (p, _, R, s, m, args, _, meth, c, A, H0, _) => p.tables.exec = Jvm.exec ∧ c.code = cc ∧ c.maxLocals = nL ∧ s.vm.findClass own = some m.cls ∧ (∀ w ∈ lw_good, w.before args s = true) ∧ va_K D vwCl (rf_tys cy) s ∧ rf_N s ∧ meth.locks = false ∧ R = rm ∧ (∀ q, H0.size ≤ q → A q)
/-- a constructor's own word -/
def CxI (K : KT) : Prop := match K with
  | (_, _, _, _, _, _, _, meth, _, _, _, _) => meth.name = "<init>"
def rf_ins : List (Nat × Value) → Nat → Value → List (Nat × Value)
  | [], i, v => [(i, v)]
  | (j, w) :: l, i, v => if i < j then (i, v) :: (j, w) :: l else (j, w) :: rf_ins l i v
def rf_set (lv : List (Nat × Value)) (i : Nat) (v : Value) : List (Nat × Value) := rf_ins (lv.filter (fun q => !(q.1 == i) && !(q.1 + 1 == i && q.2.category == 2))) i v
theorem rf_ins_mem : ∀ (l : List (Nat × Value)) (i : Nat) (v : Value) (q : Nat × Value), q ∈ rf_ins l i v → q = (i, v) ∨ q ∈ l
  | [], i, v, q, h => by simp only [rf_ins, List.mem_singleton] at h; exact Or.inl h
  | (j, w) :: l, i, v, q, h => by
    simp only [rf_ins] at h
    split at h
    · rcases List.mem_cons.mp h with h | h
      · exact Or.inl h
      · exact Or.inr h
    · rcases List.mem_cons.mp h with h | h
      · exact Or.inr (h ▸ List.mem_cons_self)
      · rcases rf_ins_mem l i v q h with h | h
        · exact Or.inl h
        · exact Or.inr (List.mem_cons_of_mem _ h)
theorem rf_has_set {ls : Array Slot} {nL : Nat} {lv : List (Nat × Value)} {i : Nat} {v : Value} (h : lv_has ls nL ((i, v) :: lv.filter (fun q => !(q.1 == i) && !(q.1 + 1 == i && q.2.category == 2)))) : lv_has ls nL (rf_set lv i v) :=
  ⟨h.1, h.2.1, fun q hq => h.2.2 q (by
    rcases rf_ins_mem _ _ _ _ hq with h | h
    · rw [h]; exact List.mem_cons_self
    · exact List.mem_cons_of_mem _ h)⟩
section RFG
variable {V : VT} {K : KT} {nL nc ns : Nat} {ws ws' : va_W} {pc : Nat} {lv lv' : List (Nat × Value)} {st : List Value} {cc : ByteArray} {own : String} {rm : Room}
theorem g_at {i : Nat} {v : Value} (h : lv.lookup i = some v) {ls : Array Slot} (hl : lv_has ls nL lv) : ls[i]? = some (.val v) := by
  have : ∀ (l : List (Nat × Value)), l.lookup i = some v → (i, v) ∈ l := by
    intro l
    induction l with
    | nil => intro h; simp at h
    | cons a l ih =>
      intro h
      obtain ⟨j, w⟩ := a
      rw [List.lookup_cons] at h
      by_cases e : i = j
      · subst e
        simp at h
        rw [h]; exact List.mem_cons_self
      · have e' : (i == j) = false := by simpa using e
        rw [e'] at h
        exact List.mem_cons_of_mem _ (ih h)
  exact hl.2.2 (i, v) (this lv h)
/-- fewer locals -/
theorem g_lv (lv' : List (Nat × Value)) (h : ∀ q ∈ lv', q ∈ lv) (k : G V K nL nc ns ws pc lv' st) : G V K nL nc ns ws pc lv st := by
  obtain ⟨l, D, cy⟩ := V; obtain ⟨p, e, R, s, m, args, below, meth, c, A, H0, Q⟩ := K
  intro H locs ls hP hD hS hl
  exact k H locs ls hP hD hS ⟨hl.1, hl.2.1, fun q hq => hl.2.2 q (h q hq)⟩
theorem g_widen (nc' ns' : Nat) (h1 : nc ≤ nc') (h2 : ns ≤ ns') (k : G V K nL nc' ns' ws pc lv st) : G V K nL nc ns ws pc lv st := by
  obtain ⟨l, D, cy⟩ := V; obtain ⟨p, e, R, s, m, args, below, meth, c, A, H0, Q⟩ := K
  intro H locs ls hP hD hS hl
  exact W.widen h1 h2 (k H locs ls hP hD hS hl)
/-- the world's cells in another order, or fewer -/
theorem g_ws (is : List Nat) (hn : va_nd is = true) (hs : is.map (fun i => ws[i]?) = ws'.map some) (k : G V K nL nc ns ws' pc lv st) : G V K nL nc ns ws pc lv st := by
  obtain ⟨l, D, cy⟩ := V; obtain ⟨p, e, R, s, m, args, below, meth, c, A, H0, Q⟩ := K
  intro H locs ls hP hD hS hl
  refine k H locs ls (hP.sub is ?_) (hD.sub is hn hs) hS hl
  have : ∀ (is : List Nat) (w : va_W), is.map (fun i => ws[i]?) = w.map some → is.filterMap (fun i => ws[i]?) = w := by
    intro is
    induction is with
    | nil => intro w h; cases w with
      | nil => rfl
      | cons a w => simp at h
    | cons i is ih => intro w h; cases w with
      | nil => simp at h
      | cons a w =>
        simp only [List.map_cons, List.cons.injEq] at h
        rw [List.filterMap_cons, h.1, ih w h.2]
  exact this is ws' hs
theorem g_iconst (cx : Cx V K nL cc own rm) {n : Int} {v : Int32} (hd : decode cc pc = .ok (.iconst n, 1)) (hv : Int32.ofInt n = v) (k : G V K nL nc ns ws (pc + 1) lv (.int v :: st)) : G V K nL nc ns ws pc lv st := by
  obtain ⟨l, D, cy⟩ := V; obtain ⟨p, e, R, s, m, args, below, meth, c, A, H0, Q⟩ := K
  obtain ⟨hx, hb, hml, hown, ht, hK, hN, hlk, hR, hA⟩ := cx
  intro H locs ls hP hD hS hl
  exact lv_iconst hx hb hd hv (k H locs ls hP hD hS hl)
theorem g_bipush (cx : Cx V K nL cc own rm) {n : Int} {v : Int32} (hd : decode cc pc = .ok (.bipush n, 2)) (hv : (Int8.ofInt n).toInt32 = v) (k : G V K nL nc ns ws (pc + 2) lv (.int v :: st)) : G V K nL nc ns ws pc lv st := by
  obtain ⟨l, D, cy⟩ := V; obtain ⟨p, e, R, s, m, args, below, meth, c, A, H0, Q⟩ := K
  obtain ⟨hx, hb, hml, hown, ht, hK, hN, hlk, hR, hA⟩ := cx
  intro H locs ls hP hD hS hl
  exact lv_bipush hx hb hd hv (k H locs ls hP hD hS hl)
theorem g_sipush (cx : Cx V K nL cc own rm) {n : Int} {v : Int32} (hd : decode cc pc = .ok (.sipush n, 3)) (hv : (Int16.ofInt n).toInt32 = v) (k : G V K nL nc ns ws (pc + 3) lv (.int v :: st)) : G V K nL nc ns ws pc lv st := by
  obtain ⟨l, D, cy⟩ := V; obtain ⟨p, e, R, s, m, args, below, meth, c, A, H0, Q⟩ := K
  obtain ⟨hx, hb, hml, hown, ht, hK, hN, hlk, hR, hA⟩ := cx
  intro H locs ls hP hD hS hl
  exact lv_sipush hx hb hd hv (k H locs ls hP hD hS hl)
theorem g_ldc (cx : Cx V K nL cc own rm) {i : Nat} {v : Int32} (hw : Cond.constant own i v ∈ lw_good) (hd : decode cc pc = .ok (.ldc i, 2)) (k : G V K nL nc ns ws (pc + 2) lv (.int v :: st)) : G V K nL nc ns ws pc lv st := by
  obtain ⟨l, D, cy⟩ := V; obtain ⟨p, e, R, s, m, args, below, meth, c, A, H0, Q⟩ := K
  obtain ⟨hx, hb, hml, hown, ht, hK, hN, hlk, hR, hA⟩ := cx
  intro H locs ls hP hD hS hl
  exact lv_ldc hx hb hown (ht _ hw) hd (k H locs ls hP hD hS hl)
theorem g_ldcw (cx : Cx V K nL cc own rm) {i : Nat} {v : Int32} (hw : Cond.constant own i v ∈ lw_good) (hd : decode cc pc = .ok (.ldc_w i, 3)) (k : G V K nL nc ns ws (pc + 3) lv (.int v :: st)) : G V K nL nc ns ws pc lv st := by
  obtain ⟨l, D, cy⟩ := V; obtain ⟨p, e, R, s, m, args, below, meth, c, A, H0, Q⟩ := K
  obtain ⟨hx, hb, hml, hown, ht, hK, hN, hlk, hR, hA⟩ := cx
  intro H locs ls hP hD hS hl
  exact lv_ldcw hx hb hown (ht _ hw) hd (k H locs ls hP hD hS hl)
theorem g_iload_n (cx : Cx V K nL cc own rm) {q : Fin 4} {v : Int32} (hd : decode cc pc = .ok (.iload_n q, 1)) (hv : lv.lookup (q : Nat) = some (.int v)) (k : G V K nL nc ns ws (pc + 1) lv (.int v :: st)) : G V K nL nc ns ws pc lv st := by
  obtain ⟨l, D, cy⟩ := V; obtain ⟨p, e, R, s, m, args, below, meth, c, A, H0, Q⟩ := K
  obtain ⟨hx, hb, hml, hown, ht, hK, hN, hlk, hR, hA⟩ := cx
  intro H locs ls hP hD hS hl
  exact lv_iload_n hx hb hd rfl (g_at hv hl) (k H locs ls hP hD hS hl)
theorem g_iload (cx : Cx V K nL cc own rm) {i : Nat} {v : Int32} (hd : decode cc pc = .ok (.iload i, 2)) (hv : lv.lookup i = some (.int v)) (k : G V K nL nc ns ws (pc + 2) lv (.int v :: st)) : G V K nL nc ns ws pc lv st := by
  obtain ⟨l, D, cy⟩ := V; obtain ⟨p, e, R, s, m, args, below, meth, c, A, H0, Q⟩ := K
  obtain ⟨hx, hb, hml, hown, ht, hK, hN, hlk, hR, hA⟩ := cx
  intro H locs ls hP hD hS hl
  exact lv_iload hx hb hd (g_at hv hl) (k H locs ls hP hD hS hl)
theorem g_aload_n (cx : Cx V K nL cc own rm) {q : Fin 4} {v : Nat} (hd : decode cc pc = .ok (.aload_n q, 1)) (hv : lv.lookup (q : Nat) = some (.ref v)) (k : G V K nL nc ns ws (pc + 1) lv (.ref v :: st)) : G V K nL nc ns ws pc lv st := by
  obtain ⟨l, D, cy⟩ := V; obtain ⟨p, e, R, s, m, args, below, meth, c, A, H0, Q⟩ := K
  obtain ⟨hx, hb, hml, hown, ht, hK, hN, hlk, hR, hA⟩ := cx
  intro H locs ls hP hD hS hl
  exact lv_aload_n hx hb hd rfl (g_at hv hl) (k H locs ls hP hD hS hl)
theorem g_istore_n (cx : Cx V K nL cc own rm) {q : Fin 4} {x : Int32} (hd : decode cc pc = .ok (.istore_n q, 1)) (hn : (q : Nat) < nL) (hv : rf_set lv q (.int x) = lv') (k : G V K nL nc ns ws (pc + 1) lv' st) : G V K nL nc ns ws pc lv (.int x :: st) := by
  obtain ⟨l, D, cy⟩ := V; obtain ⟨p, e, R, s, m, args, below, meth, c, A, H0, Q⟩ := K
  obtain ⟨hx, hb, hml, hown, ht, hK, hN, hlk, hR, hA⟩ := cx
  intro H locs ls hP hD hS hl
  exact lv_istore_n hx hb hd rfl hl hn rfl (fun ls' hl' => k H locs ls' hP hD hS (by rw [← hv]; exact rf_has_set hl'))
theorem g_istore (cx : Cx V K nL cc own rm) {i : Nat} {x : Int32} (hd : decode cc pc = .ok (.istore i, 2)) (hn : i < nL) (hv : rf_set lv i (.int x) = lv') (k : G V K nL nc ns ws (pc + 2) lv' st) : G V K nL nc ns ws pc lv (.int x :: st) := by
  obtain ⟨l, D, cy⟩ := V; obtain ⟨p, e, R, s, m, args, below, meth, c, A, H0, Q⟩ := K
  obtain ⟨hx, hb, hml, hown, ht, hK, hN, hlk, hR, hA⟩ := cx
  intro H locs ls hP hD hS hl
  exact lv_istore hx hb hd hl hn rfl (fun ls' hl' => k H locs ls' hP hD hS (by rw [← hv]; exact rf_has_set hl'))
theorem g_astore_n (cx : Cx V K nL cc own rm) {q : Fin 4} {x : Nat} (hd : decode cc pc = .ok (.astore_n q, 1)) (hn : (q : Nat) < nL) (hv : rf_set lv q (.ref x) = lv') (k : G V K nL nc ns ws (pc + 1) lv' st) : G V K nL nc ns ws pc lv (.ref x :: st) := by
  obtain ⟨l, D, cy⟩ := V; obtain ⟨p, e, R, s, m, args, below, meth, c, A, H0, Q⟩ := K
  obtain ⟨hx, hb, hml, hown, ht, hK, hN, hlk, hR, hA⟩ := cx
  intro H locs ls hP hD hS hl
  exact lv_astore_n hx hb hd rfl hl hn rfl (fun ls' hl' => k H locs ls' hP hD hS (by rw [← hv]; exact rf_has_set hl'))
theorem rf_lookup_pos {i : Nat} {v : Value} : ∀ {l : List (Nat × Value)}, l.lookup i = some v → ∃ k : Nat, l[k]? = some (i, v)
  | [], h => by simp at h
  | (j, w) :: l, h => by
    rw [List.lookup_cons] at h
    by_cases e : i = j
    · subst e
      simp at h
      exact ⟨0, by rw [h]; rfl⟩
    · have e' : (i == j) = false := by simpa using e
      rw [e'] at h
      obtain ⟨k, hk⟩ := rf_lookup_pos h
      exact ⟨k + 1, hk⟩
theorem g_iinc (cx : Cx V K nL cc own rm) {i : Nat} {n : Int} {x v : Int32} (hd : decode cc pc = .ok (.iinc i n, 3)) (hx0 : lv.lookup i = some (.int x)) (hn : i < nL) (he : x + Int32.ofInt n = v) (hv : rf_set lv i (.int v) = lv') (k : G V K nL nc ns ws (pc + 3) lv' st) : G V K nL nc ns ws pc lv st := by
  obtain ⟨l, D, cy⟩ := V; obtain ⟨p, e, R, s, m, args, below, meth, c, A, H0, Q⟩ := K
  obtain ⟨hx, hb, hml, hown, ht, hK, hN, hlk, hR, hA⟩ := cx
  intro H locs ls hP hD hS hl
  obtain ⟨kq, hkq⟩ := rf_lookup_pos hx0
  exact lv_iinc hx hb hd hl hkq he hn rfl (fun ls' hl' => k H locs ls' hP hD hS (by rw [← hv]; exact rf_has_set hl'))
theorem g_iadd (cx : Cx V K nL cc own rm) {x y : Int32} (hd : decode cc pc = .ok (.iadd, 1)) (k : G V K nL nc ns ws (pc + 1) lv (.int (x + y) :: st)) : G V K nL nc ns ws pc lv (.int y :: .int x :: st) := by
  obtain ⟨l, D, cy⟩ := V; obtain ⟨p, e, R, s, m, args, below, meth, c, A, H0, Q⟩ := K
  obtain ⟨hx, hb, hml, hown, ht, hK, hN, hlk, hR, hA⟩ := cx
  intro H locs ls hP hD hS hl
  exact lv_iadd hx hb hd (k H locs ls hP hD hS hl)
theorem g_isub (cx : Cx V K nL cc own rm) {x y : Int32} (hd : decode cc pc = .ok (.isub, 1)) (k : G V K nL nc ns ws (pc + 1) lv (.int (x - y) :: st)) : G V K nL nc ns ws pc lv (.int y :: .int x :: st) := by
  obtain ⟨l, D, cy⟩ := V; obtain ⟨p, e, R, s, m, args, below, meth, c, A, H0, Q⟩ := K
  obtain ⟨hx, hb, hml, hown, ht, hK, hN, hlk, hR, hA⟩ := cx
  intro H locs ls hP hD hS hl
  exact lv_isub hx hb hd (k H locs ls hP hD hS hl)
theorem g_imul (cx : Cx V K nL cc own rm) {x y : Int32} (hd : decode cc pc = .ok (.imul, 1)) (k : G V K nL nc ns ws (pc + 1) lv (.int (x * y) :: st)) : G V K nL nc ns ws pc lv (.int y :: .int x :: st) := by
  obtain ⟨l, D, cy⟩ := V; obtain ⟨p, e, R, s, m, args, below, meth, c, A, H0, Q⟩ := K
  obtain ⟨hx, hb, hml, hown, ht, hK, hN, hlk, hR, hA⟩ := cx
  intro H locs ls hP hD hS hl
  exact lv_imul hx hb hd (k H locs ls hP hD hS hl)
theorem g_iand (cx : Cx V K nL cc own rm) {x y : Int32} (hd : decode cc pc = .ok (.iand, 1)) (k : G V K nL nc ns ws (pc + 1) lv (.int (x &&& y) :: st)) : G V K nL nc ns ws pc lv (.int y :: .int x :: st) := by
  obtain ⟨l, D, cy⟩ := V; obtain ⟨p, e, R, s, m, args, below, meth, c, A, H0, Q⟩ := K
  obtain ⟨hx, hb, hml, hown, ht, hK, hN, hlk, hR, hA⟩ := cx
  intro H locs ls hP hD hS hl
  exact lv_iand hx hb hd (k H locs ls hP hD hS hl)
theorem g_ior (cx : Cx V K nL cc own rm) {x y : Int32} (hd : decode cc pc = .ok (.ior, 1)) (k : G V K nL nc ns ws (pc + 1) lv (.int (x ||| y) :: st)) : G V K nL nc ns ws pc lv (.int y :: .int x :: st) := by
  obtain ⟨l, D, cy⟩ := V; obtain ⟨p, e, R, s, m, args, below, meth, c, A, H0, Q⟩ := K
  obtain ⟨hx, hb, hml, hown, ht, hK, hN, hlk, hR, hA⟩ := cx
  intro H locs ls hP hD hS hl
  exact lv_ior hx hb hd (k H locs ls hP hD hS hl)
theorem g_ixor (cx : Cx V K nL cc own rm) {x y : Int32} (hd : decode cc pc = .ok (.ixor, 1)) (k : G V K nL nc ns ws (pc + 1) lv (.int (x ^^^ y) :: st)) : G V K nL nc ns ws pc lv (.int y :: .int x :: st) := by
  obtain ⟨l, D, cy⟩ := V; obtain ⟨p, e, R, s, m, args, below, meth, c, A, H0, Q⟩ := K
  obtain ⟨hx, hb, hml, hown, ht, hK, hN, hlk, hR, hA⟩ := cx
  intro H locs ls hP hD hS hl
  exact lv_ixor hx hb hd (k H locs ls hP hD hS hl)
theorem g_ishl (cx : Cx V K nL cc own rm) {x y : Int32} (hd : decode cc pc = .ok (.ishl, 1)) (k : G V K nL nc ns ws (pc + 1) lv (.int (x <<< (y &&& 31)) :: st)) : G V K nL nc ns ws pc lv (.int y :: .int x :: st) := by
  obtain ⟨l, D, cy⟩ := V; obtain ⟨p, e, R, s, m, args, below, meth, c, A, H0, Q⟩ := K
  obtain ⟨hx, hb, hml, hown, ht, hK, hN, hlk, hR, hA⟩ := cx
  intro H locs ls hP hD hS hl
  exact lv_ishl hx hb hd (k H locs ls hP hD hS hl)
theorem g_ishr (cx : Cx V K nL cc own rm) {x y : Int32} (hd : decode cc pc = .ok (.ishr, 1)) (k : G V K nL nc ns ws (pc + 1) lv (.int (x >>> (y &&& 31)) :: st)) : G V K nL nc ns ws pc lv (.int y :: .int x :: st) := by
  obtain ⟨l, D, cy⟩ := V; obtain ⟨p, e, R, s, m, args, below, meth, c, A, H0, Q⟩ := K
  obtain ⟨hx, hb, hml, hown, ht, hK, hN, hlk, hR, hA⟩ := cx
  intro H locs ls hP hD hS hl
  exact lv_ishr hx hb hd (k H locs ls hP hD hS hl)
theorem g_irem (cx : Cx V K nL cc own rm) {x y : Int32} (hd : decode cc pc = .ok (.irem, 1)) (hy : ¬ y = 0) (k : G V K nL nc ns ws (pc + 1) lv (.int (x - x / y * y) :: st)) : G V K nL nc ns ws pc lv (.int y :: .int x :: st) := by
  obtain ⟨l, D, cy⟩ := V; obtain ⟨p, e, R, s, m, args, below, meth, c, A, H0, Q⟩ := K
  obtain ⟨hx, hb, hml, hown, ht, hK, hN, hlk, hR, hA⟩ := cx
  intro H locs ls hP hD hS hl
  exact lv_irem hx hb hd hy (k H locs ls hP hD hS hl)
theorem g_iushr (cx : Cx V K nL cc own rm) {x y v : Int32} (hd : decode cc pc = .ok (.iushr, 1)) (hv : (x.toUInt32 >>> (y.toUInt32 &&& Int32.toUInt32 31)).toInt32 = v) (k : G V K nL nc ns ws (pc + 1) lv (.int v :: st)) : G V K nL nc ns ws pc lv (.int y :: .int x :: st) := by
  obtain ⟨l, D, cy⟩ := V; obtain ⟨p, e, R, s, m, args, below, meth, c, A, H0, Q⟩ := K
  obtain ⟨hx, hb, hml, hown, ht, hK, hN, hlk, hR, hA⟩ := cx
  intro H locs ls hP hD hS hl
  exact lv_iushr hx hb hd hv (k H locs ls hP hD hS hl)
theorem g_top {x y : Int32} (e : x = y) (k : G V K nL nc ns ws pc lv (.int y :: st)) : G V K nL nc ns ws pc lv (.int x :: st) := by rw [e]; exact k
theorem g_top2 {x y : Int32} {v : Value} (e : x = y) (k : G V K nL nc ns ws pc lv (v :: .int y :: st)) : G V K nL nc ns ws pc lv (v :: .int x :: st) := by rw [e]; exact k
theorem g_dup (cx : Cx V K nL cc own rm) {v : Value} (hd : decode cc pc = .ok (.dup, 1)) (hc : v.category = 1) (k : G V K nL nc ns ws (pc + 1) lv (v :: v :: st)) : G V K nL nc ns ws pc lv (v :: st) := by
  obtain ⟨l, D, cy⟩ := V; obtain ⟨p, e, R, s, m, args, below, meth, c, A, H0, Q⟩ := K
  obtain ⟨hx, hb, hml, hown, ht, hK, hN, hlk, hR, hA⟩ := cx
  intro H locs ls hP hD hS hl
  exact lv_dup hx hb hd hc (k H locs ls hP hD hS hl)
theorem g_dup2 (cx : Cx V K nL cc own rm) {v w : Value} (hd : decode cc pc = .ok (.dup2, 1)) (hc : v.category = 1) (hc2 : w.category = 1) (k : G V K nL nc ns ws (pc + 1) lv (v :: w :: v :: w :: st)) : G V K nL nc ns ws pc lv (v :: w :: st) := by
  obtain ⟨l, D, cy⟩ := V; obtain ⟨p, e, R, s, m, args, below, meth, c, A, H0, Q⟩ := K
  obtain ⟨hx, hb, hml, hown, ht, hK, hN, hlk, hR, hA⟩ := cx
  intro H locs ls hP hD hS hl
  exact lv_dup2_11 hx hb hd hc hc2 (k H locs ls hP hD hS hl)
theorem g_goto (cx : Cx V K nL cc own rm) {off : Int} (tgt : Nat) (hd : decode cc pc = .ok (.goto off, 3)) (ht0 : (pc : Int) + off = (tgt : Int)) (k : G V K nL nc ns ws tgt lv st) : G V K nL nc ns ws pc lv st := by
  obtain ⟨l, D, cy⟩ := V; obtain ⟨p, e, R, s, m, args, below, meth, c, A, H0, Q⟩ := K
  obtain ⟨hx, hb, hml, hown, ht, hK, hN, hlk, hR, hA⟩ := cx
  intro H locs ls hP hD hS hl
  exact lv_goto hx hb hd ht0 (k H locs ls hP hD hS hl)
theorem g_if_eq (cx : Cx V K nL cc own rm) {x : Int32} {off : Int} (tgt : Nat) (hd : decode cc pc = .ok (.ifCond .eq off, 3)) (ht0 : (pc : Int) + off = (tgt : Int)) (kt : x = 0 → G V K nL nc ns ws tgt lv st) (kf : ¬ x = 0 → G V K nL nc ns ws (pc + 3) lv st) : G V K nL nc ns ws pc lv (.int x :: st) := by
  obtain ⟨l, D, cy⟩ := V; obtain ⟨p, e, R, s, m, args, below, meth, c, A, H0, Q⟩ := K
  obtain ⟨hx, hb, hml, hown, ht, hK, hN, hlk, hR, hA⟩ := cx
  intro H locs ls hP hD hS hl
  exact lv_if_eq hx hb hd ht0 (fun h => kt h H locs ls hP hD hS hl) (fun h => kf h H locs ls hP hD hS hl)
theorem g_icmp_eq (cx : Cx V K nL cc own rm) {x y : Int32} {off : Int} (tgt : Nat) (hd : decode cc pc = .ok (.if_icmp .eq off, 3)) (ht0 : (pc : Int) + off = (tgt : Int)) (kt : x = y → G V K nL nc ns ws tgt lv st) (kf : ¬ x = y → G V K nL nc ns ws (pc + 3) lv st) : G V K nL nc ns ws pc lv (.int y :: .int x :: st) := by
  obtain ⟨l, D, cy⟩ := V; obtain ⟨p, e, R, s, m, args, below, meth, c, A, H0, Q⟩ := K
  obtain ⟨hx, hb, hml, hown, ht, hK, hN, hlk, hR, hA⟩ := cx
  intro H locs ls hP hD hS hl
  exact lv_icmp_eq hx hb hd ht0 (fun h => kt h H locs ls hP hD hS hl) (fun h => kf h H locs ls hP hD hS hl)
theorem g_if_ne (cx : Cx V K nL cc own rm) {x : Int32} {off : Int} (tgt : Nat) (hd : decode cc pc = .ok (.ifCond .ne off, 3)) (ht0 : (pc : Int) + off = (tgt : Int)) (kt : ¬ x = 0 → G V K nL nc ns ws tgt lv st) (kf : x = 0 → G V K nL nc ns ws (pc + 3) lv st) : G V K nL nc ns ws pc lv (.int x :: st) := by
  obtain ⟨l, D, cy⟩ := V; obtain ⟨p, e, R, s, m, args, below, meth, c, A, H0, Q⟩ := K
  obtain ⟨hx, hb, hml, hown, ht, hK, hN, hlk, hR, hA⟩ := cx
  intro H locs ls hP hD hS hl
  exact lv_if_ne hx hb hd ht0 (fun h => kt h H locs ls hP hD hS hl) (fun h => kf h H locs ls hP hD hS hl)
theorem g_icmp_ne (cx : Cx V K nL cc own rm) {x y : Int32} {off : Int} (tgt : Nat) (hd : decode cc pc = .ok (.if_icmp .ne off, 3)) (ht0 : (pc : Int) + off = (tgt : Int)) (kt : ¬ x = y → G V K nL nc ns ws tgt lv st) (kf : x = y → G V K nL nc ns ws (pc + 3) lv st) : G V K nL nc ns ws pc lv (.int y :: .int x :: st) := by
  obtain ⟨l, D, cy⟩ := V; obtain ⟨p, e, R, s, m, args, below, meth, c, A, H0, Q⟩ := K
  obtain ⟨hx, hb, hml, hown, ht, hK, hN, hlk, hR, hA⟩ := cx
  intro H locs ls hP hD hS hl
  exact lv_icmp_ne hx hb hd ht0 (fun h => kt h H locs ls hP hD hS hl) (fun h => kf h H locs ls hP hD hS hl)
theorem g_if_lt (cx : Cx V K nL cc own rm) {x : Int32} {off : Int} (tgt : Nat) (hd : decode cc pc = .ok (.ifCond .lt off, 3)) (ht0 : (pc : Int) + off = (tgt : Int)) (kt : x < 0 → G V K nL nc ns ws tgt lv st) (kf : ¬ x < 0 → G V K nL nc ns ws (pc + 3) lv st) : G V K nL nc ns ws pc lv (.int x :: st) := by
  obtain ⟨l, D, cy⟩ := V; obtain ⟨p, e, R, s, m, args, below, meth, c, A, H0, Q⟩ := K
  obtain ⟨hx, hb, hml, hown, ht, hK, hN, hlk, hR, hA⟩ := cx
  intro H locs ls hP hD hS hl
  exact lv_if_lt hx hb hd ht0 (fun h => kt h H locs ls hP hD hS hl) (fun h => kf h H locs ls hP hD hS hl)
theorem g_icmp_lt (cx : Cx V K nL cc own rm) {x y : Int32} {off : Int} (tgt : Nat) (hd : decode cc pc = .ok (.if_icmp .lt off, 3)) (ht0 : (pc : Int) + off = (tgt : Int)) (kt : x < y → G V K nL nc ns ws tgt lv st) (kf : ¬ x < y → G V K nL nc ns ws (pc + 3) lv st) : G V K nL nc ns ws pc lv (.int y :: .int x :: st) := by
  obtain ⟨l, D, cy⟩ := V; obtain ⟨p, e, R, s, m, args, below, meth, c, A, H0, Q⟩ := K
  obtain ⟨hx, hb, hml, hown, ht, hK, hN, hlk, hR, hA⟩ := cx
  intro H locs ls hP hD hS hl
  exact lv_icmp_lt hx hb hd ht0 (fun h => kt h H locs ls hP hD hS hl) (fun h => kf h H locs ls hP hD hS hl)
theorem g_if_ge (cx : Cx V K nL cc own rm) {x : Int32} {off : Int} (tgt : Nat) (hd : decode cc pc = .ok (.ifCond .ge off, 3)) (ht0 : (pc : Int) + off = (tgt : Int)) (kt : 0 ≤ x → G V K nL nc ns ws tgt lv st) (kf : ¬ 0 ≤ x → G V K nL nc ns ws (pc + 3) lv st) : G V K nL nc ns ws pc lv (.int x :: st) := by
  obtain ⟨l, D, cy⟩ := V; obtain ⟨p, e, R, s, m, args, below, meth, c, A, H0, Q⟩ := K
  obtain ⟨hx, hb, hml, hown, ht, hK, hN, hlk, hR, hA⟩ := cx
  intro H locs ls hP hD hS hl
  exact lv_if_ge hx hb hd ht0 (fun h => kt h H locs ls hP hD hS hl) (fun h => kf h H locs ls hP hD hS hl)
theorem g_icmp_ge (cx : Cx V K nL cc own rm) {x y : Int32} {off : Int} (tgt : Nat) (hd : decode cc pc = .ok (.if_icmp .ge off, 3)) (ht0 : (pc : Int) + off = (tgt : Int)) (kt : y ≤ x → G V K nL nc ns ws tgt lv st) (kf : ¬ y ≤ x → G V K nL nc ns ws (pc + 3) lv st) : G V K nL nc ns ws pc lv (.int y :: .int x :: st) := by
  obtain ⟨l, D, cy⟩ := V; obtain ⟨p, e, R, s, m, args, below, meth, c, A, H0, Q⟩ := K
  obtain ⟨hx, hb, hml, hown, ht, hK, hN, hlk, hR, hA⟩ := cx
  intro H locs ls hP hD hS hl
  exact lv_icmp_ge hx hb hd ht0 (fun h => kt h H locs ls hP hD hS hl) (fun h => kf h H locs ls hP hD hS hl)
theorem g_if_gt (cx : Cx V K nL cc own rm) {x : Int32} {off : Int} (tgt : Nat) (hd : decode cc pc = .ok (.ifCond .gt off, 3)) (ht0 : (pc : Int) + off = (tgt : Int)) (kt : 0 < x → G V K nL nc ns ws tgt lv st) (kf : ¬ 0 < x → G V K nL nc ns ws (pc + 3) lv st) : G V K nL nc ns ws pc lv (.int x :: st) := by
  obtain ⟨l, D, cy⟩ := V; obtain ⟨p, e, R, s, m, args, below, meth, c, A, H0, Q⟩ := K
  obtain ⟨hx, hb, hml, hown, ht, hK, hN, hlk, hR, hA⟩ := cx
  intro H locs ls hP hD hS hl
  exact lv_if_gt hx hb hd ht0 (fun h => kt h H locs ls hP hD hS hl) (fun h => kf h H locs ls hP hD hS hl)
theorem g_icmp_gt (cx : Cx V K nL cc own rm) {x y : Int32} {off : Int} (tgt : Nat) (hd : decode cc pc = .ok (.if_icmp .gt off, 3)) (ht0 : (pc : Int) + off = (tgt : Int)) (kt : y < x → G V K nL nc ns ws tgt lv st) (kf : ¬ y < x → G V K nL nc ns ws (pc + 3) lv st) : G V K nL nc ns ws pc lv (.int y :: .int x :: st) := by
  obtain ⟨l, D, cy⟩ := V; obtain ⟨p, e, R, s, m, args, below, meth, c, A, H0, Q⟩ := K
  obtain ⟨hx, hb, hml, hown, ht, hK, hN, hlk, hR, hA⟩ := cx
  intro H locs ls hP hD hS hl
  exact lv_icmp_gt hx hb hd ht0 (fun h => kt h H locs ls hP hD hS hl) (fun h => kf h H locs ls hP hD hS hl)
theorem g_if_le (cx : Cx V K nL cc own rm) {x : Int32} {off : Int} (tgt : Nat) (hd : decode cc pc = .ok (.ifCond .le off, 3)) (ht0 : (pc : Int) + off = (tgt : Int)) (kt : x ≤ 0 → G V K nL nc ns ws tgt lv st) (kf : ¬ x ≤ 0 → G V K nL nc ns ws (pc + 3) lv st) : G V K nL nc ns ws pc lv (.int x :: st) := by
  obtain ⟨l, D, cy⟩ := V; obtain ⟨p, e, R, s, m, args, below, meth, c, A, H0, Q⟩ := K
  obtain ⟨hx, hb, hml, hown, ht, hK, hN, hlk, hR, hA⟩ := cx
  intro H locs ls hP hD hS hl
  exact lv_if_le hx hb hd ht0 (fun h => kt h H locs ls hP hD hS hl) (fun h => kf h H locs ls hP hD hS hl)
theorem g_icmp_le (cx : Cx V K nL cc own rm) {x y : Int32} {off : Int} (tgt : Nat) (hd : decode cc pc = .ok (.if_icmp .le off, 3)) (ht0 : (pc : Int) + off = (tgt : Int)) (kt : x ≤ y → G V K nL nc ns ws tgt lv st) (kf : ¬ x ≤ y → G V K nL nc ns ws (pc + 3) lv st) : G V K nL nc ns ws pc lv (.int y :: .int x :: st) := by
  obtain ⟨l, D, cy⟩ := V; obtain ⟨p, e, R, s, m, args, below, meth, c, A, H0, Q⟩ := K
  obtain ⟨hx, hb, hml, hown, ht, hK, hN, hlk, hR, hA⟩ := cx
  intro H locs ls hP hD hS hl
  exact lv_icmp_le hx hb hd ht0 (fun h => kt h H locs ls hP hD hS hl) (fun h => kf h H locs ls hP hD hS hl)
theorem g_tableOut (cx : Cx V K nL cc own rm) {dflt lo hi : Int} {offs : Array Int} {len : Nat} {x : Int32} (tgt : Nat) (hd : decode cc pc = .ok (.tableswitch dflt lo hi offs, len)) (h : x.toInt < lo ∨ hi < x.toInt) (ht0 : (pc : Int) + dflt = (tgt : Int)) (k : G V K nL nc ns ws tgt lv st) : G V K nL nc ns ws pc lv (.int x :: st) := by
  obtain ⟨l, D, cy⟩ := V; obtain ⟨p, e, R, s, m, args, below, meth, c, A, H0, Q⟩ := K
  obtain ⟨hx, hb, hml, hown, ht, hK, hN, hlk, hR, hA⟩ := cx
  intro H locs ls hP hD hS hl
  exact lv_tableOut hx hb hd h ht0 (k H locs ls hP hD hS hl)
theorem g_tableIn (cx : Cx V K nL cc own rm) {dflt lo hi : Int} {offs : Array Int} {len : Nat} {x : Int32} {off : Int} (tgt : Nat) (hd : decode cc pc = .ok (.tableswitch dflt lo hi offs, len)) (h1 : ¬ x.toInt < lo) (h2 : ¬ hi < x.toInt) (ho : offs[(x.toInt - lo).toNat]? = some off) (ht0 : (pc : Int) + off = (tgt : Int)) (k : G V K nL nc ns ws tgt lv st) : G V K nL nc ns ws pc lv (.int x :: st) := by
  obtain ⟨l, D, cy⟩ := V; obtain ⟨p, e, R, s, m, args, below, meth, c, A, H0, Q⟩ := K
  obtain ⟨hx, hb, hml, hown, ht, hK, hN, hlk, hR, hA⟩ := cx
  intro H locs ls hP hD hS hl
  exact lv_tableIn hx hb hd h1 h2 ho ht0 (k H locs ls hP hD hS hl)
theorem g_lookup (cx : Cx V K nL cc own rm) {dflt : Int} {ps : Array (Int × Int)} {len : Nat} {x : Int32} {off : Int} (tgt : Nat) (hd : decode cc pc = .ok (.lookupswitch dflt ps, len)) (hp : (ps.toList.zip (ps.toList.drop 1)).all (fun (a, next) => a.1 < next.1) = true) (ho : Op.lookupswitch.offset ps.toList dflt x.toInt = off) (ht0 : (pc : Int) + off = (tgt : Int)) (k : G V K nL nc ns ws tgt lv st) : G V K nL nc ns ws pc lv (.int x :: st) := by
  obtain ⟨l, D, cy⟩ := V; obtain ⟨p, e, R, s, m, args, below, meth, c, A, H0, Q⟩ := K
  obtain ⟨hx, hb, hml, hown, ht, hK, hN, hlk, hR, hA⟩ := cx
  intro H locs ls hP hD hS hl
  exact lv_lookup hx hb hd hp ho ht0 (k H locs ls hP hD hS hl)
/-- a field: of class ci of vwCl, its place k, final or not, its type; how 'own' names it by its entry idx -/
def FLk (own : String) (idx ci k : Nat) (fin : Bool) (ty : FieldType) : Prop :=
  ∃ (C : String) (T : u_T) (N : Nat) (ty0 : Nat → FieldType), vwCl[ci]? = some (C, T, N) ∧ k < N ∧ (∀ w ∈ u_ws C T N, w ∈ lw_good) ∧ (∀ k, k < N → parseFieldDescriptor (T k).2.2.1 = some (ty0 k)) ∧ (∀ a, a < N → ∀ b, b < N → a ≠ b → (T a).2.1 ≠ (T b).2.1) ∧ (T k).1 = C ∧ (T k).2.2.2 = fin ∧ parseFieldDescriptor (T k).2.2.1 = some ty ∧ (Cond.fieldLink own idx C (T k).2.1 (T k).2.2.1 ∈ lw_good ∨ ∃ host, Cond.fieldLinkNest own idx C (T k).2.1 (T k).2.2.1 host ∈ lw_nst)
theorem g_get (cx : Cx V K nL cc own rm) {idx ci k a : Nat} {fin : Bool} {ty : FieldType} {fs : List Value} {v : Value} (hf : FLk own idx ci k fin ty) (hd : decode cc pc = .ok (.getfield idx, 3)) (q0 : Nat) (hq : ws[q0]? = some (a, .inr (ci, fs))) (hv : fs[k]? = some v) (kk : G V K nL nc ns ws (pc + 3) lv (v :: st)) : G V K nL nc ns ws pc lv (.ref a :: st) := by
  obtain ⟨l, D, cy⟩ := V; obtain ⟨p, e, R, s, m, args, below, meth, c, A, H0, Q⟩ := K
  obtain ⟨hx, hb, hml, hown, ht, hK, hN, hlk, hR, hA⟩ := cx
  intro H locs ls hP hD hS hl
  obtain ⟨C, T, N, ty0, f1, f2, f3, f4, f5, f6, f7, f8, f9⟩ := hf
  have hs : ∀ x, s.fieldFound? (T k).1 (T k).2.1 (T k).2.2.1 = some x → s.fieldFound? C (T k).2.1 (T k).2.2.1 = some x := fun x h => by rw [f6] at h; exact h
  rcases f9 with f9 | ⟨host, f9⟩
  · exact va_get hx hb ht f3 hown hK hP q0 hq f1 k f2 (ht _ f9) hs hv hd (kk H locs ls hP hD hS hl)
  · exact va_getN hx hb ht f3 hown hK hP q0 hq f1 k f2 (va_Nw.use rfl (hN.1 _ f9)) hs hv hd (kk H locs ls hP hD hS hl)
theorem g_put (cx : Cx V K nL cc own rm) {idx ci k a : Nat} {ty : FieldType} {fs : List Value} {v : Value} (hf : FLk own idx ci k false ty) (hd : decode cc pc = .ok (.putfield idx, 3)) (q0 : Nat) (hq : ws[q0]? = some (a, .inr (ci, fs))) (hn : narrow ty v = v) (hfit : fits ty v = true) (hlen : k < fs.length) (hw : ws.set q0 (a, .inr (ci, fs.set k v)) = ws') (kk : G V K nL nc ns ws' (pc + 3) lv st) : G V K nL nc ns ws pc lv (v :: .ref a :: st) := by
  obtain ⟨l, D, cy⟩ := V; obtain ⟨p, e, R, s, m, args, below, meth, c, A, H0, Q⟩ := K
  obtain ⟨hx, hb, hml, hown, ht, hK, hN, hlk, hR, hA⟩ := cx
  intro H locs ls hP hD hS hl
  subst hw
  obtain ⟨C, T, N, ty0, f1, f2, f3, f4, f5, f6, f7, f8, f9⟩ := hf
  have hs : ∀ x, s.fieldFound? (T k).1 (T k).2.1 (T k).2.2.1 = some x → s.fieldFound? C (T k).2.1 (T k).2.2.1 = some x := fun x h => by rw [f6] at h; exact h
  rcases f9 with f9 | ⟨host, f9⟩
  · exact va_put hx hb ht f3 ty0 f4 f5 hown hK hP hD hS q0 hq f1 k f2 (ht _ f9) hs f7 f8 hn hfit hlen hd (fun H1 locs1 p1 d1 s1 => kk H1 locs1 ls p1 d1 s1 hl)
  · exact va_putN hx hb ht f3 ty0 f4 f5 hown hK hP hD hS q0 hq f1 k f2 (va_Nw.use rfl (hN.1 _ f9)) hs f7 f8 hn hfit hlen hd (fun H1 locs1 p1 d1 s1 => kk H1 locs1 ls p1 d1 s1 hl)
theorem g_putF (cx : Cx V K nL cc own rm) {idx ci k a : Nat} {ty : FieldType} {fs : List Value} {v : Value} {T : u_T} {N : Nat} (hci : CxI K) (hf : FLk own idx ci k true ty) (hcl : vwCl[ci]? = some (own, T, N)) (hlk0 : Cond.fieldLink own idx own (T k).2.1 (T k).2.2.1 ∈ lw_good) (hd : decode cc pc = .ok (.putfield idx, 3)) (q0 : Nat) (hq : ws[q0]? = some (a, .inr (ci, fs))) (hn : narrow ty v = v) (hfit : fits ty v = true) (hlen : k < fs.length) (hw : ws.set q0 (a, .inr (ci, fs.set k v)) = ws') (kk : G V K nL nc ns ws' (pc + 3) lv st) : G V K nL nc ns ws pc lv (v :: .ref a :: st) := by
  obtain ⟨l, D, cy⟩ := V; obtain ⟨p, e, R, s, m, args, below, meth, c, A, H0, Q⟩ := K
  obtain ⟨hx, hb, hml, hown, ht, hK, hN, hlk, hR, hA⟩ := cx
  intro H locs ls hP hD hS hl
  subst hw
  obtain ⟨C, T', N', ty0, f1, f2, f3, f4, f5, f6, f7, f8, f9⟩ := hf
  have e := Option.some.inj (f1.symm.trans hcl)
  simp only [Prod.mk.injEq] at e
  obtain ⟨e1, e2, e3⟩ := e
  subst e1; subst e2; subst e3
  have hs : ∀ x, s.fieldFound? (T' k).1 (T' k).2.1 (T' k).2.2.1 = some x → s.fieldFound? C (T' k).2.1 (T' k).2.2.1 = some x := fun x h => by rw [f6] at h; exact h
  exact va_putF hx hb ht f3 ty0 f4 f5 hown hK hP hD hS q0 hq f1 k f2 (ht _ hlk0) hs f7 hci f6 f8 hn hfit hlen hd (fun H1 locs1 p1 d1 s1 => kk H1 locs1 ls p1 d1 s1 hl)
theorem g_iald (cx : Cx V K nL cc own rm) {a n : Nat} {f : Nat → Int32} {i : Int32} (hd : decode cc pc = .ok (.iaload, 1)) (q0 j : Nat) (hq : ws[q0]? = some (a, .inl (V.2.2 0, n, .inl f))) (hi : i = nI j) (hj : j < n) (hn : n < 2 ^ 31) (kk : G V K nL nc ns ws (pc + 1) lv (.int (f j) :: st)) : G V K nL nc ns ws pc lv (.int i :: .ref a :: st) := by
  obtain ⟨l, D, cy⟩ := V; obtain ⟨p, e, R, s, m, args, below, meth, c, A, H0, Q⟩ := K
  obtain ⟨hx, hb, hml, hown, ht, hK, hN, hlk, hR, hA⟩ := cx
  intro H locs ls hP hD hS hl
  subst hi
  refine va_iald hx hb hK hP q0 0 hq rfl (vp_in_nI hj hn) hd ?_
  rw [nI_clamp (Nat.lt_trans hj hn)]
  exact kk H locs ls hP hD hS hl
theorem g_iast (cx : Cx V K nL cc own rm) {a n : Nat} {f : Nat → Int32} {i x : Int32} (hd : decode cc pc = .ok (.iastore, 1)) (q0 j : Nat) (hq : ws[q0]? = some (a, .inl (V.2.2 0, n, .inl f))) (hi : i = nI j) (hj : j < n) (hn : n < 2 ^ 31) (hw : ws.set q0 (a, .inl (V.2.2 0, n, .inl (upd f j x))) = ws') (kk : G V K nL nc ns ws' (pc + 1) lv st) : G V K nL nc ns ws pc lv (.int x :: .int i :: .ref a :: st) := by
  obtain ⟨l, D, cy⟩ := V; obtain ⟨p, e, R, s, m, args, below, meth, c, A, H0, Q⟩ := K
  obtain ⟨hx, hb, hml, hown, ht, hK, hN, hlk, hR, hA⟩ := cx
  intro H locs ls hP hD hS hl
  subst hi
  refine va_iast hx hb hK hP hD hS q0 0 hq rfl (vp_in_nI hj hn) hd (fun H1 locs1 p1 d1 s1 => ?_)
  rw [nI_clamp (Nat.lt_trans hj hn), hw] at p1 d1
  exact kk H1 locs1 ls p1 d1 s1 hl
theorem g_zald (cx : Cx V K nL cc own rm) {a n : Nat} {f : Nat → Int32} {i : Int32} (hd : decode cc pc = .ok (.baload, 1)) (q0 j : Nat) (hq : ws[q0]? = some (a, .inl (V.2.2 1, n, .inl f))) (hi : i = nI j) (hj : j < n) (hn : n < 2 ^ 31) (kk : G V K nL nc ns ws (pc + 1) lv (.int (f j) :: st)) : G V K nL nc ns ws pc lv (.int i :: .ref a :: st) := by
  obtain ⟨l, D, cy⟩ := V; obtain ⟨p, e, R, s, m, args, below, meth, c, A, H0, Q⟩ := K
  obtain ⟨hx, hb, hml, hown, ht, hK, hN, hlk, hR, hA⟩ := cx
  intro H locs ls hP hD hS hl
  subst hi
  refine va_zald hx hb hK hP q0 1 hq rfl (vp_in_nI hj hn) hd ?_
  rw [nI_clamp (Nat.lt_trans hj hn)]
  exact kk H locs ls hP hD hS hl
theorem g_zast (cx : Cx V K nL cc own rm) {a n : Nat} {f : Nat → Int32} {i x : Int32} (hd : decode cc pc = .ok (.bastore, 1)) (q0 j : Nat) (hq : ws[q0]? = some (a, .inl (V.2.2 1, n, .inl f))) (hi : i = nI j) (hj : j < n) (hn : n < 2 ^ 31) (hx1 : vp_nar .boolean x = x) (hw : ws.set q0 (a, .inl (V.2.2 1, n, .inl (upd f j x))) = ws') (kk : G V K nL nc ns ws' (pc + 1) lv st) : G V K nL nc ns ws pc lv (.int x :: .int i :: .ref a :: st) := by
  obtain ⟨l, D, cy⟩ := V; obtain ⟨p, e, R, s, m, args, below, meth, c, A, H0, Q⟩ := K
  obtain ⟨hx, hb, hml, hown, ht, hK, hN, hlk, hR, hA⟩ := cx
  intro H locs ls hP hD hS hl
  subst hi
  refine va_zast hx hb hK hP hD hS q0 1 hq rfl (vp_in_nI hj hn) hd (fun H1 locs1 p1 d1 s1 => ?_)
  rw [nI_clamp (Nat.lt_trans hj hn), hx1, hw] at p1 d1
  exact kk H1 locs1 ls p1 d1 s1 hl
theorem g_aald (cx : Cx V K nL cc own rm) {a n : Nat} {f : Nat → Option Nat} {i : Int32} {b : Nat} (hd : decode cc pc = .ok (.aaload, 1)) (q0 j : Nat) (hq : ws[q0]? = some (a, .inl (V.2.2 2, n, .inr (.inr (.inr (.inr f)))))) (hi : i = nI j) (hj : j < n) (hn : n < 2 ^ 31) (hv : f j = some b) (kk : G V K nL nc ns ws (pc + 1) lv (.ref b :: st)) : G V K nL nc ns ws pc lv (.int i :: .ref a :: st) := by
  obtain ⟨l, D, cy⟩ := V; obtain ⟨p, e, R, s, m, args, below, meth, c, A, H0, Q⟩ := K
  obtain ⟨hx, hb, hml, hown, ht, hK, hN, hlk, hR, hA⟩ := cx
  intro H locs ls hP hD hS hl
  subst hi
  refine va_aldq hx hb hK hP q0 2 hq rfl (vp_in_nI hj hn) hd ?_
  rw [nI_clamp (Nat.lt_trans hj hn), hv]
  exact kk H locs ls hP hD hS hl
theorem g_alen (cx : Cx V K nL cc own rm) {a ty : Nat} {x : vp_A} {v : Int32} (hd : decode cc pc = .ok (.arraylength, 1)) (q0 : Nat) (hq : ws[q0]? = some (a, .inl (V.2.2 0, x))) (hv : Int32.ofNat x.1 = v) (kk : G V K nL nc ns ws (pc + 1) lv (.int v :: st)) : G V K nL nc ns ws pc lv (.ref a :: st) := by
  obtain ⟨l, D, cy⟩ := V; obtain ⟨p, e, R, s, m, args, below, meth, c, A, H0, Q⟩ := K
  obtain ⟨hx, hb, hml, hown, ht, hK, hN, hlk, hR, hA⟩ := cx
  intro H locs ls hP hD hS hl
  exact va_alen hx hb hK hP q0 0 hq (ty := .int) rfl hv hd (kk H locs ls hP hD hS hl)
end RFG
end
section
/-! Contracts, and calls by contract -/
def rf_P (V : VT) (av : List Value) (wi : va_W) (sz : Nat) : Array Value → State → Prop := va_Pc av (fun U => U.heap.size = sz ∧ va_P V.2.1 vwCl wi U.heap ∧ va_K V.2.1 vwCl (rf_tys V.2.2) U ∧ rf_N U ∧ va_D (fun _ => True) wi)
def rf_B (V : VT) (wi : va_W) (sz : Nat) (w : va_W) (t : State) : Prop := va_P V.2.1 vwCl w t.heap ∧ va_D (va_A wi sz) w
/-- a contract of a method that answers an int or a boolean: its arguments, its cells, what may come out -/
def CI (V : VT) (y : MethodName) (cc : ByteArray) (maxL : Nat) (ty : FieldType) (rm : Room) (av : List Value) (wi : va_W) (Post : Int32 → va_W → Prop) : Prop :=
  ∀ sz : Nat, Met V.1 y (.code y cc maxL (some ty) :: lw_good) rm (rf_P V av wi sz) (va_Qi Post (rf_B V wi sz) (va_A wi sz)) rm.cells rm.slots (va_A wi sz)
/-- of one that answers nothing -/
def CV (V : VT) (y : MethodName) (cc : ByteArray) (maxL : Nat) (rm : Room) (av : List Value) (wi : va_W) (Post : va_W → Prop) : Prop :=
  ∀ sz : Nat, Met V.1 y (.code y cc maxL none :: lw_good) rm (rf_P V av wi sz) (va_Qv Post (rf_B V wi sz) (va_A wi sz)) rm.cells rm.slots (va_A wi sz)
section RFC
variable {V : VT} {y : MethodName} {cc : ByteArray} {maxL : Nat} {ty : FieldType} {rm : Room} {av : List Value} {wi : va_W}
theorem CI_intro {Post : Int32 → va_W → Prop} (hy : plainName y.cls = true) (hlen : (lg_sl av).length ≤ maxL) (body : ∀ K : KT, Cx V K maxL cc y.cls rm → (∀ (ws : va_W) (pc : Nat) (lv : List (Nat × Value)) (r : Int32), decode cc pc = .ok (.ireturn, 1) → narrow ty (.int r) = .int r → Post r ws → G V K maxL rm.cells rm.slots ws pc lv [.int r]) → G V K maxL 0 0 wi 0 (lv_args 0 av) []) : CI V y cc maxL ty rm av wi Post := by
  obtain ⟨l, D, cy⟩ := V
  intro sz
  refine Met.ofW (cc := cc) (maxL := maxL) (ret := some ty) hy rfl ?_
  intro p e s m args below meth c s₁ B hml hv
  obtain ⟨rfl, hsz, hP, hK, hN, hD0⟩ := hv
  have hx := B.exec
  have hb := B.bytes
  have hr := B.returns
  have hts := atoms_spec (ws := .code y cc maxL (some ty) :: lw_good) B.pre
  have hown : s.vm.findClass y.cls = some m.cls := findClass_of_methodNamed B.named
  have hlocks := B.notSynchronized
  subst hsz
  have hD := hD0.self (sz := s.heap.size)
  have hl := lv_entry av (n := maxL) hlen
  rw [lg_entry_eq]
  exact body (p, e, rm, s, m, av.toArray, below, meth, c, va_A wi s.heap.size, s.heap, _) ⟨hx, hb, hml, hown, fun w h => hts w (List.mem_cons_of_mem _ h), hK, hN, hlocks, rfl, fun q h => Or.inr h⟩
    (fun ws pc lv r hd hn hp H locs ls hP hD hS hl => W.zret hx hb hr hn (fun t ht hW => ⟨⟨r, ws, rfl, hp, by rw [ht]; exact hP, hD⟩, hS.F ht⟩) hS.2.2 hd hlocks)
    s.heap [] _ hP hD va_S.rf hl
theorem CV_intro {Post : va_W → Prop} (hy : plainName y.cls = true) (hlen : (lg_sl av).length ≤ maxL) (body : ∀ K : KT, Cx V K maxL cc y.cls rm → (y.name = "<init>" → CxI K) → (∀ (ws : va_W) (pc : Nat) (lv : List (Nat × Value)), decode cc pc = .ok (.return_, 1) → Post ws → G V K maxL rm.cells rm.slots ws pc lv []) → G V K maxL 0 0 wi 0 (lv_args 0 av) []) : CV V y cc maxL rm av wi Post := by
  obtain ⟨l, D, cy⟩ := V
  intro sz
  refine Met.ofW (cc := cc) (maxL := maxL) (ret := none) hy rfl ?_
  intro p e s m args below meth c s₁ B hml hv
  obtain ⟨rfl, hsz, hP, hK, hN, hD0⟩ := hv
  have hx := B.exec
  have hb := B.bytes
  have hr := B.returns
  have hts := atoms_spec (ws := .code y cc maxL none :: lw_good) B.pre
  have hown : s.vm.findClass y.cls = some m.cls := findClass_of_methodNamed B.named
  have hlocks := B.notSynchronized
  have hin : meth.name = y.name := (name_of_methodNamed B.named B.method).1
  subst hsz
  have hD := hD0.self (sz := s.heap.size)
  have hl := lv_entry av (n := maxL) hlen
  rw [lg_entry_eq]
  exact body (p, e, rm, s, m, av.toArray, below, meth, c, va_A wi s.heap.size, s.heap, _) ⟨hx, hb, hml, hown, fun w h => hts w (List.mem_cons_of_mem _ h), hK, hN, hlocks, rfl, fun q h => Or.inr h⟩ (fun h => hin.trans h)
    (fun ws pc lv hd hp H locs ls hP hD hS hl => W.vret hx hb hr (fun t ht hW => ⟨⟨ws, rfl, hp, by rw [ht]; exact hP, hD⟩, hS.F ht⟩) hS.2.2 hd hlocks)
    s.heap [] _ hP hD va_S.rf hl
end RFC
theorem rf_good_in {L : List Cond} (h : ∀ w ∈ L, w ∈ lw_good) : GoodIn lw_good L := fun w hw => lw_good_self w (h w hw)
/-- an instance method as 'own' names it by its entry idx -/
def MLk (own : String) (idx : Nat) (y : MethodName) (cc : ByteArray) (maxL : Nat) (ret : Option FieldType) (n : Nat) : Prop :=
  Cond.methodLink own idx y ∈ lw_good ∧ Cond.instanceMethod y ∈ lw_good ∧ Cond.selects y.cls y y ∈ lw_good ∧ Cond.initialized y.cls ∈ lw_good ∧ Cond.code y cc maxL ret ∈ lw_good ∧ y.cls ≠ "java/lang/invoke/MethodHandle" ∧ y.cls ≠ "java/lang/invoke/VarHandle" ∧ (parseMethodDescriptor y.desc).map (fun d => d.parameters.length) = some n
/-- a static one -/
def MLs (own : String) (idx : Nat) (y : MethodName) (cc : ByteArray) (maxL : Nat) (ret : Option FieldType) (n : Nat) : Prop :=
  Cond.methodLink own idx y ∈ lw_good ∧ Cond.static y ∈ lw_good ∧ Cond.initialized y.cls ∈ lw_good ∧ Cond.code y cc maxL ret ∈ lw_good ∧ y.cls ≠ "java/lang/invoke/MethodHandle" ∧ y.cls ≠ "java/lang/invoke/VarHandle" ∧ (parseMethodDescriptor y.desc).map (fun d => d.parameters.length) = some n
/-- cells put in the places is -/
def rf_rep (ws : va_W) : List Nat → va_W → va_W
  | i :: is, c :: w => (rf_rep ws is w).set i c
  | _, _ => ws
theorem rf_rep_get (ws : va_W) : ∀ (is : List Nat) (w : va_W) (k : Nat) (q : Nat × va_E), is.length = w.length → (rf_rep ws is w)[k]? = some q → (∃ j : Nat, w[j]? = some q) ∨ (ws[k]? = some q ∧ k ∉ is)
  | [], [], k, q, _, h => Or.inr ⟨h, List.not_mem_nil⟩
  | [], c :: w, k, q, hl, h => by simp at hl
  | i :: is, [], k, q, hl, h => by simp at hl
  | i :: is, c :: w, k, q, hl, h => by
    simp only [rf_rep] at h
    by_cases hk : k = i
    · subst hk
      have hlt : k < (rf_rep ws is w).length := by
        have := (List.getElem?_eq_some_iff.mp h).1
        simpa using this
      rw [List.getElem?_set_self hlt] at h
      exact Or.inl ⟨0, h⟩
    · rw [List.getElem?_set_ne (Ne.symm hk)] at h
      rcases rf_rep_get ws is w k q (by simpa using hl) h with ⟨j, hj⟩ | ⟨h1, h2⟩
      · exact Or.inl ⟨j + 1, hj⟩
      · exact Or.inr ⟨h1, fun hm => (List.mem_cons.mp hm).elim hk h2⟩
theorem rf_rep_ad (ws : va_W) : ∀ (is : List Nat) (w : va_W) (k : Nat) (q : Nat × va_E), is.map (fun i => (ws[i]?).map (fun c => c.1)) = w.map (fun c => some c.1) → (rf_rep ws is w)[k]? = some q → ∃ q0, ws[k]? = some q0 ∧ q0.1 = q.1
  | [], [], k, q, _, h => ⟨q, h, rfl⟩
  | [], c :: w, k, q, hl, h => by simp at hl
  | i :: is, [], k, q, hl, h => by simp at hl
  | i :: is, c :: w, k, q, hl, h => by
    simp only [List.map_cons, List.cons.injEq] at hl
    simp only [rf_rep] at h
    by_cases hk : k = i
    · subst hk
      have hlt : k < (rf_rep ws is w).length := by
        have := (List.getElem?_eq_some_iff.mp h).1
        simpa using this
      rw [List.getElem?_set_self hlt] at h
      cases h
      cases hw : ws[k]? with
      | none => rw [hw] at hl; simp at hl
      | some q0 => rw [hw] at hl; exact ⟨q0, rfl, by simpa using hl.1⟩
    · rw [List.getElem?_set_ne (Ne.symm hk)] at h
      exact rf_rep_ad ws is w k q hl.2 h
theorem rf_rep_ok {A0 : Nat → Prop} {D : va_G} {cl : List vw_C} {ws wc wo : va_W} {H H1 : Heap} (hP : va_P D cl ws H) (hD : va_D A0 ws) (is : List Nat) (hC : is.map (fun i => ws[i]?) = wc.map some) (ha : wo.map (fun c => c.1) = wc.map (fun c => c.1))
    (hk : ∀ q : Nat, q < H.size → ¬ va_A wc H.size q → H1[q]? = H[q]?) (hP1 : va_P D cl wo H1) : va_P D cl (rf_rep ws is wo) H1 ∧ va_D A0 (rf_rep ws is wo) := by
  have hlen : is.length = wo.length := by
    have h1 := congrArg List.length hC
    have h2 := congrArg List.length ha
    simp at h1 h2
    omega
  have hads : is.map (fun i => (ws[i]?).map (fun c => c.1)) = wo.map (fun c => some c.1) := by
    have h1 : is.map (fun i => (ws[i]?).map (fun c => c.1)) = (is.map (fun i => ws[i]?)).map (fun o => o.map (fun c => c.1)) := by rw [List.map_map]; rfl
    have h2 : wo.map (fun c => some c.1) = (wo.map (fun c => c.1)).map some := by rw [List.map_map]; rfl
    rw [h1, hC, h2, ha, List.map_map, List.map_map]
    rfl
  refine ⟨fun k q hq => ?_, fun i j x y hi hj hxy => ?_, fun k q hq => ?_⟩
  · rcases rf_rep_get ws is wo k q hlen hq with ⟨j, hj⟩ | ⟨h1, h2⟩
    · exact hP1 j q hj
    · have hlt := (hP k q h1).lt
      refine (hP k q h1).kept (hk q.1 hlt (fun h => ?_))
      rcases h with ⟨k2, e, h⟩ | h
      · have h3 : (is.map (fun i => ws[i]?))[k2]? = some (some (q.1, e)) := by rw [hC, List.getElem?_map, h]; rfl
        rw [List.getElem?_map] at h3
        cases hi : is[k2]? with
        | none => rw [hi] at h3; cases h3
        | some i =>
          rw [hi] at h3
          have h4 := hD.1 k i q (q.1, e) h1 (Option.some.inj h3) rfl
          exact h2 (h4 ▸ List.mem_of_getElem? hi)
      · omega
  · obtain ⟨x0, h1, h2⟩ := rf_rep_ad ws is wo i x hads hi
    obtain ⟨y0, h3, h4⟩ := rf_rep_ad ws is wo j y hads hj
    exact hD.1 i j x0 y0 h1 h3 (h2.trans (hxy.trans h4.symm))
  · obtain ⟨q0, h1, h2⟩ := rf_rep_ad ws is wo k q hads hq
    rw [← h2]
    exact hD.2 k q0 h1
theorem rf_P.blind {V : VT} {av : List Value} {wi : va_W} {sz : Nat} : FrameBlind (rf_P V av wi sz) := fun a U g mk q => by
  obtain ⟨q0, q1, qP, qK, qN, qD⟩ := q
  exact ⟨q0, q1, qP, va_K.moved (u := U) (U := U.calling g mk a) (Vm.Alike.refl U.vm) qK, qN.calling, qD⟩
section RFK
variable {V : VT} {K : KT} {nL nc ns : Nat} {ws ws' wc wo : va_W} {pc : Nat} {lv lv' : List (Nat × Value)} {st rest : List Value} {cc : ByteArray} {own : String} {rm : Room}
variable {y : MethodName} {c2 : ByteArray} {maxL : Nat} {ty : FieldType} {rm2 : Room} {b : Nat} {As : List Value} {idx n : Nat}
/-- a call of an instance method that answers r0 and makes its cells wc into wo -/
theorem g_calli {r0 : Int32} (cx : Cx V K nL cc own rm) (hM : CI V y c2 maxL ty rm2 (.ref b :: As) wc (fun r w => r = r0 ∧ w = wo)) (hl : MLk own idx y c2 maxL (some ty) n) (hd : decode cc pc = .ok (.invokevirtual idx, 3)) (is : List Nat) (hn : va_nd is = true) (hC : is.map (fun i => ws[i]?) = wc.map some) (ha : wo.map (fun c => c.1) = wc.map (fun c => c.1)) (hw : rf_rep ws is wo = ws') (q0 ci : Nat) {fs : List Value} {q : vw_C} (hq0 : wc[q0]? = some (b, .inr (ci, fs))) (hci : vwCl[ci]? = some q) (hqc : q.1 = y.cls) (hst : st = As.reverse ++ .ref b :: rest) (hlen : As.length = n) (hroom : (rest.map fun v => v.category).sum ≤ 8) (hfr : (rm2.frames + 1 ≤ rm.frames ∧ 8 + (maxL + 11) + rm2.locals ≤ rm.locals)) (hcs : nc + rm2.cells ≤ rm.cells ∧ ns + rm2.slots ≤ rm.slots)
    (k : G V K nL (nc + rm2.cells) (ns + rm2.slots) ws' (pc + 3) lv (.int r0 :: rest)) : G V K nL nc ns ws pc lv st := by
  subst hw; subst hst
  obtain ⟨l, D, cy⟩ := V; obtain ⟨p, e, R, s, m, args, below, meth, c, A, H0, Q⟩ := K
  obtain ⟨hx, hb, hml, hown, ht, hK, hN, hlk, hR, hA⟩ := cx
  subst hR
  obtain ⟨m1, m2, m3, m4, m5, m6, m7, m8⟩ := hl
  intro H locs ls hP hD hS hl
  have hFc := va_free (wc := wc) hD hS hA is hC
  have hPc : va_P D vwCl wc H := fun k q hk => by
    have h3 : (is.map (fun i => ws[i]?))[k]? = some (some q) := by rw [hC, List.getElem?_map, hk]; rfl
    rw [List.getElem?_map] at h3
    cases hi : is[k]? with
    | none => rw [hi] at h3; cases h3
    | some i => rw [hi] at h3; exact hP i q (Option.some.inj h3)
  have hrecv := va_recv hK hPc hci hq0
  have hgi : GoodIn lw_good (wsV own idx y.cls y (.code y c2 maxL (some ty) :: lw_good)) := rf_good_in (fun w hw => by
    simp only [wsV, List.cons_append, List.nil_append, List.mem_cons] at hw
    rcases hw with rfl | rfl | rfl | rfl | rfl | hw
    · exact m1
    · exact m2
    · exact m3
    · exact m4
    · exact m5
    · exact hw)
  have hDc := hD.sub is hn hC
  refine va_calli (va_runV (As := As) (rest := rest) ⟨hx, hb, hml, hown, ht⟩ (hM H.size) (cwV n ht hgi rfl rfl rfl ⟨rfl, m6, m7, m8⟩ hfr) ⟨rf_P.blind, by rw [← hqc]; exact hrecv, fun U hU hW => ⟨rfl, by rw [hU], by rw [hU]; exact hPc, va_K.moved hW.alike hK, hN.warm hW, hDc.weaken (fun _ _ _ _ => trivial)⟩⟩ rfl hlen hl.1 rfl (lv_room hroom) hd hcs) hS (fun q _ h => hFc q h) hFc (fun r w t H1 locs1 e1 hvm hpost hB hz hk hS1 => ?_)
  obtain ⟨rfl, rfl⟩ := hpost
  obtain ⟨hP1, hD1⟩ := hB
  rw [e1] at hP1
  obtain ⟨hP2, hD2⟩ := rf_rep_ok hP hD is hC ha hk hP1
  exact k H1 locs1 ls hP2 hD2 hS1 hl
/-- a call of an instance method that answers nothing and makes its cells wc into wo -/
theorem g_callv (cx : Cx V K nL cc own rm) (hM : CV V y c2 maxL rm2 (.ref b :: As) wc (fun w => w = wo)) (hl : MLk own idx y c2 maxL none n) (hd : decode cc pc = .ok (.invokevirtual idx, 3)) (is : List Nat) (hn : va_nd is = true) (hC : is.map (fun i => ws[i]?) = wc.map some) (ha : wo.map (fun c => c.1) = wc.map (fun c => c.1)) (hw : rf_rep ws is wo = ws') (q0 ci : Nat) {fs : List Value} {q : vw_C} (hq0 : wc[q0]? = some (b, .inr (ci, fs))) (hci : vwCl[ci]? = some q) (hqc : q.1 = y.cls) (hst : st = As.reverse ++ .ref b :: rest) (hlen : As.length = n) (hroom : (rest.map fun v => v.category).sum ≤ 8) (hfr : (rm2.frames + 1 ≤ rm.frames ∧ 8 + (maxL + 11) + rm2.locals ≤ rm.locals)) (hcs : nc + rm2.cells ≤ rm.cells ∧ ns + rm2.slots ≤ rm.slots)
    (k : G V K nL (nc + rm2.cells) (ns + rm2.slots) ws' (pc + 3) lv rest) : G V K nL nc ns ws pc lv st := by
  subst hw; subst hst
  obtain ⟨l, D, cy⟩ := V; obtain ⟨p, e, R, s, m, args, below, meth, c, A, H0, Q⟩ := K
  obtain ⟨hx, hb, hml, hown, ht, hK, hN, hlk, hR, hA⟩ := cx
  subst hR
  obtain ⟨m1, m2, m3, m4, m5, m6, m7, m8⟩ := hl
  intro H locs ls hP hD hS hl
  have hFc := va_free (wc := wc) hD hS hA is hC
  have hPc : va_P D vwCl wc H := fun k q hk => by
    have h3 : (is.map (fun i => ws[i]?))[k]? = some (some q) := by rw [hC, List.getElem?_map, hk]; rfl
    rw [List.getElem?_map] at h3
    cases hi : is[k]? with
    | none => rw [hi] at h3; cases h3
    | some i => rw [hi] at h3; exact hP i q (Option.some.inj h3)
  have hrecv := va_recv hK hPc hci hq0
  have hgi : GoodIn lw_good (wsV own idx y.cls y (.code y c2 maxL none :: lw_good)) := rf_good_in (fun w hw => by
    simp only [wsV, List.cons_append, List.nil_append, List.mem_cons] at hw
    rcases hw with rfl | rfl | rfl | rfl | rfl | hw
    · exact m1
    · exact m2
    · exact m3
    · exact m4
    · exact m5
    · exact hw)
  have hDc := hD.sub is hn hC
  refine va_callv (va_runV (As := As) (rest := rest) ⟨hx, hb, hml, hown, ht⟩ (hM H.size) (cwV n ht hgi rfl rfl rfl ⟨rfl, m6, m7, m8⟩ hfr) ⟨rf_P.blind, by rw [← hqc]; exact hrecv, fun U hU hW => ⟨rfl, by rw [hU], by rw [hU]; exact hPc, va_K.moved hW.alike hK, hN.warm hW, hDc.weaken (fun _ _ _ _ => trivial)⟩⟩ rfl hlen hl.1 rfl (lv_room hroom) hd hcs) hS (fun q _ h => hFc q h) hFc (fun w t H1 locs1 e1 hvm hpost hB hz hk hS1 => ?_)
  subst hpost
  obtain ⟨hP1, hD1⟩ := hB
  rw [e1] at hP1
  obtain ⟨hP2, hD2⟩ := rf_rep_ok hP hD is hC ha hk hP1
  exact k H1 locs1 ls hP2 hD2 hS1 hl
/-- a call of a static method that answers r0 and makes its cells wc into wo -/
theorem g_callsi {r0 : Int32} (cx : Cx V K nL cc own rm) (hM : CI V y c2 maxL ty rm2 As wc (fun r w => r = r0 ∧ w = wo)) (hl : MLs own idx y c2 maxL (some ty) n) (hd : decode cc pc = .ok (.invokestatic idx, 3)) (is : List Nat) (hn : va_nd is = true) (hC : is.map (fun i => ws[i]?) = wc.map some) (ha : wo.map (fun c => c.1) = wc.map (fun c => c.1)) (hw : rf_rep ws is wo = ws') (hst : st = As.reverse ++ rest) (hlen : As.length = n) (hroom : (rest.map fun v => v.category).sum ≤ 8) (hfr : (rm2.frames + 1 ≤ rm.frames ∧ 8 + (maxL + 11) + rm2.locals ≤ rm.locals)) (hcs : nc + rm2.cells ≤ rm.cells ∧ ns + rm2.slots ≤ rm.slots)
    (k : G V K nL (nc + rm2.cells) (ns + rm2.slots) ws' (pc + 3) lv (.int r0 :: rest)) : G V K nL nc ns ws pc lv st := by
  subst hw; subst hst
  obtain ⟨l, D, cy⟩ := V; obtain ⟨p, e, R, s, m, args, below, meth, c, A, H0, Q⟩ := K
  obtain ⟨hx, hb, hml, hown, ht, hK, hN, hlk, hR, hA⟩ := cx
  subst hR
  obtain ⟨m1, m2, m3, m4, m5, m6, m7⟩ := hl
  intro H locs ls hP hD hS hl
  have hFc := va_free (wc := wc) hD hS hA is hC
  have hPc : va_P D vwCl wc H := fun k q hk => by
    have h3 : (is.map (fun i => ws[i]?))[k]? = some (some q) := by rw [hC, List.getElem?_map, hk]; rfl
    rw [List.getElem?_map] at h3
    cases hi : is[k]? with
    | none => rw [hi] at h3; cases h3
    | some i => rw [hi] at h3; exact hP i q (Option.some.inj h3)
  have hgi : GoodIn lw_good (va_wsS own idx y (.code y c2 maxL (some ty) :: lw_good)) := rf_good_in (fun w hw => by
    simp only [va_wsS, List.cons_append, List.nil_append, List.mem_cons] at hw
    rcases hw with rfl | rfl | rfl | rfl | hw
    · exact m1
    · exact m2
    · exact m3
    · exact m4
    · exact hw)
  have hDc := hD.sub is hn hC
  refine va_calli (va_runS (As := As) (rest := rest) ⟨hx, hb, hml, hown, ht⟩ (hM H.size) (va_cwS n ht hgi rfl rfl rfl ⟨m5, m6, m7⟩ hfr) ⟨rf_P.blind, fun U hU hW => ⟨rfl, by rw [hU], by rw [hU]; exact hPc, va_K.moved hW.alike hK, hN.warm hW, hDc.weaken (fun _ _ _ _ => trivial)⟩⟩ rfl hlen hl.1 rfl (lv_room hroom) hd hcs) hS (fun q _ h => hFc q h) hFc (fun r w t H1 locs1 e1 hvm hpost hB hz hk hS1 => ?_)
  obtain ⟨rfl, rfl⟩ := hpost
  obtain ⟨hP1, hD1⟩ := hB
  rw [e1] at hP1
  obtain ⟨hP2, hD2⟩ := rf_rep_ok hP hD is hC ha hk hP1
  exact k H1 locs1 ls hP2 hD2 hS1 hl
/-- a call of a static method that answers nothing and makes its cells wc into wo -/
theorem g_callsv (cx : Cx V K nL cc own rm) (hM : CV V y c2 maxL rm2 As wc (fun w => w = wo)) (hl : MLs own idx y c2 maxL none n) (hd : decode cc pc = .ok (.invokestatic idx, 3)) (is : List Nat) (hn : va_nd is = true) (hC : is.map (fun i => ws[i]?) = wc.map some) (ha : wo.map (fun c => c.1) = wc.map (fun c => c.1)) (hw : rf_rep ws is wo = ws') (hst : st = As.reverse ++ rest) (hlen : As.length = n) (hroom : (rest.map fun v => v.category).sum ≤ 8) (hfr : (rm2.frames + 1 ≤ rm.frames ∧ 8 + (maxL + 11) + rm2.locals ≤ rm.locals)) (hcs : nc + rm2.cells ≤ rm.cells ∧ ns + rm2.slots ≤ rm.slots)
    (k : G V K nL (nc + rm2.cells) (ns + rm2.slots) ws' (pc + 3) lv rest) : G V K nL nc ns ws pc lv st := by
  subst hw; subst hst
  obtain ⟨l, D, cy⟩ := V; obtain ⟨p, e, R, s, m, args, below, meth, c, A, H0, Q⟩ := K
  obtain ⟨hx, hb, hml, hown, ht, hK, hN, hlk, hR, hA⟩ := cx
  subst hR
  obtain ⟨m1, m2, m3, m4, m5, m6, m7⟩ := hl
  intro H locs ls hP hD hS hl
  have hFc := va_free (wc := wc) hD hS hA is hC
  have hPc : va_P D vwCl wc H := fun k q hk => by
    have h3 : (is.map (fun i => ws[i]?))[k]? = some (some q) := by rw [hC, List.getElem?_map, hk]; rfl
    rw [List.getElem?_map] at h3
    cases hi : is[k]? with
    | none => rw [hi] at h3; cases h3
    | some i => rw [hi] at h3; exact hP i q (Option.some.inj h3)
  have hgi : GoodIn lw_good (va_wsS own idx y (.code y c2 maxL none :: lw_good)) := rf_good_in (fun w hw => by
    simp only [va_wsS, List.cons_append, List.nil_append, List.mem_cons] at hw
    rcases hw with rfl | rfl | rfl | rfl | hw
    · exact m1
    · exact m2
    · exact m3
    · exact m4
    · exact hw)
  have hDc := hD.sub is hn hC
  refine va_callv (va_runS (As := As) (rest := rest) ⟨hx, hb, hml, hown, ht⟩ (hM H.size) (va_cwS n ht hgi rfl rfl rfl ⟨m5, m6, m7⟩ hfr) ⟨rf_P.blind, fun U hU hW => ⟨rfl, by rw [hU], by rw [hU]; exact hPc, va_K.moved hW.alike hK, hN.warm hW, hDc.weaken (fun _ _ _ _ => trivial)⟩⟩ rfl hlen hl.1 rfl (lv_room hroom) hd hcs) hS (fun q _ h => hFc q h) hFc (fun w t H1 locs1 e1 hvm hpost hB hz hk hS1 => ?_)
  subst hpost
  obtain ⟨hP1, hD1⟩ := hB
  rw [e1] at hP1
  obtain ⟨hP2, hD2⟩ := rf_rep_ok hP hD is hC ha hk hP1
  exact k H1 locs1 ls hP2 hD2 hS1 hl
end RFK
theorem rf_dn {P : Nat → Prop} (n : Nat) (h : ∀ i, i < n → P (i + 1) → P i) (hn : P n) : P 0 := by
  have : ∀ d, d ≤ n → P (n - d) := by
    intro d
    induction d with
    | zero => intro _; exact hn
    | succ d ih =>
      intro hd
      have h2 := ih (by omega)
      have h3 : n - (d + 1) + 1 = n - d := by omega
      exact h (n - (d + 1)) (by omega) (by rw [h3]; exact h2)
  have h0 := this n (Nat.le_refl n)
  rwa [Nat.sub_self] at h0
/-- a fold: what a counted loop leaves -/
def fl {σ : Type} (f : Nat → σ → σ) : Nat → σ → σ
  | 0, s => s
  | n + 1, s => f n (fl f n s)
end
section
theorem fk_X3_9 : FLk RX3 9 3 0 true (.array .int) := ⟨RX3, TX3, 12, tyX3, rfl, by decide, i_X3, tyX3_ok, nmX3, rfl, rfl, by decide +kernel, Or.inl (lw_gi 62 (by decide +kernel) rfl)⟩
theorem fw_X3_9 : Cond.fieldLink RX3 9 RX3 (TX3 0).2.1 (TX3 0).2.2.1 ∈ lw_good := lw_gi 62 (by decide +kernel) rfl
theorem fk_X3_15 : FLk RX3 15 3 1 true (.array .int) := ⟨RX3, TX3, 12, tyX3, rfl, by decide, i_X3, tyX3_ok, nmX3, rfl, rfl, by decide +kernel, Or.inl (lw_gi 63 (by decide +kernel) rfl)⟩
theorem fw_X3_15 : Cond.fieldLink RX3 15 RX3 (TX3 1).2.1 (TX3 1).2.2.1 ∈ lw_good := lw_gi 63 (by decide +kernel) rfl
theorem fk_X3_18 : FLk RX3 18 3 2 true (.array .int) := ⟨RX3, TX3, 12, tyX3, rfl, by decide, i_X3, tyX3_ok, nmX3, rfl, rfl, by decide +kernel, Or.inl (lw_gi 64 (by decide +kernel) rfl)⟩
theorem fw_X3_18 : Cond.fieldLink RX3 18 RX3 (TX3 2).2.1 (TX3 2).2.2.1 ∈ lw_good := lw_gi 64 (by decide +kernel) rfl
theorem fk_X3_21 : FLk RX3 21 3 3 true (.array .int) := ⟨RX3, TX3, 12, tyX3, rfl, by decide, i_X3, tyX3_ok, nmX3, rfl, rfl, by decide +kernel, Or.inl (lw_gi 65 (by decide +kernel) rfl)⟩
theorem fw_X3_21 : Cond.fieldLink RX3 21 RX3 (TX3 3).2.1 (TX3 3).2.2.1 ∈ lw_good := lw_gi 65 (by decide +kernel) rfl
theorem fk_X3_24 : FLk RX3 24 3 4 true (.array .int) := ⟨RX3, TX3, 12, tyX3, rfl, by decide, i_X3, tyX3_ok, nmX3, rfl, rfl, by decide +kernel, Or.inl (lw_gi 66 (by decide +kernel) rfl)⟩
theorem fw_X3_24 : Cond.fieldLink RX3 24 RX3 (TX3 4).2.1 (TX3 4).2.2.1 ∈ lw_good := lw_gi 66 (by decide +kernel) rfl
theorem fk_X4_65 : FLk RX4 65 3 4 true (.array .int) := ⟨RX3, TX3, 12, tyX3, rfl, by decide, i_X3, tyX3_ok, nmX3, rfl, rfl, by decide +kernel, Or.inr ⟨"RingFrames", List.mem_of_getElem? (i := 0) (by decide +kernel)⟩⟩
theorem fk_X8_181 : FLk RX8 181 3 4 true (.array .int) := ⟨RX3, TX3, 12, tyX3, rfl, by decide, i_X3, tyX3_ok, nmX3, rfl, rfl, by decide +kernel, Or.inr ⟨"RingFrames", List.mem_of_getElem? (i := 1) (by decide +kernel)⟩⟩
theorem fk_X3_34 : FLk RX3 34 3 5 false .int := ⟨RX3, TX3, 12, tyX3, rfl, by decide, i_X3, tyX3_ok, nmX3, rfl, rfl, by decide +kernel, Or.inl (lw_gi 69 (by decide +kernel) rfl)⟩
theorem fk_X4_38 : FLk RX4 38 3 5 false .int := ⟨RX3, TX3, 12, tyX3, rfl, by decide, i_X3, tyX3_ok, nmX3, rfl, rfl, by decide +kernel, Or.inr ⟨"RingFrames", List.mem_of_getElem? (i := 2) (by decide +kernel)⟩⟩
theorem fk_X2_37 : FLk RX2 37 3 5 false .int := ⟨RX3, TX3, 12, tyX3, rfl, by decide, i_X3, tyX3_ok, nmX3, rfl, rfl, by decide +kernel, Or.inr ⟨"RingFrames", List.mem_of_getElem? (i := 3) (by decide +kernel)⟩⟩
theorem fk_X8_92 : FLk RX8 92 3 5 false .int := ⟨RX3, TX3, 12, tyX3, rfl, by decide, i_X3, tyX3_ok, nmX3, rfl, rfl, by decide +kernel, Or.inr ⟨"RingFrames", List.mem_of_getElem? (i := 4) (by decide +kernel)⟩⟩
theorem fk_X0_21 : FLk RX0 21 3 6 false .int := ⟨RX3, TX3, 12, tyX3, rfl, by decide, i_X3, tyX3_ok, nmX3, rfl, rfl, by decide +kernel, Or.inr ⟨"RingFrames", List.mem_of_getElem? (i := 5) (by decide +kernel)⟩⟩
theorem fk_X3_54 : FLk RX3 54 3 6 false .int := ⟨RX3, TX3, 12, tyX3, rfl, by decide, i_X3, tyX3_ok, nmX3, rfl, rfl, by decide +kernel, Or.inl (lw_gi 74 (by decide +kernel) rfl)⟩
theorem fk_X4_52 : FLk RX4 52 3 6 false .int := ⟨RX3, TX3, 12, tyX3, rfl, by decide, i_X3, tyX3_ok, nmX3, rfl, rfl, by decide +kernel, Or.inr ⟨"RingFrames", List.mem_of_getElem? (i := 6) (by decide +kernel)⟩⟩
theorem fk_X8_102 : FLk RX8 102 3 6 false .int := ⟨RX3, TX3, 12, tyX3, rfl, by decide, i_X3, tyX3_ok, nmX3, rfl, rfl, by decide +kernel, Or.inr ⟨"RingFrames", List.mem_of_getElem? (i := 7) (by decide +kernel)⟩⟩
theorem fk_X2_83 : FLk RX2 83 3 6 false .int := ⟨RX3, TX3, 12, tyX3, rfl, by decide, i_X3, tyX3_ok, nmX3, rfl, rfl, by decide +kernel, Or.inr ⟨"RingFrames", List.mem_of_getElem? (i := 8) (by decide +kernel)⟩⟩
theorem fk_X3_42 : FLk RX3 42 3 7 false .int := ⟨RX3, TX3, 12, tyX3, rfl, by decide, i_X3, tyX3_ok, nmX3, rfl, rfl, by decide +kernel, Or.inl (lw_gi 78 (by decide +kernel) rfl)⟩
theorem fk_X2_74 : FLk RX2 74 3 7 false .int := ⟨RX3, TX3, 12, tyX3, rfl, by decide, i_X3, tyX3_ok, nmX3, rfl, rfl, by decide +kernel, Or.inr ⟨"RingFrames", List.mem_of_getElem? (i := 9) (by decide +kernel)⟩⟩
theorem fk_X8_225 : FLk RX8 225 3 7 false .int := ⟨RX3, TX3, 12, tyX3, rfl, by decide, i_X3, tyX3_ok, nmX3, rfl, rfl, by decide +kernel, Or.inr ⟨"RingFrames", List.mem_of_getElem? (i := 10) (by decide +kernel)⟩⟩
theorem fk_X3_45 : FLk RX3 45 3 8 false .int := ⟨RX3, TX3, 12, tyX3, rfl, by decide, i_X3, tyX3_ok, nmX3, rfl, rfl, by decide +kernel, Or.inl (lw_gi 81 (by decide +kernel) rfl)⟩
theorem fk_X4_49 : FLk RX4 49 3 8 false .int := ⟨RX3, TX3, 12, tyX3, rfl, by decide, i_X3, tyX3_ok, nmX3, rfl, rfl, by decide +kernel, Or.inr ⟨"RingFrames", List.mem_of_getElem? (i := 11) (by decide +kernel)⟩⟩
theorem fk_X8_228 : FLk RX8 228 3 8 false .int := ⟨RX3, TX3, 12, tyX3, rfl, by decide, i_X3, tyX3_ok, nmX3, rfl, rfl, by decide +kernel, Or.inr ⟨"RingFrames", List.mem_of_getElem? (i := 12) (by decide +kernel)⟩⟩
theorem fk_X3_38 : FLk RX3 38 3 9 false .boolean := ⟨RX3, TX3, 12, tyX3, rfl, by decide, i_X3, tyX3_ok, nmX3, rfl, rfl, by decide +kernel, Or.inl (lw_gi 84 (by decide +kernel) rfl)⟩
theorem fk_X8_222 : FLk RX8 222 3 9 false .boolean := ⟨RX3, TX3, 12, tyX3, rfl, by decide, i_X3, tyX3_ok, nmX3, rfl, rfl, by decide +kernel, Or.inr ⟨"RingFrames", List.mem_of_getElem? (i := 13) (by decide +kernel)⟩⟩
theorem fk_X3_57 : FLk RX3 57 3 10 false .boolean := ⟨RX3, TX3, 12, tyX3, rfl, by decide, i_X3, tyX3_ok, nmX3, rfl, rfl, by decide +kernel, Or.inl (lw_gi 86 (by decide +kernel) rfl)⟩
theorem fk_X4_62 : FLk RX4 62 3 10 false .boolean := ⟨RX3, TX3, 12, tyX3, rfl, by decide, i_X3, tyX3_ok, nmX3, rfl, rfl, by decide +kernel, Or.inr ⟨"RingFrames", List.mem_of_getElem? (i := 14) (by decide +kernel)⟩⟩
theorem fk_X8_175 : FLk RX8 175 3 10 false .boolean := ⟨RX3, TX3, 12, tyX3, rfl, by decide, i_X3, tyX3_ok, nmX3, rfl, rfl, by decide +kernel, Or.inr ⟨"RingFrames", List.mem_of_getElem? (i := 15) (by decide +kernel)⟩⟩
theorem fk_X4_25 : FLk RX4 25 3 11 false .boolean := ⟨RX3, TX3, 12, tyX3, rfl, by decide, i_X3, tyX3_ok, nmX3, rfl, rfl, by decide +kernel, Or.inr ⟨"RingFrames", List.mem_of_getElem? (i := 16) (by decide +kernel)⟩⟩
theorem fk_X3_48 : FLk RX3 48 3 11 false .boolean := ⟨RX3, TX3, 12, tyX3, rfl, by decide, i_X3, tyX3_ok, nmX3, rfl, rfl, by decide +kernel, Or.inl (lw_gi 90 (by decide +kernel) rfl)⟩
theorem fk_X8_119 : FLk RX8 119 3 11 false .boolean := ⟨RX3, TX3, 12, tyX3, rfl, by decide, i_X3, tyX3_ok, nmX3, rfl, rfl, by decide +kernel, Or.inr ⟨"RingFrames", List.mem_of_getElem? (i := 17) (by decide +kernel)⟩⟩
theorem fk_X7_9 : FLk RX7 9 7 0 true (.array .int) := ⟨RX7, TX7, 6, tyX7, rfl, by decide, i_X7, tyX7_ok, nmX7, rfl, rfl, by decide +kernel, Or.inl (lw_gi 124 (by decide +kernel) rfl)⟩
theorem fw_X7_9 : Cond.fieldLink RX7 9 RX7 (TX7 0).2.1 (TX7 0).2.2.1 ∈ lw_good := lw_gi 124 (by decide +kernel) rfl
theorem fk_X7_15 : FLk RX7 15 7 1 false .int := ⟨RX7, TX7, 6, tyX7, rfl, by decide, i_X7, tyX7_ok, nmX7, rfl, rfl, by decide +kernel, Or.inl (lw_gi 125 (by decide +kernel) rfl)⟩
theorem fk_X8_74 : FLk RX8 74 7 1 false .int := ⟨RX7, TX7, 6, tyX7, rfl, by decide, i_X7, tyX7_ok, nmX7, rfl, rfl, by decide +kernel, Or.inr ⟨"RingFrames", List.mem_of_getElem? (i := 19) (by decide +kernel)⟩⟩
theorem fk_X7_19 : FLk RX7 19 7 2 false .int := ⟨RX7, TX7, 6, tyX7, rfl, by decide, i_X7, tyX7_ok, nmX7, rfl, rfl, by decide +kernel, Or.inl (lw_gi 127 (by decide +kernel) rfl)⟩
theorem fk_X8_86 : FLk RX8 86 7 3 false .int := ⟨RX7, TX7, 6, tyX7, rfl, by decide, i_X7, tyX7_ok, nmX7, rfl, rfl, by decide +kernel, Or.inr ⟨"RingFrames", List.mem_of_getElem? (i := 20) (by decide +kernel)⟩⟩
theorem fk_X7_25 : FLk RX7 25 7 3 false .int := ⟨RX7, TX7, 6, tyX7, rfl, by decide, i_X7, tyX7_ok, nmX7, rfl, rfl, by decide +kernel, Or.inl (lw_gi 129 (by decide +kernel) rfl)⟩
theorem fk_X2_29 : FLk RX2 29 7 4 false .int := ⟨RX7, TX7, 6, tyX7, rfl, by decide, i_X7, tyX7_ok, nmX7, rfl, rfl, by decide +kernel, Or.inr ⟨"RingFrames", List.mem_of_getElem? (i := 21) (by decide +kernel)⟩⟩
theorem fk_X7_28 : FLk RX7 28 7 4 false .int := ⟨RX7, TX7, 6, tyX7, rfl, by decide, i_X7, tyX7_ok, nmX7, rfl, rfl, by decide +kernel, Or.inl (lw_gi 131 (by decide +kernel) rfl)⟩
theorem fk_X7_38 : FLk RX7 38 7 5 false .int := ⟨RX7, TX7, 6, tyX7, rfl, by decide, i_X7, tyX7_ok, nmX7, rfl, rfl, by decide +kernel, Or.inl (lw_gi 132 (by decide +kernel) rfl)⟩
theorem fk_X2_93 : FLk RX2 93 7 5 false .int := ⟨RX7, TX7, 6, tyX7, rfl, by decide, i_X7, tyX7_ok, nmX7, rfl, rfl, by decide +kernel, Or.inr ⟨"RingFrames", List.mem_of_getElem? (i := 22) (by decide +kernel)⟩⟩
theorem fk_X2_9 : FLk RX2 9 2 0 true (.object "RingFrames$Text") := ⟨RX2, TX2, 2, tyX2, rfl, by decide, i_X2, tyX2_ok, nmX2, rfl, rfl, by decide +kernel, Or.inl (lw_gi 153 (by decide +kernel) rfl)⟩
theorem fw_X2_9 : Cond.fieldLink RX2 9 RX2 (TX2 0).2.1 (TX2 0).2.2.1 ∈ lw_good := lw_gi 153 (by decide +kernel) rfl
theorem fk_X2_20 : FLk RX2 20 2 1 false .boolean := ⟨RX2, TX2, 2, tyX2, rfl, by decide, i_X2, tyX2_ok, nmX2, rfl, rfl, by decide +kernel, Or.inl (lw_gi 154 (by decide +kernel) rfl)⟩
theorem fk_X0_9 : FLk RX0 9 0 0 true (.array .int) := ⟨RX0, TX0, 3, tyX0, rfl, by decide, i_X0, tyX0_ok, nmX0, rfl, rfl, by decide +kernel, Or.inl (lw_gi 172 (by decide +kernel) rfl)⟩
theorem fw_X0_9 : Cond.fieldLink RX0 9 RX0 (TX0 0).2.1 (TX0 0).2.2.1 ∈ lw_good := lw_gi 172 (by decide +kernel) rfl
theorem fk_X4_114 : FLk RX4 114 0 0 true (.array .int) := ⟨RX0, TX0, 3, tyX0, rfl, by decide, i_X0, tyX0_ok, nmX0, rfl, rfl, by decide +kernel, Or.inr ⟨"RingFrames", List.mem_of_getElem? (i := 25) (by decide +kernel)⟩⟩
theorem fk_X0_15 : FLk RX0 15 0 1 true (.array .int) := ⟨RX0, TX0, 3, tyX0, rfl, by decide, i_X0, tyX0_ok, nmX0, rfl, rfl, by decide +kernel, Or.inl (lw_gi 174 (by decide +kernel) rfl)⟩
theorem fw_X0_15 : Cond.fieldLink RX0 15 RX0 (TX0 1).2.1 (TX0 1).2.2.1 ∈ lw_good := lw_gi 174 (by decide +kernel) rfl
theorem fk_X4_89 : FLk RX4 89 0 1 true (.array .int) := ⟨RX0, TX0, 3, tyX0, rfl, by decide, i_X0, tyX0_ok, nmX0, rfl, rfl, by decide +kernel, Or.inr ⟨"RingFrames", List.mem_of_getElem? (i := 26) (by decide +kernel)⟩⟩
theorem fk_X0_18 : FLk RX0 18 0 2 true (.array .int) := ⟨RX0, TX0, 3, tyX0, rfl, by decide, i_X0, tyX0_ok, nmX0, rfl, rfl, by decide +kernel, Or.inl (lw_gi 176 (by decide +kernel) rfl)⟩
theorem fw_X0_18 : Cond.fieldLink RX0 18 RX0 (TX0 2).2.1 (TX0 2).2.2.1 ∈ lw_good := lw_gi 176 (by decide +kernel) rfl
theorem fk_X4_12 : FLk RX4 12 4 0 true (.object "RingFrames$Copy") := ⟨RX4, TX4, 3, tyX4, rfl, by decide, i_X4, tyX4_ok, nmX4, rfl, rfl, by decide +kernel, Or.inl (lw_gi 184 (by decide +kernel) rfl)⟩
theorem fw_X4_12 : Cond.fieldLink RX4 12 RX4 (TX4 0).2.1 (TX4 0).2.2.1 ∈ lw_good := lw_gi 184 (by decide +kernel) rfl
theorem fk_X4_18 : FLk RX4 18 4 1 true (.object "RingFrames$Copy") := ⟨RX4, TX4, 3, tyX4, rfl, by decide, i_X4, tyX4_ok, nmX4, rfl, rfl, by decide +kernel, Or.inl (lw_gi 185 (by decide +kernel) rfl)⟩
theorem fw_X4_18 : Cond.fieldLink RX4 18 RX4 (TX4 1).2.1 (TX4 1).2.2.1 ∈ lw_good := lw_gi 185 (by decide +kernel) rfl
theorem fk_X4_21 : FLk RX4 21 4 2 false .int := ⟨RX4, TX4, 3, tyX4, rfl, by decide, i_X4, tyX4_ok, nmX4, rfl, rfl, by decide +kernel, Or.inl (lw_gi 186 (by decide +kernel) rfl)⟩
theorem fk_X1_11 : FLk RX1 11 1 0 true (.array (.object "RingFrames$Ring")) := ⟨RX1, TX1, 3, tyX1, rfl, by decide, i_X1, tyX1_ok, nmX1, rfl, rfl, by decide +kernel, Or.inl (lw_gi 203 (by decide +kernel) rfl)⟩
theorem fw_X1_11 : Cond.fieldLink RX1 11 RX1 (TX1 0).2.1 (TX1 0).2.2.1 ∈ lw_good := lw_gi 203 (by decide +kernel) rfl
theorem fk_X1_18 : FLk RX1 18 1 1 false .int := ⟨RX1, TX1, 3, tyX1, rfl, by decide, i_X1, tyX1_ok, nmX1, rfl, rfl, by decide +kernel, Or.inl (lw_gi 204 (by decide +kernel) rfl)⟩
theorem fk_X1_26 : FLk RX1 26 1 2 false .int := ⟨RX1, TX1, 3, tyX1, rfl, by decide, i_X1, tyX1_ok, nmX1, rfl, rfl, by decide +kernel, Or.inl (lw_gi 205 (by decide +kernel) rfl)⟩
theorem fk_X8_158 : FLk RX8 158 1 2 false .int := ⟨RX1, TX1, 3, tyX1, rfl, by decide, i_X1, tyX1_ok, nmX1, rfl, rfl, by decide +kernel, Or.inr ⟨"RingFrames", List.mem_of_getElem? (i := 27) (by decide +kernel)⟩⟩
theorem fk_X5_9 : FLk RX5 9 5 0 true (.array .int) := ⟨RX5, TX5, 3, tyX5, rfl, by decide, i_X5, tyX5_ok, nmX5, rfl, rfl, by decide +kernel, Or.inl (lw_gi 220 (by decide +kernel) rfl)⟩
theorem fw_X5_9 : Cond.fieldLink RX5 9 RX5 (TX5 0).2.1 (TX5 0).2.2.1 ∈ lw_good := lw_gi 220 (by decide +kernel) rfl
theorem fk_X5_15 : FLk RX5 15 5 1 true (.array .int) := ⟨RX5, TX5, 3, tyX5, rfl, by decide, i_X5, tyX5_ok, nmX5, rfl, rfl, by decide +kernel, Or.inl (lw_gi 221 (by decide +kernel) rfl)⟩
theorem fw_X5_15 : Cond.fieldLink RX5 15 RX5 (TX5 1).2.1 (TX5 1).2.2.1 ∈ lw_good := lw_gi 221 (by decide +kernel) rfl
theorem fk_X5_18 : FLk RX5 18 5 2 false .int := ⟨RX5, TX5, 3, tyX5, rfl, by decide, i_X5, tyX5_ok, nmX5, rfl, rfl, by decide +kernel, Or.inl (lw_gi 222 (by decide +kernel) rfl)⟩
theorem fk_X8_200 : FLk RX8 200 5 2 false .int := ⟨RX5, TX5, 3, tyX5, rfl, by decide, i_X5, tyX5_ok, nmX5, rfl, rfl, by decide +kernel, Or.inr ⟨"RingFrames", List.mem_of_getElem? (i := 29) (by decide +kernel)⟩⟩
theorem fk_X6_9 : FLk RX6 9 6 0 true (.array .int) := ⟨RX6, TX6, 3, tyX6, rfl, by decide, i_X6, tyX6_ok, nmX6, rfl, rfl, by decide +kernel, Or.inl (lw_gi 238 (by decide +kernel) rfl)⟩
theorem fw_X6_9 : Cond.fieldLink RX6 9 RX6 (TX6 0).2.1 (TX6 0).2.2.1 ∈ lw_good := lw_gi 238 (by decide +kernel) rfl
theorem fk_X8_211 : FLk RX8 211 6 0 true (.array .int) := ⟨RX6, TX6, 3, tyX6, rfl, by decide, i_X6, tyX6_ok, nmX6, rfl, rfl, by decide +kernel, Or.inr ⟨"RingFrames", List.mem_of_getElem? (i := 31) (by decide +kernel)⟩⟩
theorem fk_X6_15 : FLk RX6 15 6 1 true (.array .int) := ⟨RX6, TX6, 3, tyX6, rfl, by decide, i_X6, tyX6_ok, nmX6, rfl, rfl, by decide +kernel, Or.inl (lw_gi 240 (by decide +kernel) rfl)⟩
theorem fw_X6_15 : Cond.fieldLink RX6 15 RX6 (TX6 1).2.1 (TX6 1).2.2.1 ∈ lw_good := lw_gi 240 (by decide +kernel) rfl
theorem fk_X6_18 : FLk RX6 18 6 2 false .int := ⟨RX6, TX6, 3, tyX6, rfl, by decide, i_X6, tyX6_ok, nmX6, rfl, rfl, by decide +kernel, Or.inl (lw_gi 241 (by decide +kernel) rfl)⟩
theorem fk_X8_210 : FLk RX8 210 6 2 false .int := ⟨RX6, TX6, 3, tyX6, rfl, by decide, i_X6, tyX6_ok, nmX6, rfl, rfl, by decide +kernel, Or.inr ⟨"RingFrames", List.mem_of_getElem? (i := 32) (by decide +kernel)⟩⟩
theorem fk_X8_10 : FLk RX8 10 8 0 true (.object "RingFrames$Ring") := ⟨RX8, TX8, 11, tyX8, rfl, by decide, i_X8, tyX8_ok, nmX8, rfl, rfl, by decide +kernel, Or.inl (lw_gi 250 (by decide +kernel) rfl)⟩
theorem fw_X8_10 : Cond.fieldLink RX8 10 RX8 (TX8 0).2.1 (TX8 0).2.2.1 ∈ lw_good := lw_gi 250 (by decide +kernel) rfl
theorem fk_X8_16 : FLk RX8 16 8 1 true (.object "RingFrames$Ring") := ⟨RX8, TX8, 11, tyX8, rfl, by decide, i_X8, tyX8_ok, nmX8, rfl, rfl, by decide +kernel, Or.inl (lw_gi 251 (by decide +kernel) rfl)⟩
theorem fw_X8_16 : Cond.fieldLink RX8 16 RX8 (TX8 1).2.1 (TX8 1).2.2.1 ∈ lw_good := lw_gi 251 (by decide +kernel) rfl
theorem fk_X8_19 : FLk RX8 19 8 2 true (.object "RingFrames$Ring") := ⟨RX8, TX8, 11, tyX8, rfl, by decide, i_X8, tyX8_ok, nmX8, rfl, rfl, by decide +kernel, Or.inl (lw_gi 252 (by decide +kernel) rfl)⟩
theorem fw_X8_19 : Cond.fieldLink RX8 19 RX8 (TX8 2).2.1 (TX8 2).2.2.1 ∈ lw_good := lw_gi 252 (by decide +kernel) rfl
theorem fk_X8_25 : FLk RX8 25 8 3 true (.object "RingFrames$Text") := ⟨RX8, TX8, 11, tyX8, rfl, by decide, i_X8, tyX8_ok, nmX8, rfl, rfl, by decide +kernel, Or.inl (lw_gi 253 (by decide +kernel) rfl)⟩
theorem fw_X8_25 : Cond.fieldLink RX8 25 RX8 (TX8 3).2.1 (TX8 3).2.2.1 ∈ lw_good := lw_gi 253 (by decide +kernel) rfl
theorem fk_X8_34 : FLk RX8 34 8 4 true (.object "RingFrames$Reader") := ⟨RX8, TX8, 11, tyX8, rfl, by decide, i_X8, tyX8_ok, nmX8, rfl, rfl, by decide +kernel, Or.inl (lw_gi 254 (by decide +kernel) rfl)⟩
theorem fw_X8_34 : Cond.fieldLink RX8 34 RX8 (TX8 4).2.1 (TX8 4).2.2.1 ∈ lw_good := lw_gi 254 (by decide +kernel) rfl
theorem fk_X8_41 : FLk RX8 41 8 5 true (.object "RingFrames$Sender") := ⟨RX8, TX8, 11, tyX8, rfl, by decide, i_X8, tyX8_ok, nmX8, rfl, rfl, by decide +kernel, Or.inl (lw_gi 255 (by decide +kernel) rfl)⟩
theorem fw_X8_41 : Cond.fieldLink RX8 41 RX8 (TX8 5).2.1 (TX8 5).2.2.1 ∈ lw_good := lw_gi 255 (by decide +kernel) rfl
theorem fk_X8_48 : FLk RX8 48 8 6 true (.object "RingFrames$History") := ⟨RX8, TX8, 11, tyX8, rfl, by decide, i_X8, tyX8_ok, nmX8, rfl, rfl, by decide +kernel, Or.inl (lw_gi 256 (by decide +kernel) rfl)⟩
theorem fw_X8_48 : Cond.fieldLink RX8 48 RX8 (TX8 6).2.1 (TX8 6).2.2.1 ∈ lw_good := lw_gi 256 (by decide +kernel) rfl
theorem fk_X8_52 : FLk RX8 52 8 7 true (.array (.object "RingFrames$Ring")) := ⟨RX8, TX8, 11, tyX8, rfl, by decide, i_X8, tyX8_ok, nmX8, rfl, rfl, by decide +kernel, Or.inl (lw_gi 257 (by decide +kernel) rfl)⟩
theorem fw_X8_52 : Cond.fieldLink RX8 52 RX8 (TX8 7).2.1 (TX8 7).2.2.1 ∈ lw_good := lw_gi 257 (by decide +kernel) rfl
theorem fk_X8_56 : FLk RX8 56 8 8 true (.array .boolean) := ⟨RX8, TX8, 11, tyX8, rfl, by decide, i_X8, tyX8_ok, nmX8, rfl, rfl, by decide +kernel, Or.inl (lw_gi 258 (by decide +kernel) rfl)⟩
theorem fw_X8_56 : Cond.fieldLink RX8 56 RX8 (TX8 8).2.1 (TX8 8).2.2.1 ∈ lw_good := lw_gi 258 (by decide +kernel) rfl
theorem fk_X8_63 : FLk RX8 63 8 9 true (.object "RingFrames$Sightings") := ⟨RX8, TX8, 11, tyX8, rfl, by decide, i_X8, tyX8_ok, nmX8, rfl, rfl, by decide +kernel, Or.inl (lw_gi 259 (by decide +kernel) rfl)⟩
theorem fw_X8_63 : Cond.fieldLink RX8 63 RX8 (TX8 9).2.1 (TX8 9).2.2.1 ∈ lw_good := lw_gi 259 (by decide +kernel) rfl
theorem fk_X8_70 : FLk RX8 70 8 10 true (.object "RingFrames$Suspects") := ⟨RX8, TX8, 11, tyX8, rfl, by decide, i_X8, tyX8_ok, nmX8, rfl, rfl, by decide +kernel, Or.inl (lw_gi 260 (by decide +kernel) rfl)⟩
theorem fw_X8_70 : Cond.fieldLink RX8 70 RX8 (TX8 10).2.1 (TX8 10).2.2.1 ∈ lw_good := lw_gi 260 (by decide +kernel) rfl
theorem fk_X9_7 : FLk RX9 7 9 0 true (.array .int) := ⟨RX9, TX9, 23, tyX9, rfl, by decide, i_X9, tyX9_ok, nmX9, rfl, rfl, by decide +kernel, Or.inl (lw_gi 719 (by decide +kernel) rfl)⟩
theorem fw_X9_7 : Cond.fieldLink RX9 7 RX9 (TX9 0).2.1 (TX9 0).2.2.1 ∈ lw_good := lw_gi 719 (by decide +kernel) rfl
theorem fk_X9_13 : FLk RX9 13 9 1 true (.array .int) := ⟨RX9, TX9, 23, tyX9, rfl, by decide, i_X9, tyX9_ok, nmX9, rfl, rfl, by decide +kernel, Or.inl (lw_gi 720 (by decide +kernel) rfl)⟩
theorem fw_X9_13 : Cond.fieldLink RX9 13 RX9 (TX9 1).2.1 (TX9 1).2.2.1 ∈ lw_good := lw_gi 720 (by decide +kernel) rfl
theorem fk_X9_16 : FLk RX9 16 9 2 true (.array .int) := ⟨RX9, TX9, 23, tyX9, rfl, by decide, i_X9, tyX9_ok, nmX9, rfl, rfl, by decide +kernel, Or.inl (lw_gi 721 (by decide +kernel) rfl)⟩
theorem fw_X9_16 : Cond.fieldLink RX9 16 RX9 (TX9 2).2.1 (TX9 2).2.2.1 ∈ lw_good := lw_gi 721 (by decide +kernel) rfl
theorem fk_X9_164 : FLk RX9 164 9 3 false .int := ⟨RX9, TX9, 23, tyX9, rfl, by decide, i_X9, tyX9_ok, nmX9, rfl, rfl, by decide +kernel, Or.inl (lw_gi 722 (by decide +kernel) rfl)⟩
theorem fk_X9_19 : FLk RX9 19 9 4 true (.array .int) := ⟨RX9, TX9, 23, tyX9, rfl, by decide, i_X9, tyX9_ok, nmX9, rfl, rfl, by decide +kernel, Or.inl (lw_gi 723 (by decide +kernel) rfl)⟩
theorem fw_X9_19 : Cond.fieldLink RX9 19 RX9 (TX9 4).2.1 (TX9 4).2.2.1 ∈ lw_good := lw_gi 723 (by decide +kernel) rfl
theorem fk_X9_22 : FLk RX9 22 9 5 true (.array .boolean) := ⟨RX9, TX9, 23, tyX9, rfl, by decide, i_X9, tyX9_ok, nmX9, rfl, rfl, by decide +kernel, Or.inl (lw_gi 724 (by decide +kernel) rfl)⟩
theorem fw_X9_22 : Cond.fieldLink RX9 22 RX9 (TX9 5).2.1 (TX9 5).2.2.1 ∈ lw_good := lw_gi 724 (by decide +kernel) rfl
theorem fk_X9_26 : FLk RX9 26 9 6 true (.array .int) := ⟨RX9, TX9, 23, tyX9, rfl, by decide, i_X9, tyX9_ok, nmX9, rfl, rfl, by decide +kernel, Or.inl (lw_gi 725 (by decide +kernel) rfl)⟩
theorem fw_X9_26 : Cond.fieldLink RX9 26 RX9 (TX9 6).2.1 (TX9 6).2.2.1 ∈ lw_good := lw_gi 725 (by decide +kernel) rfl
theorem fk_X9_67 : FLk RX9 67 9 7 false .int := ⟨RX9, TX9, 23, tyX9, rfl, by decide, i_X9, tyX9_ok, nmX9, rfl, rfl, by decide +kernel, Or.inl (lw_gi 726 (by decide +kernel) rfl)⟩
theorem fk_X9_63 : FLk RX9 63 9 8 false .int := ⟨RX9, TX9, 23, tyX9, rfl, by decide, i_X9, tyX9_ok, nmX9, rfl, rfl, by decide +kernel, Or.inl (lw_gi 727 (by decide +kernel) rfl)⟩
theorem fk_X9_70 : FLk RX9 70 9 9 false .int := ⟨RX9, TX9, 23, tyX9, rfl, by decide, i_X9, tyX9_ok, nmX9, rfl, rfl, by decide +kernel, Or.inl (lw_gi 728 (by decide +kernel) rfl)⟩
theorem fk_X9_73 : FLk RX9 73 9 10 false .int := ⟨RX9, TX9, 23, tyX9, rfl, by decide, i_X9, tyX9_ok, nmX9, rfl, rfl, by decide +kernel, Or.inl (lw_gi 729 (by decide +kernel) rfl)⟩
theorem fk_X9_80 : FLk RX9 80 9 11 false .int := ⟨RX9, TX9, 23, tyX9, rfl, by decide, i_X9, tyX9_ok, nmX9, rfl, rfl, by decide +kernel, Or.inl (lw_gi 730 (by decide +kernel) rfl)⟩
theorem fk_X9_29 : FLk RX9 29 9 12 true (.array .int) := ⟨RX9, TX9, 23, tyX9, rfl, by decide, i_X9, tyX9_ok, nmX9, rfl, rfl, by decide +kernel, Or.inl (lw_gi 731 (by decide +kernel) rfl)⟩
theorem fw_X9_29 : Cond.fieldLink RX9 29 RX9 (TX9 12).2.1 (TX9 12).2.2.1 ∈ lw_good := lw_gi 731 (by decide +kernel) rfl
theorem fk_X9_32 : FLk RX9 32 9 13 true (.array .int) := ⟨RX9, TX9, 23, tyX9, rfl, by decide, i_X9, tyX9_ok, nmX9, rfl, rfl, by decide +kernel, Or.inl (lw_gi 732 (by decide +kernel) rfl)⟩
theorem fw_X9_32 : Cond.fieldLink RX9 32 RX9 (TX9 13).2.1 (TX9 13).2.2.1 ∈ lw_good := lw_gi 732 (by decide +kernel) rfl
theorem fk_X9_195 : FLk RX9 195 9 14 false .int := ⟨RX9, TX9, 23, tyX9, rfl, by decide, i_X9, tyX9_ok, nmX9, rfl, rfl, by decide +kernel, Or.inl (lw_gi 733 (by decide +kernel) rfl)⟩
theorem fk_X9_98 : FLk RX9 98 9 15 false .boolean := ⟨RX9, TX9, 23, tyX9, rfl, by decide, i_X9, tyX9_ok, nmX9, rfl, rfl, by decide +kernel, Or.inl (lw_gi 734 (by decide +kernel) rfl)⟩
theorem fk_X9_35 : FLk RX9 35 9 16 true (.array .int) := ⟨RX9, TX9, 23, tyX9, rfl, by decide, i_X9, tyX9_ok, nmX9, rfl, rfl, by decide +kernel, Or.inl (lw_gi 735 (by decide +kernel) rfl)⟩
theorem fw_X9_35 : Cond.fieldLink RX9 35 RX9 (TX9 16).2.1 (TX9 16).2.2.1 ∈ lw_good := lw_gi 735 (by decide +kernel) rfl
theorem fk_X9_38 : FLk RX9 38 9 17 true (.array .int) := ⟨RX9, TX9, 23, tyX9, rfl, by decide, i_X9, tyX9_ok, nmX9, rfl, rfl, by decide +kernel, Or.inl (lw_gi 736 (by decide +kernel) rfl)⟩
theorem fw_X9_38 : Cond.fieldLink RX9 38 RX9 (TX9 17).2.1 (TX9 17).2.2.1 ∈ lw_good := lw_gi 736 (by decide +kernel) rfl
theorem fk_X9_41 : FLk RX9 41 9 18 true (.array .int) := ⟨RX9, TX9, 23, tyX9, rfl, by decide, i_X9, tyX9_ok, nmX9, rfl, rfl, by decide +kernel, Or.inl (lw_gi 737 (by decide +kernel) rfl)⟩
theorem fw_X9_41 : Cond.fieldLink RX9 41 RX9 (TX9 18).2.1 (TX9 18).2.2.1 ∈ lw_good := lw_gi 737 (by decide +kernel) rfl
theorem fk_X9_44 : FLk RX9 44 9 19 true (.array .boolean) := ⟨RX9, TX9, 23, tyX9, rfl, by decide, i_X9, tyX9_ok, nmX9, rfl, rfl, by decide +kernel, Or.inl (lw_gi 738 (by decide +kernel) rfl)⟩
theorem fw_X9_44 : Cond.fieldLink RX9 44 RX9 (TX9 19).2.1 (TX9 19).2.2.1 ∈ lw_good := lw_gi 738 (by decide +kernel) rfl
theorem fk_X9_47 : FLk RX9 47 9 20 true (.array .int) := ⟨RX9, TX9, 23, tyX9, rfl, by decide, i_X9, tyX9_ok, nmX9, rfl, rfl, by decide +kernel, Or.inl (lw_gi 739 (by decide +kernel) rfl)⟩
theorem fw_X9_47 : Cond.fieldLink RX9 47 RX9 (TX9 20).2.1 (TX9 20).2.2.1 ∈ lw_good := lw_gi 739 (by decide +kernel) rfl
theorem fk_X9_50 : FLk RX9 50 9 21 true (.array .int) := ⟨RX9, TX9, 23, tyX9, rfl, by decide, i_X9, tyX9_ok, nmX9, rfl, rfl, by decide +kernel, Or.inl (lw_gi 740 (by decide +kernel) rfl)⟩
theorem fw_X9_50 : Cond.fieldLink RX9 50 RX9 (TX9 21).2.1 (TX9 21).2.2.1 ∈ lw_good := lw_gi 740 (by decide +kernel) rfl
theorem fk_X9_53 : FLk RX9 53 9 22 true (.array .int) := ⟨RX9, TX9, 23, tyX9, rfl, by decide, i_X9, tyX9_ok, nmX9, rfl, rfl, by decide +kernel, Or.inl (lw_gi 741 (by decide +kernel) rfl)⟩
theorem fw_X9_53 : Cond.fieldLink RX9 53 RX9 (TX9 22).2.1 (TX9 22).2.2.1 ∈ lw_good := lw_gi 741 (by decide +kernel) rfl
theorem mw_X8_init : Cond.instanceMethod yX8_init ∈ lw_good ∧ Cond.initialized yX8_init.cls ∈ lw_good ∧ Cond.code yX8_init cX8_init 2 none ∈ lw_good ∧ yX8_init.cls ≠ "java/lang/invoke/MethodHandle" ∧ yX8_init.cls ≠ "java/lang/invoke/VarHandle" ∧ (parseMethodDescriptor yX8_init.desc).map (fun d => d.parameters.length) = some 0 := ⟨lw_gi 18 (by decide +kernel) rfl, lw_gi 1 (by decide +kernel) rfl, lw_gi 19 (by decide +kernel) rfl, by decide +kernel, by decide +kernel, by decide +kernel⟩
theorem mw_X3_init : Cond.instanceMethod yX3_init ∈ lw_good ∧ Cond.initialized yX3_init.cls ∈ lw_good ∧ Cond.code yX3_init cX3_init 1 none ∈ lw_good ∧ yX3_init.cls ≠ "java/lang/invoke/MethodHandle" ∧ yX3_init.cls ≠ "java/lang/invoke/VarHandle" ∧ (parseMethodDescriptor yX3_init.desc).map (fun d => d.parameters.length) = some 0 := ⟨lw_gi 26 (by decide +kernel) rfl, lw_gi 2 (by decide +kernel) rfl, lw_gi 27 (by decide +kernel) rfl, by decide +kernel, by decide +kernel, by decide +kernel⟩
theorem mw_X3_becomeEmpty : Cond.instanceMethod yX3_becomeEmpty ∈ lw_good ∧ Cond.selects yX3_becomeEmpty.cls yX3_becomeEmpty yX3_becomeEmpty ∈ lw_good ∧ Cond.initialized yX3_becomeEmpty.cls ∈ lw_good ∧ Cond.code yX3_becomeEmpty cX3_becomeEmpty 1 none ∈ lw_good ∧ yX3_becomeEmpty.cls ≠ "java/lang/invoke/MethodHandle" ∧ yX3_becomeEmpty.cls ≠ "java/lang/invoke/VarHandle" ∧ (parseMethodDescriptor yX3_becomeEmpty.desc).map (fun d => d.parameters.length) = some 0 := ⟨lw_gi 30 (by decide +kernel) rfl, lw_gi 31 (by decide +kernel) rfl, lw_gi 2 (by decide +kernel) rfl, lw_gi 32 (by decide +kernel) rfl, by decide +kernel, by decide +kernel, by decide +kernel⟩
theorem mw_X3_dropFrame : Cond.instanceMethod yX3_dropFrame ∈ lw_good ∧ Cond.selects yX3_dropFrame.cls yX3_dropFrame yX3_dropFrame ∈ lw_good ∧ Cond.initialized yX3_dropFrame.cls ∈ lw_good ∧ Cond.code yX3_dropFrame cX3_dropFrame 1 none ∈ lw_good ∧ yX3_dropFrame.cls ≠ "java/lang/invoke/MethodHandle" ∧ yX3_dropFrame.cls ≠ "java/lang/invoke/VarHandle" ∧ (parseMethodDescriptor yX3_dropFrame.desc).map (fun d => d.parameters.length) = some 0 := ⟨lw_gi 34 (by decide +kernel) rfl, lw_gi 35 (by decide +kernel) rfl, lw_gi 2 (by decide +kernel) rfl, lw_gi 36 (by decide +kernel) rfl, by decide +kernel, by decide +kernel, by decide +kernel⟩
theorem mw_J7_fill_53178 : Cond.static yJ7_fill_53178 ∈ lw_good ∧ Cond.initialized yJ7_fill_53178.cls ∈ lw_good ∧ Cond.code yJ7_fill_53178 cJ7_fill_53178 4 none ∈ lw_good ∧ yJ7_fill_53178.cls ≠ "java/lang/invoke/MethodHandle" ∧ yJ7_fill_53178.cls ≠ "java/lang/invoke/VarHandle" ∧ (parseMethodDescriptor yJ7_fill_53178.desc).map (fun d => d.parameters.length) = some 2 := ⟨lw_gi 38 (by decide +kernel) rfl, lw_gi 3 (by decide +kernel) rfl, lw_gi 39 (by decide +kernel) rfl, by decide +kernel, by decide +kernel, by decide +kernel⟩
theorem mw_X3_addDrive : Cond.instanceMethod yX3_addDrive ∈ lw_good ∧ Cond.selects yX3_addDrive.cls yX3_addDrive yX3_addDrive ∈ lw_good ∧ Cond.initialized yX3_addDrive.cls ∈ lw_good ∧ Cond.code yX3_addDrive cX3_addDrive 4 none ∈ lw_good ∧ yX3_addDrive.cls ≠ "java/lang/invoke/MethodHandle" ∧ yX3_addDrive.cls ≠ "java/lang/invoke/VarHandle" ∧ (parseMethodDescriptor yX3_addDrive.desc).map (fun d => d.parameters.length) = some 2 := ⟨lw_gi 41 (by decide +kernel) rfl, lw_gi 42 (by decide +kernel) rfl, lw_gi 2 (by decide +kernel) rfl, lw_gi 43 (by decide +kernel) rfl, by decide +kernel, by decide +kernel, by decide +kernel⟩
theorem mw_X3_takesDrive : Cond.instanceMethod yX3_takesDrive ∈ lw_good ∧ Cond.selects yX3_takesDrive.cls yX3_takesDrive yX3_takesDrive ∈ lw_good ∧ Cond.initialized yX3_takesDrive.cls ∈ lw_good ∧ Cond.code yX3_takesDrive cX3_takesDrive 1 (some .boolean) ∈ lw_good ∧ yX3_takesDrive.cls ≠ "java/lang/invoke/MethodHandle" ∧ yX3_takesDrive.cls ≠ "java/lang/invoke/VarHandle" ∧ (parseMethodDescriptor yX3_takesDrive.desc).map (fun d => d.parameters.length) = some 0 := ⟨lw_gi 45 (by decide +kernel) rfl, lw_gi 46 (by decide +kernel) rfl, lw_gi 2 (by decide +kernel) rfl, lw_gi 47 (by decide +kernel) rfl, by decide +kernel, by decide +kernel, by decide +kernel⟩
theorem mw_J7_fill_fda19 : Cond.static yJ7_fill_fda19 ∈ lw_good ∧ Cond.initialized yJ7_fill_fda19.cls ∈ lw_good ∧ Cond.code yJ7_fill_fda19 cJ7_fill_fda19 5 none ∈ lw_good ∧ yJ7_fill_fda19.cls ≠ "java/lang/invoke/MethodHandle" ∧ yJ7_fill_fda19.cls ≠ "java/lang/invoke/VarHandle" ∧ (parseMethodDescriptor yJ7_fill_fda19.desc).map (fun d => d.parameters.length) = some 4 := ⟨lw_gi 49 (by decide +kernel) rfl, lw_gi 3 (by decide +kernel) rfl, lw_gi 50 (by decide +kernel) rfl, by decide +kernel, by decide +kernel, by decide +kernel⟩
theorem mw_J7_rangeCheck_23922 : Cond.static yJ7_rangeCheck_23922 ∈ lw_good ∧ Cond.initialized yJ7_rangeCheck_23922.cls ∈ lw_good ∧ Cond.code yJ7_rangeCheck_23922 cJ7_rangeCheck_23922 3 none ∈ lw_good ∧ yJ7_rangeCheck_23922.cls ≠ "java/lang/invoke/MethodHandle" ∧ yJ7_rangeCheck_23922.cls ≠ "java/lang/invoke/VarHandle" ∧ (parseMethodDescriptor yJ7_rangeCheck_23922.desc).map (fun d => d.parameters.length) = some 3 := ⟨lw_gi 52 (by decide +kernel) rfl, lw_gi 3 (by decide +kernel) rfl, lw_gi 53 (by decide +kernel) rfl, by decide +kernel, by decide +kernel, by decide +kernel⟩
theorem mw_X3_putNewLink : Cond.instanceMethod yX3_putNewLink ∈ lw_good ∧ Cond.selects yX3_putNewLink.cls yX3_putNewLink yX3_putNewLink ∈ lw_good ∧ Cond.initialized yX3_putNewLink.cls ∈ lw_good ∧ Cond.code yX3_putNewLink cX3_putNewLink 3 none ∈ lw_good ∧ yX3_putNewLink.cls ≠ "java/lang/invoke/MethodHandle" ∧ yX3_putNewLink.cls ≠ "java/lang/invoke/VarHandle" ∧ (parseMethodDescriptor yX3_putNewLink.desc).map (fun d => d.parameters.length) = some 2 := ⟨lw_gi 56 (by decide +kernel) rfl, lw_gs 0 (by decide +kernel) rfl, lw_gi 2 (by decide +kernel) rfl, lw_gi 57 (by decide +kernel) rfl, by decide +kernel, by decide +kernel, by decide +kernel⟩
theorem mw_X3_putLink : Cond.instanceMethod yX3_putLink ∈ lw_good ∧ Cond.selects yX3_putLink.cls yX3_putLink yX3_putLink ∈ lw_good ∧ Cond.initialized yX3_putLink.cls ∈ lw_good ∧ Cond.code yX3_putLink cX3_putLink 4 none ∈ lw_good ∧ yX3_putLink.cls ≠ "java/lang/invoke/MethodHandle" ∧ yX3_putLink.cls ≠ "java/lang/invoke/VarHandle" ∧ (parseMethodDescriptor yX3_putLink.desc).map (fun d => d.parameters.length) = some 3 := ⟨lw_gi 59 (by decide +kernel) rfl, lw_gi 60 (by decide +kernel) rfl, lw_gi 2 (by decide +kernel) rfl, lw_gi 61 (by decide +kernel) rfl, by decide +kernel, by decide +kernel, by decide +kernel⟩
theorem mw_X7_init : Cond.instanceMethod yX7_init ∈ lw_good ∧ Cond.initialized yX7_init.cls ∈ lw_good ∧ Cond.code yX7_init cX7_init 1 none ∈ lw_good ∧ yX7_init.cls ≠ "java/lang/invoke/MethodHandle" ∧ yX7_init.cls ≠ "java/lang/invoke/VarHandle" ∧ (parseMethodDescriptor yX7_init.desc).map (fun d => d.parameters.length) = some 0 := ⟨lw_gi 121 (by decide +kernel) rfl, lw_gi 4 (by decide +kernel) rfl, lw_gi 122 (by decide +kernel) rfl, by decide +kernel, by decide +kernel, by decide +kernel⟩
theorem mw_X2_init : Cond.instanceMethod yX2_init ∈ lw_good ∧ Cond.initialized yX2_init.cls ∈ lw_good ∧ Cond.code yX2_init cX2_init 2 none ∈ lw_good ∧ yX2_init.cls ≠ "java/lang/invoke/MethodHandle" ∧ yX2_init.cls ≠ "java/lang/invoke/VarHandle" ∧ (parseMethodDescriptor yX2_init.desc).map (fun d => d.parameters.length) = some 1 := ⟨lw_gi 150 (by decide +kernel) rfl, lw_gi 5 (by decide +kernel) rfl, lw_gi 151 (by decide +kernel) rfl, by decide +kernel, by decide +kernel, by decide +kernel⟩
theorem mw_X4_init : Cond.instanceMethod yX4_init ∈ lw_good ∧ Cond.initialized yX4_init.cls ∈ lw_good ∧ Cond.code yX4_init cX4_init 1 none ∈ lw_good ∧ yX4_init.cls ≠ "java/lang/invoke/MethodHandle" ∧ yX4_init.cls ≠ "java/lang/invoke/VarHandle" ∧ (parseMethodDescriptor yX4_init.desc).map (fun d => d.parameters.length) = some 0 := ⟨lw_gi 163 (by decide +kernel) rfl, lw_gi 6 (by decide +kernel) rfl, lw_gi 164 (by decide +kernel) rfl, by decide +kernel, by decide +kernel, by decide +kernel⟩
theorem mw_X0_init : Cond.instanceMethod yX0_init ∈ lw_good ∧ Cond.initialized yX0_init.cls ∈ lw_good ∧ Cond.code yX0_init cX0_init 1 none ∈ lw_good ∧ yX0_init.cls ≠ "java/lang/invoke/MethodHandle" ∧ yX0_init.cls ≠ "java/lang/invoke/VarHandle" ∧ (parseMethodDescriptor yX0_init.desc).map (fun d => d.parameters.length) = some 0 := ⟨lw_gi 169 (by decide +kernel) rfl, lw_gi 7 (by decide +kernel) rfl, lw_gi 170 (by decide +kernel) rfl, by decide +kernel, by decide +kernel, by decide +kernel⟩
theorem mw_X1_init : Cond.instanceMethod yX1_init ∈ lw_good ∧ Cond.initialized yX1_init.cls ∈ lw_good ∧ Cond.code yX1_init cX1_init 2 none ∈ lw_good ∧ yX1_init.cls ≠ "java/lang/invoke/MethodHandle" ∧ yX1_init.cls ≠ "java/lang/invoke/VarHandle" ∧ (parseMethodDescriptor yX1_init.desc).map (fun d => d.parameters.length) = some 0 := ⟨lw_gi 197 (by decide +kernel) rfl, lw_gi 8 (by decide +kernel) rfl, lw_gi 198 (by decide +kernel) rfl, by decide +kernel, by decide +kernel, by decide +kernel⟩
theorem mw_X5_init : Cond.instanceMethod yX5_init ∈ lw_good ∧ Cond.initialized yX5_init.cls ∈ lw_good ∧ Cond.code yX5_init cX5_init 1 none ∈ lw_good ∧ yX5_init.cls ≠ "java/lang/invoke/MethodHandle" ∧ yX5_init.cls ≠ "java/lang/invoke/VarHandle" ∧ (parseMethodDescriptor yX5_init.desc).map (fun d => d.parameters.length) = some 0 := ⟨lw_gi 217 (by decide +kernel) rfl, lw_gi 9 (by decide +kernel) rfl, lw_gi 218 (by decide +kernel) rfl, by decide +kernel, by decide +kernel, by decide +kernel⟩
theorem mw_X6_init : Cond.instanceMethod yX6_init ∈ lw_good ∧ Cond.initialized yX6_init.cls ∈ lw_good ∧ Cond.code yX6_init cX6_init 1 none ∈ lw_good ∧ yX6_init.cls ≠ "java/lang/invoke/MethodHandle" ∧ yX6_init.cls ≠ "java/lang/invoke/VarHandle" ∧ (parseMethodDescriptor yX6_init.desc).map (fun d => d.parameters.length) = some 0 := ⟨lw_gi 235 (by decide +kernel) rfl, lw_gi 10 (by decide +kernel) rfl, lw_gi 236 (by decide +kernel) rfl, by decide +kernel, by decide +kernel, by decide +kernel⟩
theorem mw_X8_type : Cond.instanceMethod yX8_type ∈ lw_good ∧ Cond.selects yX8_type.cls yX8_type yX8_type ∈ lw_good ∧ Cond.initialized yX8_type.cls ∈ lw_good ∧ Cond.code yX8_type cX8_type 2 (some .int) ∈ lw_good ∧ yX8_type.cls ≠ "java/lang/invoke/MethodHandle" ∧ yX8_type.cls ≠ "java/lang/invoke/VarHandle" ∧ (parseMethodDescriptor yX8_type.desc).map (fun d => d.parameters.length) = some 1 := ⟨lw_gi 285 (by decide +kernel) rfl, lw_gi 286 (by decide +kernel) rfl, lw_gi 1 (by decide +kernel) rfl, lw_gi 287 (by decide +kernel) rfl, by decide +kernel, by decide +kernel, by decide +kernel⟩
theorem mw_X7_append : Cond.instanceMethod yX7_append ∈ lw_good ∧ Cond.selects yX7_append.cls yX7_append yX7_append ∈ lw_good ∧ Cond.initialized yX7_append.cls ∈ lw_good ∧ Cond.code yX7_append cX7_append 2 none ∈ lw_good ∧ yX7_append.cls ≠ "java/lang/invoke/MethodHandle" ∧ yX7_append.cls ≠ "java/lang/invoke/VarHandle" ∧ (parseMethodDescriptor yX7_append.desc).map (fun d => d.parameters.length) = some 1 := ⟨lw_gi 289 (by decide +kernel) rfl, lw_gi 290 (by decide +kernel) rfl, lw_gi 4 (by decide +kernel) rfl, lw_gi 291 (by decide +kernel) rfl, by decide +kernel, by decide +kernel, by decide +kernel⟩
theorem mw_X8_clear : Cond.instanceMethod yX8_clear ∈ lw_good ∧ Cond.selects yX8_clear.cls yX8_clear yX8_clear ∈ lw_good ∧ Cond.initialized yX8_clear.cls ∈ lw_good ∧ Cond.code yX8_clear cX8_clear 2 (some .int) ∈ lw_good ∧ yX8_clear.cls ≠ "java/lang/invoke/MethodHandle" ∧ yX8_clear.cls ≠ "java/lang/invoke/VarHandle" ∧ (parseMethodDescriptor yX8_clear.desc).map (fun d => d.parameters.length) = some 0 := ⟨lw_gi 293 (by decide +kernel) rfl, lw_gi 294 (by decide +kernel) rfl, lw_gi 1 (by decide +kernel) rfl, lw_gi 295 (by decide +kernel) rfl, by decide +kernel, by decide +kernel, by decide +kernel⟩
theorem mw_X8_wires : Cond.instanceMethod yX8_wires ∈ lw_good ∧ Cond.selects yX8_wires.cls yX8_wires yX8_wires ∈ lw_good ∧ Cond.initialized yX8_wires.cls ∈ lw_good ∧ Cond.code yX8_wires cX8_wires 1 (some .int) ∈ lw_good ∧ yX8_wires.cls ≠ "java/lang/invoke/MethodHandle" ∧ yX8_wires.cls ≠ "java/lang/invoke/VarHandle" ∧ (parseMethodDescriptor yX8_wires.desc).map (fun d => d.parameters.length) = some 0 := ⟨lw_gi 297 (by decide +kernel) rfl, lw_gi 298 (by decide +kernel) rfl, lw_gi 1 (by decide +kernel) rfl, lw_gi 299 (by decide +kernel) rfl, by decide +kernel, by decide +kernel, by decide +kernel⟩
theorem mw_X2_readsWire : Cond.instanceMethod yX2_readsWire ∈ lw_good ∧ Cond.selects yX2_readsWire.cls yX2_readsWire yX2_readsWire ∈ lw_good ∧ Cond.initialized yX2_readsWire.cls ∈ lw_good ∧ Cond.code yX2_readsWire cX2_readsWire 3 (some .boolean) ∈ lw_good ∧ yX2_readsWire.cls ≠ "java/lang/invoke/MethodHandle" ∧ yX2_readsWire.cls ≠ "java/lang/invoke/VarHandle" ∧ (parseMethodDescriptor yX2_readsWire.desc).map (fun d => d.parameters.length) = some 1 := ⟨lw_gi 301 (by decide +kernel) rfl, lw_gi 302 (by decide +kernel) rfl, lw_gi 5 (by decide +kernel) rfl, lw_gi 303 (by decide +kernel) rfl, by decide +kernel, by decide +kernel, by decide +kernel⟩
theorem mw_X7_begin : Cond.instanceMethod yX7_begin ∈ lw_good ∧ Cond.selects yX7_begin.cls yX7_begin yX7_begin ∈ lw_good ∧ Cond.initialized yX7_begin.cls ∈ lw_good ∧ Cond.code yX7_begin cX7_begin 1 none ∈ lw_good ∧ yX7_begin.cls ≠ "java/lang/invoke/MethodHandle" ∧ yX7_begin.cls ≠ "java/lang/invoke/VarHandle" ∧ (parseMethodDescriptor yX7_begin.desc).map (fun d => d.parameters.length) = some 0 := ⟨lw_gi 306 (by decide +kernel) rfl, lw_gi 307 (by decide +kernel) rfl, lw_gi 4 (by decide +kernel) rfl, lw_gi 308 (by decide +kernel) rfl, by decide +kernel, by decide +kernel, by decide +kernel⟩
theorem mw_X7_step : Cond.instanceMethod yX7_step ∈ lw_good ∧ Cond.selects yX7_step.cls yX7_step yX7_step ∈ lw_good ∧ Cond.initialized yX7_step.cls ∈ lw_good ∧ Cond.code yX7_step cX7_step 1 none ∈ lw_good ∧ yX7_step.cls ≠ "java/lang/invoke/MethodHandle" ∧ yX7_step.cls ≠ "java/lang/invoke/VarHandle" ∧ (parseMethodDescriptor yX7_step.desc).map (fun d => d.parameters.length) = some 0 := ⟨lw_gi 310 (by decide +kernel) rfl, lw_gi 311 (by decide +kernel) rfl, lw_gi 4 (by decide +kernel) rfl, lw_gi 312 (by decide +kernel) rfl, by decide +kernel, by decide +kernel, by decide +kernel⟩
theorem mw_X7_isFigure : Cond.static yX7_isFigure ∈ lw_good ∧ Cond.initialized yX7_isFigure.cls ∈ lw_good ∧ Cond.code yX7_isFigure cX7_isFigure 1 (some .boolean) ∈ lw_good ∧ yX7_isFigure.cls ≠ "java/lang/invoke/MethodHandle" ∧ yX7_isFigure.cls ≠ "java/lang/invoke/VarHandle" ∧ (parseMethodDescriptor yX7_isFigure.desc).map (fun d => d.parameters.length) = some 1 := ⟨lw_gi 314 (by decide +kernel) rfl, lw_gi 4 (by decide +kernel) rfl, lw_gi 315 (by decide +kernel) rfl, by decide +kernel, by decide +kernel, by decide +kernel⟩
theorem mw_X7_stepOverFigures : Cond.instanceMethod yX7_stepOverFigures ∈ lw_good ∧ Cond.selects yX7_stepOverFigures.cls yX7_stepOverFigures yX7_stepOverFigures ∈ lw_good ∧ Cond.initialized yX7_stepOverFigures.cls ∈ lw_good ∧ Cond.code yX7_stepOverFigures cX7_stepOverFigures 2 none ∈ lw_good ∧ yX7_stepOverFigures.cls ≠ "java/lang/invoke/MethodHandle" ∧ yX7_stepOverFigures.cls ≠ "java/lang/invoke/VarHandle" ∧ (parseMethodDescriptor yX7_stepOverFigures.desc).map (fun d => d.parameters.length) = some 0 := ⟨lw_gi 318 (by decide +kernel) rfl, lw_gs 1 (by decide +kernel) rfl, lw_gi 4 (by decide +kernel) rfl, lw_gi 319 (by decide +kernel) rfl, by decide +kernel, by decide +kernel, by decide +kernel⟩
theorem mw_J9_min_7cf53 : Cond.static yJ9_min_7cf53 ∈ lw_good ∧ Cond.initialized yJ9_min_7cf53.cls ∈ lw_good ∧ Cond.code yJ9_min_7cf53 cJ9_min_7cf53 2 (some .int) ∈ lw_good ∧ yJ9_min_7cf53.cls ≠ "java/lang/invoke/MethodHandle" ∧ yJ9_min_7cf53.cls ≠ "java/lang/invoke/VarHandle" ∧ (parseMethodDescriptor yJ9_min_7cf53.desc).map (fun d => d.parameters.length) = some 2 := ⟨lw_gi 321 (by decide +kernel) rfl, lw_gi 12 (by decide +kernel) rfl, lw_gi 322 (by decide +kernel) rfl, by decide +kernel, by decide +kernel, by decide +kernel⟩
theorem mw_X2_readsItem : Cond.instanceMethod yX2_readsItem ∈ lw_good ∧ Cond.selects yX2_readsItem.cls yX2_readsItem yX2_readsItem ∈ lw_good ∧ Cond.initialized yX2_readsItem.cls ∈ lw_good ∧ Cond.code yX2_readsItem cX2_readsItem 2 (some .boolean) ∈ lw_good ∧ yX2_readsItem.cls ≠ "java/lang/invoke/MethodHandle" ∧ yX2_readsItem.cls ≠ "java/lang/invoke/VarHandle" ∧ (parseMethodDescriptor yX2_readsItem.desc).map (fun d => d.parameters.length) = some 1 := ⟨lw_gi 325 (by decide +kernel) rfl, lw_gs 2 (by decide +kernel) rfl, lw_gi 5 (by decide +kernel) rfl, lw_gi 326 (by decide +kernel) rfl, by decide +kernel, by decide +kernel, by decide +kernel⟩
theorem mw_X2_readsDrive : Cond.instanceMethod yX2_readsDrive ∈ lw_good ∧ Cond.selects yX2_readsDrive.cls yX2_readsDrive yX2_readsDrive ∈ lw_good ∧ Cond.initialized yX2_readsDrive.cls ∈ lw_good ∧ Cond.code yX2_readsDrive cX2_readsDrive 4 (some .boolean) ∈ lw_good ∧ yX2_readsDrive.cls ≠ "java/lang/invoke/MethodHandle" ∧ yX2_readsDrive.cls ≠ "java/lang/invoke/VarHandle" ∧ (parseMethodDescriptor yX2_readsDrive.desc).map (fun d => d.parameters.length) = some 1 := ⟨lw_gi 329 (by decide +kernel) rfl, lw_gs 3 (by decide +kernel) rfl, lw_gi 5 (by decide +kernel) rfl, lw_gi 330 (by decide +kernel) rfl, by decide +kernel, by decide +kernel, by decide +kernel⟩
theorem mw_X2_takeNumber : Cond.instanceMethod yX2_takeNumber ∈ lw_good ∧ Cond.selects yX2_takeNumber.cls yX2_takeNumber yX2_takeNumber ∈ lw_good ∧ Cond.initialized yX2_takeNumber.cls ∈ lw_good ∧ Cond.code yX2_takeNumber cX2_takeNumber 4 (some .int) ∈ lw_good ∧ yX2_takeNumber.cls ≠ "java/lang/invoke/MethodHandle" ∧ yX2_takeNumber.cls ≠ "java/lang/invoke/VarHandle" ∧ (parseMethodDescriptor yX2_takeNumber.desc).map (fun d => d.parameters.length) = some 2 := ⟨lw_gi 335 (by decide +kernel) rfl, lw_gs 4 (by decide +kernel) rfl, lw_gi 5 (by decide +kernel) rfl, lw_gi 336 (by decide +kernel) rfl, by decide +kernel, by decide +kernel, by decide +kernel⟩
theorem mw_X2_takesEnd : Cond.instanceMethod yX2_takesEnd ∈ lw_good ∧ Cond.selects yX2_takesEnd.cls yX2_takesEnd yX2_takesEnd ∈ lw_good ∧ Cond.initialized yX2_takesEnd.cls ∈ lw_good ∧ Cond.code yX2_takesEnd cX2_takesEnd 1 (some .boolean) ∈ lw_good ∧ yX2_takesEnd.cls ≠ "java/lang/invoke/MethodHandle" ∧ yX2_takesEnd.cls ≠ "java/lang/invoke/VarHandle" ∧ (parseMethodDescriptor yX2_takesEnd.desc).map (fun d => d.parameters.length) = some 0 := ⟨lw_gi 339 (by decide +kernel) rfl, lw_gs 5 (by decide +kernel) rfl, lw_gi 5 (by decide +kernel) rfl, lw_gi 340 (by decide +kernel) rfl, by decide +kernel, by decide +kernel, by decide +kernel⟩
theorem mw_X2_readsClosing : Cond.instanceMethod yX2_readsClosing ∈ lw_good ∧ Cond.selects yX2_readsClosing.cls yX2_readsClosing yX2_readsClosing ∈ lw_good ∧ Cond.initialized yX2_readsClosing.cls ∈ lw_good ∧ Cond.code yX2_readsClosing cX2_readsClosing 3 (some .boolean) ∈ lw_good ∧ yX2_readsClosing.cls ≠ "java/lang/invoke/MethodHandle" ∧ yX2_readsClosing.cls ≠ "java/lang/invoke/VarHandle" ∧ (parseMethodDescriptor yX2_readsClosing.desc).map (fun d => d.parameters.length) = some 1 := ⟨lw_gi 344 (by decide +kernel) rfl, lw_gs 6 (by decide +kernel) rfl, lw_gi 5 (by decide +kernel) rfl, lw_gi 345 (by decide +kernel) rfl, by decide +kernel, by decide +kernel, by decide +kernel⟩
theorem mw_X3_takesClosing : Cond.instanceMethod yX3_takesClosing ∈ lw_good ∧ Cond.selects yX3_takesClosing.cls yX3_takesClosing yX3_takesClosing ∈ lw_good ∧ Cond.initialized yX3_takesClosing.cls ∈ lw_good ∧ Cond.code yX3_takesClosing cX3_takesClosing 1 (some .boolean) ∈ lw_good ∧ yX3_takesClosing.cls ≠ "java/lang/invoke/MethodHandle" ∧ yX3_takesClosing.cls ≠ "java/lang/invoke/VarHandle" ∧ (parseMethodDescriptor yX3_takesClosing.desc).map (fun d => d.parameters.length) = some 0 := ⟨lw_gi 347 (by decide +kernel) rfl, lw_gi 348 (by decide +kernel) rfl, lw_gi 2 (by decide +kernel) rfl, lw_gi 349 (by decide +kernel) rfl, by decide +kernel, by decide +kernel, by decide +kernel⟩
theorem mw_X3_closeBy : Cond.instanceMethod yX3_closeBy ∈ lw_good ∧ Cond.selects yX3_closeBy.cls yX3_closeBy yX3_closeBy ∈ lw_good ∧ Cond.initialized yX3_closeBy.cls ∈ lw_good ∧ Cond.code yX3_closeBy cX3_closeBy 2 none ∈ lw_good ∧ yX3_closeBy.cls ≠ "java/lang/invoke/MethodHandle" ∧ yX3_closeBy.cls ≠ "java/lang/invoke/VarHandle" ∧ (parseMethodDescriptor yX3_closeBy.desc).map (fun d => d.parameters.length) = some 1 := ⟨lw_gi 351 (by decide +kernel) rfl, lw_gi 352 (by decide +kernel) rfl, lw_gi 2 (by decide +kernel) rfl, lw_gi 353 (by decide +kernel) rfl, by decide +kernel, by decide +kernel, by decide +kernel⟩
theorem mw_X2_readsLimit : Cond.instanceMethod yX2_readsLimit ∈ lw_good ∧ Cond.selects yX2_readsLimit.cls yX2_readsLimit yX2_readsLimit ∈ lw_good ∧ Cond.initialized yX2_readsLimit.cls ∈ lw_good ∧ Cond.code yX2_readsLimit cX2_readsLimit 3 (some .boolean) ∈ lw_good ∧ yX2_readsLimit.cls ≠ "java/lang/invoke/MethodHandle" ∧ yX2_readsLimit.cls ≠ "java/lang/invoke/VarHandle" ∧ (parseMethodDescriptor yX2_readsLimit.desc).map (fun d => d.parameters.length) = some 1 := ⟨lw_gi 357 (by decide +kernel) rfl, lw_gs 7 (by decide +kernel) rfl, lw_gi 5 (by decide +kernel) rfl, lw_gi 358 (by decide +kernel) rfl, by decide +kernel, by decide +kernel, by decide +kernel⟩
theorem mw_X8_adoptDraft : Cond.instanceMethod yX8_adoptDraft ∈ lw_good ∧ Cond.selects yX8_adoptDraft.cls yX8_adoptDraft yX8_adoptDraft ∈ lw_good ∧ Cond.initialized yX8_adoptDraft.cls ∈ lw_good ∧ Cond.code yX8_adoptDraft cX8_adoptDraft 1 none ∈ lw_good ∧ yX8_adoptDraft.cls ≠ "java/lang/invoke/MethodHandle" ∧ yX8_adoptDraft.cls ≠ "java/lang/invoke/VarHandle" ∧ (parseMethodDescriptor yX8_adoptDraft.desc).map (fun d => d.parameters.length) = some 0 := ⟨lw_gi 361 (by decide +kernel) rfl, lw_gs 8 (by decide +kernel) rfl, lw_gi 1 (by decide +kernel) rfl, lw_gi 362 (by decide +kernel) rfl, by decide +kernel, by decide +kernel, by decide +kernel⟩
theorem mw_X1_push : Cond.instanceMethod yX1_push ∈ lw_good ∧ Cond.selects yX1_push.cls yX1_push yX1_push ∈ lw_good ∧ Cond.initialized yX1_push.cls ∈ lw_good ∧ Cond.code yX1_push cX1_push 2 none ∈ lw_good ∧ yX1_push.cls ≠ "java/lang/invoke/MethodHandle" ∧ yX1_push.cls ≠ "java/lang/invoke/VarHandle" ∧ (parseMethodDescriptor yX1_push.desc).map (fun d => d.parameters.length) = some 1 := ⟨lw_gi 364 (by decide +kernel) rfl, lw_gi 365 (by decide +kernel) rfl, lw_gi 8 (by decide +kernel) rfl, lw_gi 366 (by decide +kernel) rfl, by decide +kernel, by decide +kernel, by decide +kernel⟩
theorem mw_X3_copyFrom : Cond.instanceMethod yX3_copyFrom ∈ lw_good ∧ Cond.selects yX3_copyFrom.cls yX3_copyFrom yX3_copyFrom ∈ lw_good ∧ Cond.initialized yX3_copyFrom.cls ∈ lw_good ∧ Cond.code yX3_copyFrom cX3_copyFrom 2 none ∈ lw_good ∧ yX3_copyFrom.cls ≠ "java/lang/invoke/MethodHandle" ∧ yX3_copyFrom.cls ≠ "java/lang/invoke/VarHandle" ∧ (parseMethodDescriptor yX3_copyFrom.desc).map (fun d => d.parameters.length) = some 1 := ⟨lw_gi 368 (by decide +kernel) rfl, lw_gi 369 (by decide +kernel) rfl, lw_gi 2 (by decide +kernel) rfl, lw_gi 370 (by decide +kernel) rfl, by decide +kernel, by decide +kernel, by decide +kernel⟩
theorem mw_X8_frames : Cond.instanceMethod yX8_frames ∈ lw_good ∧ Cond.selects yX8_frames.cls yX8_frames yX8_frames ∈ lw_good ∧ Cond.initialized yX8_frames.cls ∈ lw_good ∧ Cond.code yX8_frames cX8_frames 1 (some .int) ∈ lw_good ∧ yX8_frames.cls ≠ "java/lang/invoke/MethodHandle" ∧ yX8_frames.cls ≠ "java/lang/invoke/VarHandle" ∧ (parseMethodDescriptor yX8_frames.desc).map (fun d => d.parameters.length) = some 0 := ⟨lw_gi 377 (by decide +kernel) rfl, lw_gi 378 (by decide +kernel) rfl, lw_gi 1 (by decide +kernel) rfl, lw_gi 379 (by decide +kernel) rfl, by decide +kernel, by decide +kernel, by decide +kernel⟩
theorem mw_X2_readsFrame : Cond.instanceMethod yX2_readsFrame ∈ lw_good ∧ Cond.selects yX2_readsFrame.cls yX2_readsFrame yX2_readsFrame ∈ lw_good ∧ Cond.initialized yX2_readsFrame.cls ∈ lw_good ∧ Cond.code yX2_readsFrame cX2_readsFrame 3 (some .boolean) ∈ lw_good ∧ yX2_readsFrame.cls ≠ "java/lang/invoke/MethodHandle" ∧ yX2_readsFrame.cls ≠ "java/lang/invoke/VarHandle" ∧ (parseMethodDescriptor yX2_readsFrame.desc).map (fun d => d.parameters.length) = some 1 := ⟨lw_gi 381 (by decide +kernel) rfl, lw_gi 382 (by decide +kernel) rfl, lw_gi 5 (by decide +kernel) rfl, lw_gi 383 (by decide +kernel) rfl, by decide +kernel, by decide +kernel, by decide +kernel⟩
theorem mw_X2_readsOrder : Cond.instanceMethod yX2_readsOrder ∈ lw_good ∧ Cond.selects yX2_readsOrder.cls yX2_readsOrder yX2_readsOrder ∈ lw_good ∧ Cond.initialized yX2_readsOrder.cls ∈ lw_good ∧ Cond.code yX2_readsOrder cX2_readsOrder 7 (some .boolean) ∈ lw_good ∧ yX2_readsOrder.cls ≠ "java/lang/invoke/MethodHandle" ∧ yX2_readsOrder.cls ≠ "java/lang/invoke/VarHandle" ∧ (parseMethodDescriptor yX2_readsOrder.desc).map (fun d => d.parameters.length) = some 1 := ⟨lw_gi 387 (by decide +kernel) rfl, lw_gs 9 (by decide +kernel) rfl, lw_gi 5 (by decide +kernel) rfl, lw_gi 388 (by decide +kernel) rfl, by decide +kernel, by decide +kernel, by decide +kernel⟩
theorem mw_X3_takesOrder : Cond.instanceMethod yX3_takesOrder ∈ lw_good ∧ Cond.selects yX3_takesOrder.cls yX3_takesOrder yX3_takesOrder ∈ lw_good ∧ Cond.initialized yX3_takesOrder.cls ∈ lw_good ∧ Cond.code yX3_takesOrder cX3_takesOrder 1 (some .boolean) ∈ lw_good ∧ yX3_takesOrder.cls ≠ "java/lang/invoke/MethodHandle" ∧ yX3_takesOrder.cls ≠ "java/lang/invoke/VarHandle" ∧ (parseMethodDescriptor yX3_takesOrder.desc).map (fun d => d.parameters.length) = some 0 := ⟨lw_gi 390 (by decide +kernel) rfl, lw_gi 391 (by decide +kernel) rfl, lw_gi 2 (by decide +kernel) rfl, lw_gi 392 (by decide +kernel) rfl, by decide +kernel, by decide +kernel, by decide +kernel⟩
theorem mw_X3_addOrder : Cond.instanceMethod yX3_addOrder ∈ lw_good ∧ Cond.selects yX3_addOrder.cls yX3_addOrder yX3_addOrder ∈ lw_good ∧ Cond.initialized yX3_addOrder.cls ∈ lw_good ∧ Cond.code yX3_addOrder cX3_addOrder 7 none ∈ lw_good ∧ yX3_addOrder.cls ≠ "java/lang/invoke/MethodHandle" ∧ yX3_addOrder.cls ≠ "java/lang/invoke/VarHandle" ∧ (parseMethodDescriptor yX3_addOrder.desc).map (fun d => d.parameters.length) = some 5 := ⟨lw_gi 394 (by decide +kernel) rfl, lw_gi 395 (by decide +kernel) rfl, lw_gi 2 (by decide +kernel) rfl, lw_gi 396 (by decide +kernel) rfl, by decide +kernel, by decide +kernel, by decide +kernel⟩
theorem mw_X8_cuts : Cond.instanceMethod yX8_cuts ∈ lw_good ∧ Cond.selects yX8_cuts.cls yX8_cuts yX8_cuts ∈ lw_good ∧ Cond.initialized yX8_cuts.cls ∈ lw_good ∧ Cond.code yX8_cuts cX8_cuts 2 (some .int) ∈ lw_good ∧ yX8_cuts.cls ≠ "java/lang/invoke/MethodHandle" ∧ yX8_cuts.cls ≠ "java/lang/invoke/VarHandle" ∧ (parseMethodDescriptor yX8_cuts.desc).map (fun d => d.parameters.length) = some 1 := ⟨lw_gi 399 (by decide +kernel) rfl, lw_gi 400 (by decide +kernel) rfl, lw_gi 1 (by decide +kernel) rfl, lw_gi 401 (by decide +kernel) rfl, by decide +kernel, by decide +kernel, by decide +kernel⟩
theorem mw_X3_hasLink : Cond.instanceMethod yX3_hasLink ∈ lw_good ∧ Cond.selects yX3_hasLink.cls yX3_hasLink yX3_hasLink ∈ lw_good ∧ Cond.initialized yX3_hasLink.cls ∈ lw_good ∧ Cond.code yX3_hasLink cX3_hasLink 2 (some .boolean) ∈ lw_good ∧ yX3_hasLink.cls ≠ "java/lang/invoke/MethodHandle" ∧ yX3_hasLink.cls ≠ "java/lang/invoke/VarHandle" ∧ (parseMethodDescriptor yX3_hasLink.desc).map (fun d => d.parameters.length) = some 1 := ⟨lw_gi 403 (by decide +kernel) rfl, lw_gi 404 (by decide +kernel) rfl, lw_gi 2 (by decide +kernel) rfl, lw_gi 405 (by decide +kernel) rfl, by decide +kernel, by decide +kernel, by decide +kernel⟩
theorem mw_X3_links : Cond.instanceMethod yX3_links ∈ lw_good ∧ Cond.selects yX3_links.cls yX3_links yX3_links ∈ lw_good ∧ Cond.initialized yX3_links.cls ∈ lw_good ∧ Cond.code yX3_links cX3_links 1 (some .int) ∈ lw_good ∧ yX3_links.cls ≠ "java/lang/invoke/MethodHandle" ∧ yX3_links.cls ≠ "java/lang/invoke/VarHandle" ∧ (parseMethodDescriptor yX3_links.desc).map (fun d => d.parameters.length) = some 0 := ⟨lw_gi 407 (by decide +kernel) rfl, lw_gi 408 (by decide +kernel) rfl, lw_gi 2 (by decide +kernel) rfl, lw_gi 409 (by decide +kernel) rfl, by decide +kernel, by decide +kernel, by decide +kernel⟩
theorem mw_X3_isCut : Cond.instanceMethod yX3_isCut ∈ lw_good ∧ Cond.selects yX3_isCut.cls yX3_isCut yX3_isCut ∈ lw_good ∧ Cond.initialized yX3_isCut.cls ∈ lw_good ∧ Cond.code yX3_isCut cX3_isCut 2 (some .boolean) ∈ lw_good ∧ yX3_isCut.cls ≠ "java/lang/invoke/MethodHandle" ∧ yX3_isCut.cls ≠ "java/lang/invoke/VarHandle" ∧ (parseMethodDescriptor yX3_isCut.desc).map (fun d => d.parameters.length) = some 1 := ⟨lw_gi 411 (by decide +kernel) rfl, lw_gi 412 (by decide +kernel) rfl, lw_gi 2 (by decide +kernel) rfl, lw_gi 413 (by decide +kernel) rfl, by decide +kernel, by decide +kernel, by decide +kernel⟩
theorem mw_X3_cutLinks : Cond.instanceMethod yX3_cutLinks ∈ lw_good ∧ Cond.selects yX3_cutLinks.cls yX3_cutLinks yX3_cutLinks ∈ lw_good ∧ Cond.initialized yX3_cutLinks.cls ∈ lw_good ∧ Cond.code yX3_cutLinks cX3_cutLinks 3 (some .int) ∈ lw_good ∧ yX3_cutLinks.cls ≠ "java/lang/invoke/MethodHandle" ∧ yX3_cutLinks.cls ≠ "java/lang/invoke/VarHandle" ∧ (parseMethodDescriptor yX3_cutLinks.desc).map (fun d => d.parameters.length) = some 0 := ⟨lw_gi 416 (by decide +kernel) rfl, lw_gi 417 (by decide +kernel) rfl, lw_gi 2 (by decide +kernel) rfl, lw_gi 418 (by decide +kernel) rfl, by decide +kernel, by decide +kernel, by decide +kernel⟩
theorem mw_X3_ofLink : Cond.instanceMethod yX3_ofLink ∈ lw_good ∧ Cond.selects yX3_ofLink.cls yX3_ofLink yX3_ofLink ∈ lw_good ∧ Cond.initialized yX3_ofLink.cls ∈ lw_good ∧ Cond.code yX3_ofLink cX3_ofLink 3 (some .int) ∈ lw_good ∧ yX3_ofLink.cls ≠ "java/lang/invoke/MethodHandle" ∧ yX3_ofLink.cls ≠ "java/lang/invoke/VarHandle" ∧ (parseMethodDescriptor yX3_ofLink.desc).map (fun d => d.parameters.length) = some 2 := ⟨lw_gi 420 (by decide +kernel) rfl, lw_gi 421 (by decide +kernel) rfl, lw_gi 2 (by decide +kernel) rfl, lw_gi 422 (by decide +kernel) rfl, by decide +kernel, by decide +kernel, by decide +kernel⟩
theorem mw_X8_heals : Cond.instanceMethod yX8_heals ∈ lw_good ∧ Cond.selects yX8_heals.cls yX8_heals yX8_heals ∈ lw_good ∧ Cond.initialized yX8_heals.cls ∈ lw_good ∧ Cond.code yX8_heals cX8_heals 2 (some .int) ∈ lw_good ∧ yX8_heals.cls ≠ "java/lang/invoke/MethodHandle" ∧ yX8_heals.cls ≠ "java/lang/invoke/VarHandle" ∧ (parseMethodDescriptor yX8_heals.desc).map (fun d => d.parameters.length) = some 1 := ⟨lw_gi 424 (by decide +kernel) rfl, lw_gi 425 (by decide +kernel) rfl, lw_gi 1 (by decide +kernel) rfl, lw_gi 426 (by decide +kernel) rfl, by decide +kernel, by decide +kernel, by decide +kernel⟩
theorem mw_X8_cycles : Cond.instanceMethod yX8_cycles ∈ lw_good ∧ Cond.selects yX8_cycles.cls yX8_cycles yX8_cycles ∈ lw_good ∧ Cond.initialized yX8_cycles.cls ∈ lw_good ∧ Cond.code yX8_cycles cX8_cycles 3 (some .int) ∈ lw_good ∧ yX8_cycles.cls ≠ "java/lang/invoke/MethodHandle" ∧ yX8_cycles.cls ≠ "java/lang/invoke/VarHandle" ∧ (parseMethodDescriptor yX8_cycles.desc).map (fun d => d.parameters.length) = some 1 := ⟨lw_gi 428 (by decide +kernel) rfl, lw_gi 429 (by decide +kernel) rfl, lw_gi 1 (by decide +kernel) rfl, lw_gi 430 (by decide +kernel) rfl, by decide +kernel, by decide +kernel, by decide +kernel⟩
theorem mw_X4_runCycle : Cond.instanceMethod yX4_runCycle ∈ lw_good ∧ Cond.selects yX4_runCycle.cls yX4_runCycle yX4_runCycle ∈ lw_good ∧ Cond.initialized yX4_runCycle.cls ∈ lw_good ∧ Cond.code yX4_runCycle cX4_runCycle 3 none ∈ lw_good ∧ yX4_runCycle.cls ≠ "java/lang/invoke/MethodHandle" ∧ yX4_runCycle.cls ≠ "java/lang/invoke/VarHandle" ∧ (parseMethodDescriptor yX4_runCycle.desc).map (fun d => d.parameters.length) = some 1 := ⟨lw_gi 432 (by decide +kernel) rfl, lw_gi 433 (by decide +kernel) rfl, lw_gi 6 (by decide +kernel) rfl, lw_gi 434 (by decide +kernel) rfl, by decide +kernel, by decide +kernel, by decide +kernel⟩
theorem mw_X4_sendNothing : Cond.instanceMethod yX4_sendNothing ∈ lw_good ∧ Cond.selects yX4_sendNothing.cls yX4_sendNothing yX4_sendNothing ∈ lw_good ∧ Cond.initialized yX4_sendNothing.cls ∈ lw_good ∧ Cond.code yX4_sendNothing cX4_sendNothing 3 none ∈ lw_good ∧ yX4_sendNothing.cls ≠ "java/lang/invoke/MethodHandle" ∧ yX4_sendNothing.cls ≠ "java/lang/invoke/VarHandle" ∧ (parseMethodDescriptor yX4_sendNothing.desc).map (fun d => d.parameters.length) = some 1 := ⟨lw_gi 437 (by decide +kernel) rfl, lw_gs 10 (by decide +kernel) rfl, lw_gi 6 (by decide +kernel) rfl, lw_gi 438 (by decide +kernel) rfl, by decide +kernel, by decide +kernel, by decide +kernel⟩
theorem mw_X3_ofOrder : Cond.instanceMethod yX3_ofOrder ∈ lw_good ∧ Cond.selects yX3_ofOrder.cls yX3_ofOrder yX3_ofOrder ∈ lw_good ∧ Cond.initialized yX3_ofOrder.cls ∈ lw_good ∧ Cond.code yX3_ofOrder cX3_ofOrder 3 (some .int) ∈ lw_good ∧ yX3_ofOrder.cls ≠ "java/lang/invoke/MethodHandle" ∧ yX3_ofOrder.cls ≠ "java/lang/invoke/VarHandle" ∧ (parseMethodDescriptor yX3_ofOrder.desc).map (fun d => d.parameters.length) = some 2 := ⟨lw_gi 440 (by decide +kernel) rfl, lw_gi 441 (by decide +kernel) rfl, lw_gi 2 (by decide +kernel) rfl, lw_gi 442 (by decide +kernel) rfl, by decide +kernel, by decide +kernel, by decide +kernel⟩
theorem mw_X3_putResult : Cond.instanceMethod yX3_putResult ∈ lw_good ∧ Cond.selects yX3_putResult.cls yX3_putResult yX3_putResult ∈ lw_good ∧ Cond.initialized yX3_putResult.cls ∈ lw_good ∧ Cond.code yX3_putResult cX3_putResult 4 none ∈ lw_good ∧ yX3_putResult.cls ≠ "java/lang/invoke/MethodHandle" ∧ yX3_putResult.cls ≠ "java/lang/invoke/VarHandle" ∧ (parseMethodDescriptor yX3_putResult.desc).map (fun d => d.parameters.length) = some 3 := ⟨lw_gi 444 (by decide +kernel) rfl, lw_gi 445 (by decide +kernel) rfl, lw_gi 2 (by decide +kernel) rfl, lw_gi 446 (by decide +kernel) rfl, by decide +kernel, by decide +kernel, by decide +kernel⟩
theorem mw_X4_send : Cond.instanceMethod yX4_send ∈ lw_good ∧ Cond.selects yX4_send.cls yX4_send yX4_send ∈ lw_good ∧ Cond.initialized yX4_send.cls ∈ lw_good ∧ Cond.code yX4_send cX4_send 4 none ∈ lw_good ∧ yX4_send.cls ≠ "java/lang/invoke/MethodHandle" ∧ yX4_send.cls ≠ "java/lang/invoke/VarHandle" ∧ (parseMethodDescriptor yX4_send.desc).map (fun d => d.parameters.length) = some 1 := ⟨lw_gi 449 (by decide +kernel) rfl, lw_gi 450 (by decide +kernel) rfl, lw_gi 6 (by decide +kernel) rfl, lw_gi 451 (by decide +kernel) rfl, by decide +kernel, by decide +kernel, by decide +kernel⟩
theorem mw_X0_start : Cond.instanceMethod yX0_start ∈ lw_good ∧ Cond.selects yX0_start.cls yX0_start yX0_start ∈ lw_good ∧ Cond.initialized yX0_start.cls ∈ lw_good ∧ Cond.code yX0_start cX0_start 3 none ∈ lw_good ∧ yX0_start.cls ≠ "java/lang/invoke/MethodHandle" ∧ yX0_start.cls ≠ "java/lang/invoke/VarHandle" ∧ (parseMethodDescriptor yX0_start.desc).map (fun d => d.parameters.length) = some 1 := ⟨lw_gi 453 (by decide +kernel) rfl, lw_gi 454 (by decide +kernel) rfl, lw_gi 7 (by decide +kernel) rfl, lw_gi 455 (by decide +kernel) rfl, by decide +kernel, by decide +kernel, by decide +kernel⟩
theorem mw_X3_endOfA : Cond.instanceMethod yX3_endOfA ∈ lw_good ∧ Cond.selects yX3_endOfA.cls yX3_endOfA yX3_endOfA ∈ lw_good ∧ Cond.initialized yX3_endOfA.cls ∈ lw_good ∧ Cond.code yX3_endOfA cX3_endOfA 2 (some .int) ∈ lw_good ∧ yX3_endOfA.cls ≠ "java/lang/invoke/MethodHandle" ∧ yX3_endOfA.cls ≠ "java/lang/invoke/VarHandle" ∧ (parseMethodDescriptor yX3_endOfA.desc).map (fun d => d.parameters.length) = some 0 := ⟨lw_gi 458 (by decide +kernel) rfl, lw_gi 459 (by decide +kernel) rfl, lw_gi 2 (by decide +kernel) rfl, lw_gi 460 (by decide +kernel) rfl, by decide +kernel, by decide +kernel, by decide +kernel⟩
theorem mw_X4_pass : Cond.instanceMethod yX4_pass ∈ lw_good ∧ Cond.selects yX4_pass.cls yX4_pass yX4_pass ∈ lw_good ∧ Cond.initialized yX4_pass.cls ∈ lw_good ∧ Cond.code yX4_pass cX4_pass 5 none ∈ lw_good ∧ yX4_pass.cls ≠ "java/lang/invoke/MethodHandle" ∧ yX4_pass.cls ≠ "java/lang/invoke/VarHandle" ∧ (parseMethodDescriptor yX4_pass.desc).map (fun d => d.parameters.length) = some 3 := ⟨lw_gi 464 (by decide +kernel) rfl, lw_gs 11 (by decide +kernel) rfl, lw_gi 6 (by decide +kernel) rfl, lw_gi 465 (by decide +kernel) rfl, by decide +kernel, by decide +kernel, by decide +kernel⟩
theorem mw_X0_comesFor : Cond.instanceMethod yX0_comesFor ∈ lw_good ∧ Cond.selects yX0_comesFor.cls yX0_comesFor yX0_comesFor ∈ lw_good ∧ Cond.initialized yX0_comesFor.cls ∈ lw_good ∧ Cond.code yX0_comesFor cX0_comesFor 6 (some .boolean) ∈ lw_good ∧ yX0_comesFor.cls ≠ "java/lang/invoke/MethodHandle" ∧ yX0_comesFor.cls ≠ "java/lang/invoke/VarHandle" ∧ (parseMethodDescriptor yX0_comesFor.desc).map (fun d => d.parameters.length) = some 3 := ⟨lw_gi 467 (by decide +kernel) rfl, lw_gi 468 (by decide +kernel) rfl, lw_gi 7 (by decide +kernel) rfl, lw_gi 469 (by decide +kernel) rfl, by decide +kernel, by decide +kernel, by decide +kernel⟩
theorem mw_X3_ofDrive : Cond.instanceMethod yX3_ofDrive ∈ lw_good ∧ Cond.selects yX3_ofDrive.cls yX3_ofDrive yX3_ofDrive ∈ lw_good ∧ Cond.initialized yX3_ofDrive.cls ∈ lw_good ∧ Cond.code yX3_ofDrive cX3_ofDrive 3 (some .int) ∈ lw_good ∧ yX3_ofDrive.cls ≠ "java/lang/invoke/MethodHandle" ∧ yX3_ofDrive.cls ≠ "java/lang/invoke/VarHandle" ∧ (parseMethodDescriptor yX3_ofDrive.desc).map (fun d => d.parameters.length) = some 2 := ⟨lw_gi 471 (by decide +kernel) rfl, lw_gi 472 (by decide +kernel) rfl, lw_gi 2 (by decide +kernel) rfl, lw_gi 473 (by decide +kernel) rfl, by decide +kernel, by decide +kernel, by decide +kernel⟩
theorem mw_X0_obey : Cond.instanceMethod yX0_obey ∈ lw_good ∧ Cond.selects yX0_obey.cls yX0_obey yX0_obey ∈ lw_good ∧ Cond.initialized yX0_obey.cls ∈ lw_good ∧ Cond.code yX0_obey cX0_obey 8 none ∈ lw_good ∧ yX0_obey.cls ≠ "java/lang/invoke/MethodHandle" ∧ yX0_obey.cls ≠ "java/lang/invoke/VarHandle" ∧ (parseMethodDescriptor yX0_obey.desc).map (fun d => d.parameters.length) = some 3 := ⟨lw_gi 475 (by decide +kernel) rfl, lw_gi 476 (by decide +kernel) rfl, lw_gi 7 (by decide +kernel) rfl, lw_gi 477 (by decide +kernel) rfl, by decide +kernel, by decide +kernel, by decide +kernel⟩
theorem mw_X3_isSafe : Cond.instanceMethod yX3_isSafe ∈ lw_good ∧ Cond.selects yX3_isSafe.cls yX3_isSafe yX3_isSafe ∈ lw_good ∧ Cond.initialized yX3_isSafe.cls ∈ lw_good ∧ Cond.code yX3_isSafe cX3_isSafe 2 (some .boolean) ∈ lw_good ∧ yX3_isSafe.cls ≠ "java/lang/invoke/MethodHandle" ∧ yX3_isSafe.cls ≠ "java/lang/invoke/VarHandle" ∧ (parseMethodDescriptor yX3_isSafe.desc).map (fun d => d.parameters.length) = some 1 := ⟨lw_gi 479 (by decide +kernel) rfl, lw_gi 480 (by decide +kernel) rfl, lw_gi 2 (by decide +kernel) rfl, lw_gi 481 (by decide +kernel) rfl, by decide +kernel, by decide +kernel, by decide +kernel⟩
theorem mw_X3_putDrive : Cond.instanceMethod yX3_putDrive ∈ lw_good ∧ Cond.selects yX3_putDrive.cls yX3_putDrive yX3_putDrive ∈ lw_good ∧ Cond.initialized yX3_putDrive.cls ∈ lw_good ∧ Cond.code yX3_putDrive cX3_putDrive 4 none ∈ lw_good ∧ yX3_putDrive.cls ≠ "java/lang/invoke/MethodHandle" ∧ yX3_putDrive.cls ≠ "java/lang/invoke/VarHandle" ∧ (parseMethodDescriptor yX3_putDrive.desc).map (fun d => d.parameters.length) = some 3 := ⟨lw_gi 483 (by decide +kernel) rfl, lw_gi 484 (by decide +kernel) rfl, lw_gi 2 (by decide +kernel) rfl, lw_gi 485 (by decide +kernel) rfl, by decide +kernel, by decide +kernel, by decide +kernel⟩
theorem mw_X3_startOfB : Cond.instanceMethod yX3_startOfB ∈ lw_good ∧ Cond.selects yX3_startOfB.cls yX3_startOfB yX3_startOfB ∈ lw_good ∧ Cond.initialized yX3_startOfB.cls ∈ lw_good ∧ Cond.code yX3_startOfB cX3_startOfB 2 (some .int) ∈ lw_good ∧ yX3_startOfB.cls ≠ "java/lang/invoke/MethodHandle" ∧ yX3_startOfB.cls ≠ "java/lang/invoke/VarHandle" ∧ (parseMethodDescriptor yX3_startOfB.desc).map (fun d => d.parameters.length) = some 0 := ⟨lw_gi 487 (by decide +kernel) rfl, lw_gi 488 (by decide +kernel) rfl, lw_gi 2 (by decide +kernel) rfl, lw_gi 489 (by decide +kernel) rfl, by decide +kernel, by decide +kernel, by decide +kernel⟩
theorem mw_X4_joinedData : Cond.instanceMethod yX4_joinedData ∈ lw_good ∧ Cond.selects yX4_joinedData.cls yX4_joinedData yX4_joinedData ∈ lw_good ∧ Cond.initialized yX4_joinedData.cls ∈ lw_good ∧ Cond.code yX4_joinedData cX4_joinedData 3 (some .int) ∈ lw_good ∧ yX4_joinedData.cls ≠ "java/lang/invoke/MethodHandle" ∧ yX4_joinedData.cls ≠ "java/lang/invoke/VarHandle" ∧ (parseMethodDescriptor yX4_joinedData.desc).map (fun d => d.parameters.length) = some 2 := ⟨lw_gi 492 (by decide +kernel) rfl, lw_gs 12 (by decide +kernel) rfl, lw_gi 6 (by decide +kernel) rfl, lw_gi 493 (by decide +kernel) rfl, by decide +kernel, by decide +kernel, by decide +kernel⟩
theorem mw_X3_isWhole : Cond.instanceMethod yX3_isWhole ∈ lw_good ∧ Cond.selects yX3_isWhole.cls yX3_isWhole yX3_isWhole ∈ lw_good ∧ Cond.initialized yX3_isWhole.cls ∈ lw_good ∧ Cond.code yX3_isWhole cX3_isWhole 1 (some .boolean) ∈ lw_good ∧ yX3_isWhole.cls ≠ "java/lang/invoke/MethodHandle" ∧ yX3_isWhole.cls ≠ "java/lang/invoke/VarHandle" ∧ (parseMethodDescriptor yX3_isWhole.desc).map (fun d => d.parameters.length) = some 0 := ⟨lw_gi 495 (by decide +kernel) rfl, lw_gi 496 (by decide +kernel) rfl, lw_gi 2 (by decide +kernel) rfl, lw_gi 497 (by decide +kernel) rfl, by decide +kernel, by decide +kernel, by decide +kernel⟩
theorem mw_X3_takeTimesAround : Cond.instanceMethod yX3_takeTimesAround ∈ lw_good ∧ Cond.selects yX3_takeTimesAround.cls yX3_takeTimesAround yX3_takeTimesAround ∈ lw_good ∧ Cond.initialized yX3_takeTimesAround.cls ∈ lw_good ∧ Cond.code yX3_takeTimesAround cX3_takeTimesAround 1 none ∈ lw_good ∧ yX3_takeTimesAround.cls ≠ "java/lang/invoke/MethodHandle" ∧ yX3_takeTimesAround.cls ≠ "java/lang/invoke/VarHandle" ∧ (parseMethodDescriptor yX3_takeTimesAround.desc).map (fun d => d.parameters.length) = some 0 := ⟨lw_gi 500 (by decide +kernel) rfl, lw_gi 501 (by decide +kernel) rfl, lw_gi 2 (by decide +kernel) rfl, lw_gi 502 (by decide +kernel) rfl, by decide +kernel, by decide +kernel, by decide +kernel⟩
theorem mw_X3_lengths : Cond.instanceMethod yX3_lengths ∈ lw_good ∧ Cond.selects yX3_lengths.cls yX3_lengths yX3_lengths ∈ lw_good ∧ Cond.initialized yX3_lengths.cls ∈ lw_good ∧ Cond.code yX3_lengths cX3_lengths 5 (some .int) ∈ lw_good ∧ yX3_lengths.cls ≠ "java/lang/invoke/MethodHandle" ∧ yX3_lengths.cls ≠ "java/lang/invoke/VarHandle" ∧ (parseMethodDescriptor yX3_lengths.desc).map (fun d => d.parameters.length) = some 2 := ⟨lw_gi 505 (by decide +kernel) rfl, lw_gs 13 (by decide +kernel) rfl, lw_gi 2 (by decide +kernel) rfl, lw_gi 506 (by decide +kernel) rfl, by decide +kernel, by decide +kernel, by decide +kernel⟩
theorem mw_X3_takeTimesOfTurning : Cond.instanceMethod yX3_takeTimesOfTurning ∈ lw_good ∧ Cond.selects yX3_takeTimesOfTurning.cls yX3_takeTimesOfTurning yX3_takeTimesOfTurning ∈ lw_good ∧ Cond.initialized yX3_takeTimesOfTurning.cls ∈ lw_good ∧ Cond.code yX3_takeTimesOfTurning cX3_takeTimesOfTurning 3 none ∈ lw_good ∧ yX3_takeTimesOfTurning.cls ≠ "java/lang/invoke/MethodHandle" ∧ yX3_takeTimesOfTurning.cls ≠ "java/lang/invoke/VarHandle" ∧ (parseMethodDescriptor yX3_takeTimesOfTurning.desc).map (fun d => d.parameters.length) = some 0 := ⟨lw_gi 508 (by decide +kernel) rfl, lw_gi 509 (by decide +kernel) rfl, lw_gi 2 (by decide +kernel) rfl, lw_gi 510 (by decide +kernel) rfl, by decide +kernel, by decide +kernel, by decide +kernel⟩
theorem mw_X3_timeThereAndBack : Cond.static yX3_timeThereAndBack ∈ lw_good ∧ Cond.initialized yX3_timeThereAndBack.cls ∈ lw_good ∧ Cond.code yX3_timeThereAndBack cX3_timeThereAndBack 2 (some .int) ∈ lw_good ∧ yX3_timeThereAndBack.cls ≠ "java/lang/invoke/MethodHandle" ∧ yX3_timeThereAndBack.cls ≠ "java/lang/invoke/VarHandle" ∧ (parseMethodDescriptor yX3_timeThereAndBack.desc).map (fun d => d.parameters.length) = some 2 := ⟨lw_gi 514 (by decide +kernel) rfl, lw_gi 2 (by decide +kernel) rfl, lw_gi 515 (by decide +kernel) rfl, by decide +kernel, by decide +kernel, by decide +kernel⟩
theorem mw_X3_countMiss : Cond.instanceMethod yX3_countMiss ∈ lw_good ∧ Cond.selects yX3_countMiss.cls yX3_countMiss yX3_countMiss ∈ lw_good ∧ Cond.initialized yX3_countMiss.cls ∈ lw_good ∧ Cond.code yX3_countMiss cX3_countMiss 4 none ∈ lw_good ∧ yX3_countMiss.cls ≠ "java/lang/invoke/MethodHandle" ∧ yX3_countMiss.cls ≠ "java/lang/invoke/VarHandle" ∧ (parseMethodDescriptor yX3_countMiss.desc).map (fun d => d.parameters.length) = some 1 := ⟨lw_gi 518 (by decide +kernel) rfl, lw_gi 519 (by decide +kernel) rfl, lw_gi 2 (by decide +kernel) rfl, lw_gi 520 (by decide +kernel) rfl, by decide +kernel, by decide +kernel, by decide +kernel⟩
theorem mw_X3_safeDrives : Cond.instanceMethod yX3_safeDrives ∈ lw_good ∧ Cond.selects yX3_safeDrives.cls yX3_safeDrives yX3_safeDrives ∈ lw_good ∧ Cond.initialized yX3_safeDrives.cls ∈ lw_good ∧ Cond.code yX3_safeDrives cX3_safeDrives 3 (some .int) ∈ lw_good ∧ yX3_safeDrives.cls ≠ "java/lang/invoke/MethodHandle" ∧ yX3_safeDrives.cls ≠ "java/lang/invoke/VarHandle" ∧ (parseMethodDescriptor yX3_safeDrives.desc).map (fun d => d.parameters.length) = some 0 := ⟨lw_gi 525 (by decide +kernel) rfl, lw_gi 526 (by decide +kernel) rfl, lw_gi 2 (by decide +kernel) rfl, lw_gi 527 (by decide +kernel) rfl, by decide +kernel, by decide +kernel, by decide +kernel⟩
theorem mw_X8_resets : Cond.instanceMethod yX8_resets ∈ lw_good ∧ Cond.selects yX8_resets.cls yX8_resets yX8_resets ∈ lw_good ∧ Cond.initialized yX8_resets.cls ∈ lw_good ∧ Cond.code yX8_resets cX8_resets 3 (some .int) ∈ lw_good ∧ yX8_resets.cls ≠ "java/lang/invoke/MethodHandle" ∧ yX8_resets.cls ≠ "java/lang/invoke/VarHandle" ∧ (parseMethodDescriptor yX8_resets.desc).map (fun d => d.parameters.length) = some 1 := ⟨lw_gi 529 (by decide +kernel) rfl, lw_gi 530 (by decide +kernel) rfl, lw_gi 1 (by decide +kernel) rfl, lw_gi 531 (by decide +kernel) rfl, by decide +kernel, by decide +kernel, by decide +kernel⟩
theorem mw_X3_hasDrive : Cond.instanceMethod yX3_hasDrive ∈ lw_good ∧ Cond.selects yX3_hasDrive.cls yX3_hasDrive yX3_hasDrive ∈ lw_good ∧ Cond.initialized yX3_hasDrive.cls ∈ lw_good ∧ Cond.code yX3_hasDrive cX3_hasDrive 2 (some .boolean) ∈ lw_good ∧ yX3_hasDrive.cls ≠ "java/lang/invoke/MethodHandle" ∧ yX3_hasDrive.cls ≠ "java/lang/invoke/VarHandle" ∧ (parseMethodDescriptor yX3_hasDrive.desc).map (fun d => d.parameters.length) = some 1 := ⟨lw_gi 533 (by decide +kernel) rfl, lw_gi 534 (by decide +kernel) rfl, lw_gi 2 (by decide +kernel) rfl, lw_gi 535 (by decide +kernel) rfl, by decide +kernel, by decide +kernel, by decide +kernel⟩
theorem mw_X8_sets : Cond.instanceMethod yX8_sets ∈ lw_good ∧ Cond.selects yX8_sets.cls yX8_sets yX8_sets ∈ lw_good ∧ Cond.initialized yX8_sets.cls ∈ lw_good ∧ Cond.code yX8_sets cX8_sets 5 (some .int) ∈ lw_good ∧ yX8_sets.cls ≠ "java/lang/invoke/MethodHandle" ∧ yX8_sets.cls ≠ "java/lang/invoke/VarHandle" ∧ (parseMethodDescriptor yX8_sets.desc).map (fun d => d.parameters.length) = some 3 := ⟨lw_gi 540 (by decide +kernel) rfl, lw_gi 541 (by decide +kernel) rfl, lw_gi 1 (by decide +kernel) rfl, lw_gi 542 (by decide +kernel) rfl, by decide +kernel, by decide +kernel, by decide +kernel⟩
theorem mw_X8_drifts : Cond.instanceMethod yX8_drifts ∈ lw_good ∧ Cond.selects yX8_drifts.cls yX8_drifts yX8_drifts ∈ lw_good ∧ Cond.initialized yX8_drifts.cls ∈ lw_good ∧ Cond.code yX8_drifts cX8_drifts 3 (some .int) ∈ lw_good ∧ yX8_drifts.cls ≠ "java/lang/invoke/MethodHandle" ∧ yX8_drifts.cls ≠ "java/lang/invoke/VarHandle" ∧ (parseMethodDescriptor yX8_drifts.desc).map (fun d => d.parameters.length) = some 2 := ⟨lw_gi 544 (by decide +kernel) rfl, lw_gi 545 (by decide +kernel) rfl, lw_gi 1 (by decide +kernel) rfl, lw_gi 546 (by decide +kernel) rfl, by decide +kernel, by decide +kernel, by decide +kernel⟩
theorem mw_X8_measures : Cond.instanceMethod yX8_measures ∈ lw_good ∧ Cond.selects yX8_measures.cls yX8_measures yX8_measures ∈ lw_good ∧ Cond.initialized yX8_measures.cls ∈ lw_good ∧ Cond.code yX8_measures cX8_measures 2 (some .int) ∈ lw_good ∧ yX8_measures.cls ≠ "java/lang/invoke/MethodHandle" ∧ yX8_measures.cls ≠ "java/lang/invoke/VarHandle" ∧ (parseMethodDescriptor yX8_measures.desc).map (fun d => d.parameters.length) = some 0 := ⟨lw_gi 548 (by decide +kernel) rfl, lw_gi 549 (by decide +kernel) rfl, lw_gi 1 (by decide +kernel) rfl, lw_gi 550 (by decide +kernel) rfl, by decide +kernel, by decide +kernel, by decide +kernel⟩
theorem mw_X3_bitsOfTurning : Cond.instanceMethod yX3_bitsOfTurning ∈ lw_good ∧ Cond.selects yX3_bitsOfTurning.cls yX3_bitsOfTurning yX3_bitsOfTurning ∈ lw_good ∧ Cond.initialized yX3_bitsOfTurning.cls ∈ lw_good ∧ Cond.code yX3_bitsOfTurning cX3_bitsOfTurning 1 (some .int) ∈ lw_good ∧ yX3_bitsOfTurning.cls ≠ "java/lang/invoke/MethodHandle" ∧ yX3_bitsOfTurning.cls ≠ "java/lang/invoke/VarHandle" ∧ (parseMethodDescriptor yX3_bitsOfTurning.desc).map (fun d => d.parameters.length) = some 0 := ⟨lw_gi 552 (by decide +kernel) rfl, lw_gi 553 (by decide +kernel) rfl, lw_gi 2 (by decide +kernel) rfl, lw_gi 554 (by decide +kernel) rfl, by decide +kernel, by decide +kernel, by decide +kernel⟩
theorem mw_X3_bitsOfA : Cond.instanceMethod yX3_bitsOfA ∈ lw_good ∧ Cond.selects yX3_bitsOfA.cls yX3_bitsOfA yX3_bitsOfA ∈ lw_good ∧ Cond.initialized yX3_bitsOfA.cls ∈ lw_good ∧ Cond.code yX3_bitsOfA cX3_bitsOfA 1 (some .int) ∈ lw_good ∧ yX3_bitsOfA.cls ≠ "java/lang/invoke/MethodHandle" ∧ yX3_bitsOfA.cls ≠ "java/lang/invoke/VarHandle" ∧ (parseMethodDescriptor yX3_bitsOfA.desc).map (fun d => d.parameters.length) = some 0 := ⟨lw_gi 557 (by decide +kernel) rfl, lw_gi 558 (by decide +kernel) rfl, lw_gi 2 (by decide +kernel) rfl, lw_gi 559 (by decide +kernel) rfl, by decide +kernel, by decide +kernel, by decide +kernel⟩
theorem mw_X3_bitsOfB : Cond.instanceMethod yX3_bitsOfB ∈ lw_good ∧ Cond.selects yX3_bitsOfB.cls yX3_bitsOfB yX3_bitsOfB ∈ lw_good ∧ Cond.initialized yX3_bitsOfB.cls ∈ lw_good ∧ Cond.code yX3_bitsOfB cX3_bitsOfB 1 (some .int) ∈ lw_good ∧ yX3_bitsOfB.cls ≠ "java/lang/invoke/MethodHandle" ∧ yX3_bitsOfB.cls ≠ "java/lang/invoke/VarHandle" ∧ (parseMethodDescriptor yX3_bitsOfB.desc).map (fun d => d.parameters.length) = some 0 := ⟨lw_gi 561 (by decide +kernel) rfl, lw_gi 562 (by decide +kernel) rfl, lw_gi 2 (by decide +kernel) rfl, lw_gi 563 (by decide +kernel) rfl, by decide +kernel, by decide +kernel, by decide +kernel⟩
theorem mw_X3_learn : Cond.instanceMethod yX3_learn ∈ lw_good ∧ Cond.selects yX3_learn.cls yX3_learn yX3_learn ∈ lw_good ∧ Cond.initialized yX3_learn.cls ∈ lw_good ∧ Cond.code yX3_learn cX3_learn 3 none ∈ lw_good ∧ yX3_learn.cls ≠ "java/lang/invoke/MethodHandle" ∧ yX3_learn.cls ≠ "java/lang/invoke/VarHandle" ∧ (parseMethodDescriptor yX3_learn.desc).map (fun d => d.parameters.length) = some 1 := ⟨lw_gi 565 (by decide +kernel) rfl, lw_gi 566 (by decide +kernel) rfl, lw_gi 2 (by decide +kernel) rfl, lw_gi 567 (by decide +kernel) rfl, by decide +kernel, by decide +kernel, by decide +kernel⟩
theorem mw_J6_bitCount_0f7a4 : Cond.static yJ6_bitCount_0f7a4 ∈ lw_good ∧ Cond.initialized yJ6_bitCount_0f7a4.cls ∈ lw_good ∧ Cond.code yJ6_bitCount_0f7a4 cJ6_bitCount_0f7a4 1 (some .int) ∈ lw_good ∧ yJ6_bitCount_0f7a4.cls ≠ "java/lang/invoke/MethodHandle" ∧ yJ6_bitCount_0f7a4.cls ≠ "java/lang/invoke/VarHandle" ∧ (parseMethodDescriptor yJ6_bitCount_0f7a4.desc).map (fun d => d.parameters.length) = some 1 := ⟨lw_gi 569 (by decide +kernel) rfl, lw_gi 14 (by decide +kernel) rfl, lw_gi 570 (by decide +kernel) rfl, by decide +kernel, by decide +kernel, by decide +kernel⟩
theorem mw_X8_undo : Cond.instanceMethod yX8_undo ∈ lw_good ∧ Cond.selects yX8_undo.cls yX8_undo yX8_undo ∈ lw_good ∧ Cond.initialized yX8_undo.cls ∈ lw_good ∧ Cond.code yX8_undo cX8_undo 1 (some .int) ∈ lw_good ∧ yX8_undo.cls ≠ "java/lang/invoke/MethodHandle" ∧ yX8_undo.cls ≠ "java/lang/invoke/VarHandle" ∧ (parseMethodDescriptor yX8_undo.desc).map (fun d => d.parameters.length) = some 0 := ⟨lw_gi 575 (by decide +kernel) rfl, lw_gi 576 (by decide +kernel) rfl, lw_gi 1 (by decide +kernel) rfl, lw_gi 577 (by decide +kernel) rfl, by decide +kernel, by decide +kernel, by decide +kernel⟩
theorem mw_X1_pop : Cond.instanceMethod yX1_pop ∈ lw_good ∧ Cond.selects yX1_pop.cls yX1_pop yX1_pop ∈ lw_good ∧ Cond.initialized yX1_pop.cls ∈ lw_good ∧ Cond.code yX1_pop cX1_pop 2 none ∈ lw_good ∧ yX1_pop.cls ≠ "java/lang/invoke/MethodHandle" ∧ yX1_pop.cls ≠ "java/lang/invoke/VarHandle" ∧ (parseMethodDescriptor yX1_pop.desc).map (fun d => d.parameters.length) = some 1 := ⟨lw_gi 579 (by decide +kernel) rfl, lw_gi 580 (by decide +kernel) rfl, lw_gi 8 (by decide +kernel) rfl, lw_gi 581 (by decide +kernel) rfl, by decide +kernel, by decide +kernel, by decide +kernel⟩
theorem mw_X8_drive : Cond.instanceMethod yX8_drive ∈ lw_good ∧ Cond.selects yX8_drive.cls yX8_drive yX8_drive ∈ lw_good ∧ Cond.initialized yX8_drive.cls ∈ lw_good ∧ Cond.code yX8_drive cX8_drive 3 (some .int) ∈ lw_good ∧ yX8_drive.cls ≠ "java/lang/invoke/MethodHandle" ∧ yX8_drive.cls ≠ "java/lang/invoke/VarHandle" ∧ (parseMethodDescriptor yX8_drive.desc).map (fun d => d.parameters.length) = some 2 := ⟨lw_gi 583 (by decide +kernel) rfl, lw_gi 584 (by decide +kernel) rfl, lw_gi 1 (by decide +kernel) rfl, lw_gi 585 (by decide +kernel) rfl, by decide +kernel, by decide +kernel, by decide +kernel⟩
theorem mw_X3_offOf : Cond.instanceMethod yX3_offOf ∈ lw_good ∧ Cond.selects yX3_offOf.cls yX3_offOf yX3_offOf ∈ lw_good ∧ Cond.initialized yX3_offOf.cls ∈ lw_good ∧ Cond.code yX3_offOf cX3_offOf 2 (some .int) ∈ lw_good ∧ yX3_offOf.cls ≠ "java/lang/invoke/MethodHandle" ∧ yX3_offOf.cls ≠ "java/lang/invoke/VarHandle" ∧ (parseMethodDescriptor yX3_offOf.desc).map (fun d => d.parameters.length) = some 1 := ⟨lw_gi 588 (by decide +kernel) rfl, lw_gi 589 (by decide +kernel) rfl, lw_gi 2 (by decide +kernel) rfl, lw_gi 590 (by decide +kernel) rfl, by decide +kernel, by decide +kernel, by decide +kernel⟩
theorem mw_X8_link : Cond.instanceMethod yX8_link ∈ lw_good ∧ Cond.selects yX8_link.cls yX8_link yX8_link ∈ lw_good ∧ Cond.initialized yX8_link.cls ∈ lw_good ∧ Cond.code yX8_link cX8_link 3 (some .int) ∈ lw_good ∧ yX8_link.cls ≠ "java/lang/invoke/MethodHandle" ∧ yX8_link.cls ≠ "java/lang/invoke/VarHandle" ∧ (parseMethodDescriptor yX8_link.desc).map (fun d => d.parameters.length) = some 2 := ⟨lw_gi 592 (by decide +kernel) rfl, lw_gi 593 (by decide +kernel) rfl, lw_gi 1 (by decide +kernel) rfl, lw_gi 594 (by decide +kernel) rfl, by decide +kernel, by decide +kernel, by decide +kernel⟩
theorem mw_X8_order : Cond.instanceMethod yX8_order ∈ lw_good ∧ Cond.selects yX8_order.cls yX8_order yX8_order ∈ lw_good ∧ Cond.initialized yX8_order.cls ∈ lw_good ∧ Cond.code yX8_order cX8_order 3 (some .int) ∈ lw_good ∧ yX8_order.cls ≠ "java/lang/invoke/MethodHandle" ∧ yX8_order.cls ≠ "java/lang/invoke/VarHandle" ∧ (parseMethodDescriptor yX8_order.desc).map (fun d => d.parameters.length) = some 2 := ⟨lw_gi 597 (by decide +kernel) rfl, lw_gi 598 (by decide +kernel) rfl, lw_gi 1 (by decide +kernel) rfl, lw_gi 599 (by decide +kernel) rfl, by decide +kernel, by decide +kernel, by decide +kernel⟩
theorem mw_X3_hasOrder : Cond.instanceMethod yX3_hasOrder ∈ lw_good ∧ Cond.selects yX3_hasOrder.cls yX3_hasOrder yX3_hasOrder ∈ lw_good ∧ Cond.initialized yX3_hasOrder.cls ∈ lw_good ∧ Cond.code yX3_hasOrder cX3_hasOrder 2 (some .boolean) ∈ lw_good ∧ yX3_hasOrder.cls ≠ "java/lang/invoke/MethodHandle" ∧ yX3_hasOrder.cls ≠ "java/lang/invoke/VarHandle" ∧ (parseMethodDescriptor yX3_hasOrder.desc).map (fun d => d.parameters.length) = some 1 := ⟨lw_gi 601 (by decide +kernel) rfl, lw_gi 602 (by decide +kernel) rfl, lw_gi 2 (by decide +kernel) rfl, lw_gi 603 (by decide +kernel) rfl, by decide +kernel, by decide +kernel, by decide +kernel⟩
theorem mw_X8_result : Cond.instanceMethod yX8_result ∈ lw_good ∧ Cond.selects yX8_result.cls yX8_result yX8_result ∈ lw_good ∧ Cond.initialized yX8_result.cls ∈ lw_good ∧ Cond.code yX8_result cX8_result 3 (some .int) ∈ lw_good ∧ yX8_result.cls ≠ "java/lang/invoke/MethodHandle" ∧ yX8_result.cls ≠ "java/lang/invoke/VarHandle" ∧ (parseMethodDescriptor yX8_result.desc).map (fun d => d.parameters.length) = some 2 := ⟨lw_gi 606 (by decide +kernel) rfl, lw_gi 607 (by decide +kernel) rfl, lw_gi 1 (by decide +kernel) rfl, lw_gi 608 (by decide +kernel) rfl, by decide +kernel, by decide +kernel, by decide +kernel⟩
theorem mw_X3_ofResult : Cond.instanceMethod yX3_ofResult ∈ lw_good ∧ Cond.selects yX3_ofResult.cls yX3_ofResult yX3_ofResult ∈ lw_good ∧ Cond.initialized yX3_ofResult.cls ∈ lw_good ∧ Cond.code yX3_ofResult cX3_ofResult 3 (some .int) ∈ lw_good ∧ yX3_ofResult.cls ≠ "java/lang/invoke/MethodHandle" ∧ yX3_ofResult.cls ≠ "java/lang/invoke/VarHandle" ∧ (parseMethodDescriptor yX3_ofResult.desc).map (fun d => d.parameters.length) = some 2 := ⟨lw_gi 610 (by decide +kernel) rfl, lw_gi 611 (by decide +kernel) rfl, lw_gi 2 (by decide +kernel) rfl, lw_gi 612 (by decide +kernel) rfl, by decide +kernel, by decide +kernel, by decide +kernel⟩
theorem mw_X8_time : Cond.instanceMethod yX8_time ∈ lw_good ∧ Cond.selects yX8_time.cls yX8_time yX8_time ∈ lw_good ∧ Cond.initialized yX8_time.cls ∈ lw_good ∧ Cond.code yX8_time cX8_time 2 (some .int) ∈ lw_good ∧ yX8_time.cls ≠ "java/lang/invoke/MethodHandle" ∧ yX8_time.cls ≠ "java/lang/invoke/VarHandle" ∧ (parseMethodDescriptor yX8_time.desc).map (fun d => d.parameters.length) = some 1 := ⟨lw_gi 614 (by decide +kernel) rfl, lw_gi 615 (by decide +kernel) rfl, lw_gi 1 (by decide +kernel) rfl, lw_gi 616 (by decide +kernel) rfl, by decide +kernel, by decide +kernel, by decide +kernel⟩
theorem mw_X8_reached : Cond.instanceMethod yX8_reached ∈ lw_good ∧ Cond.selects yX8_reached.cls yX8_reached yX8_reached ∈ lw_good ∧ Cond.initialized yX8_reached.cls ∈ lw_good ∧ Cond.code yX8_reached cX8_reached 2 (some .int) ∈ lw_good ∧ yX8_reached.cls ≠ "java/lang/invoke/MethodHandle" ∧ yX8_reached.cls ≠ "java/lang/invoke/VarHandle" ∧ (parseMethodDescriptor yX8_reached.desc).map (fun d => d.parameters.length) = some 1 := ⟨lw_gi 618 (by decide +kernel) rfl, lw_gi 619 (by decide +kernel) rfl, lw_gi 1 (by decide +kernel) rfl, lw_gi 620 (by decide +kernel) rfl, by decide +kernel, by decide +kernel, by decide +kernel⟩
theorem mw_X8_would : Cond.instanceMethod yX8_would ∈ lw_good ∧ Cond.selects yX8_would.cls yX8_would yX8_would ∈ lw_good ∧ Cond.initialized yX8_would.cls ∈ lw_good ∧ Cond.code yX8_would cX8_would 2 (some .int) ∈ lw_good ∧ yX8_would.cls ≠ "java/lang/invoke/MethodHandle" ∧ yX8_would.cls ≠ "java/lang/invoke/VarHandle" ∧ (parseMethodDescriptor yX8_would.desc).map (fun d => d.parameters.length) = some 1 := ⟨lw_gi 624 (by decide +kernel) rfl, lw_gi 625 (by decide +kernel) rfl, lw_gi 1 (by decide +kernel) rfl, lw_gi 626 (by decide +kernel) rfl, by decide +kernel, by decide +kernel, by decide +kernel⟩
theorem mw_X8_sendTrial : Cond.instanceMethod yX8_sendTrial ∈ lw_good ∧ Cond.selects yX8_sendTrial.cls yX8_sendTrial yX8_sendTrial ∈ lw_good ∧ Cond.initialized yX8_sendTrial.cls ∈ lw_good ∧ Cond.code yX8_sendTrial cX8_sendTrial 2 none ∈ lw_good ∧ yX8_sendTrial.cls ≠ "java/lang/invoke/MethodHandle" ∧ yX8_sendTrial.cls ≠ "java/lang/invoke/VarHandle" ∧ (parseMethodDescriptor yX8_sendTrial.desc).map (fun d => d.parameters.length) = some 1 := ⟨lw_gi 629 (by decide +kernel) rfl, lw_gs 14 (by decide +kernel) rfl, lw_gi 1 (by decide +kernel) rfl, lw_gi 630 (by decide +kernel) rfl, by decide +kernel, by decide +kernel, by decide +kernel⟩
theorem mw_X3_look : Cond.instanceMethod yX3_look ∈ lw_good ∧ Cond.selects yX3_look.cls yX3_look yX3_look ∈ lw_good ∧ Cond.initialized yX3_look.cls ∈ lw_good ∧ Cond.code yX3_look cX3_look 2 (some .int) ∈ lw_good ∧ yX3_look.cls ≠ "java/lang/invoke/MethodHandle" ∧ yX3_look.cls ≠ "java/lang/invoke/VarHandle" ∧ (parseMethodDescriptor yX3_look.desc).map (fun d => d.parameters.length) = some 1 := ⟨lw_gi 633 (by decide +kernel) rfl, lw_gi 634 (by decide +kernel) rfl, lw_gi 2 (by decide +kernel) rfl, lw_gi 635 (by decide +kernel) rfl, by decide +kernel, by decide +kernel, by decide +kernel⟩
theorem mw_X8_sees : Cond.instanceMethod yX8_sees ∈ lw_good ∧ Cond.selects yX8_sees.cls yX8_sees yX8_sees ∈ lw_good ∧ Cond.initialized yX8_sees.cls ∈ lw_good ∧ Cond.code yX8_sees cX8_sees 4 (some .int) ∈ lw_good ∧ yX8_sees.cls ≠ "java/lang/invoke/MethodHandle" ∧ yX8_sees.cls ≠ "java/lang/invoke/VarHandle" ∧ (parseMethodDescriptor yX8_sees.desc).map (fun d => d.parameters.length) = some 2 := ⟨lw_gi 638 (by decide +kernel) rfl, lw_gi 639 (by decide +kernel) rfl, lw_gi 1 (by decide +kernel) rfl, lw_gi 640 (by decide +kernel) rfl, by decide +kernel, by decide +kernel, by decide +kernel⟩
theorem mw_X5_append : Cond.instanceMethod yX5_append ∈ lw_good ∧ Cond.selects yX5_append.cls yX5_append yX5_append ∈ lw_good ∧ Cond.initialized yX5_append.cls ∈ lw_good ∧ Cond.code yX5_append cX5_append 3 none ∈ lw_good ∧ yX5_append.cls ≠ "java/lang/invoke/MethodHandle" ∧ yX5_append.cls ≠ "java/lang/invoke/VarHandle" ∧ (parseMethodDescriptor yX5_append.desc).map (fun d => d.parameters.length) = some 2 := ⟨lw_gi 642 (by decide +kernel) rfl, lw_gi 643 (by decide +kernel) rfl, lw_gi 9 (by decide +kernel) rfl, lw_gi 644 (by decide +kernel) rfl, by decide +kernel, by decide +kernel, by decide +kernel⟩
theorem mw_X8_forget : Cond.instanceMethod yX8_forget ∈ lw_good ∧ Cond.selects yX8_forget.cls yX8_forget yX8_forget ∈ lw_good ∧ Cond.initialized yX8_forget.cls ∈ lw_good ∧ Cond.code yX8_forget cX8_forget 2 (some .int) ∈ lw_good ∧ yX8_forget.cls ≠ "java/lang/invoke/MethodHandle" ∧ yX8_forget.cls ≠ "java/lang/invoke/VarHandle" ∧ (parseMethodDescriptor yX8_forget.desc).map (fun d => d.parameters.length) = some 0 := ⟨lw_gi 646 (by decide +kernel) rfl, lw_gi 647 (by decide +kernel) rfl, lw_gi 1 (by decide +kernel) rfl, lw_gi 648 (by decide +kernel) rfl, by decide +kernel, by decide +kernel, by decide +kernel⟩
theorem mw_X8_which : Cond.instanceMethod yX8_which ∈ lw_good ∧ Cond.selects yX8_which.cls yX8_which yX8_which ∈ lw_good ∧ Cond.initialized yX8_which.cls ∈ lw_good ∧ Cond.code yX8_which cX8_which 2 (some .int) ∈ lw_good ∧ yX8_which.cls ≠ "java/lang/invoke/MethodHandle" ∧ yX8_which.cls ≠ "java/lang/invoke/VarHandle" ∧ (parseMethodDescriptor yX8_which.desc).map (fun d => d.parameters.length) = some 1 := ⟨lw_gi 650 (by decide +kernel) rfl, lw_gi 651 (by decide +kernel) rfl, lw_gi 1 (by decide +kernel) rfl, lw_gi 652 (by decide +kernel) rfl, by decide +kernel, by decide +kernel, by decide +kernel⟩
theorem mw_X5_agreeWith : Cond.instanceMethod yX5_agreeWith ∈ lw_good ∧ Cond.selects yX5_agreeWith.cls yX5_agreeWith yX5_agreeWith ∈ lw_good ∧ Cond.initialized yX5_agreeWith.cls ∈ lw_good ∧ Cond.code yX5_agreeWith cX5_agreeWith 3 (some .boolean) ∈ lw_good ∧ yX5_agreeWith.cls ≠ "java/lang/invoke/MethodHandle" ∧ yX5_agreeWith.cls ≠ "java/lang/invoke/VarHandle" ∧ (parseMethodDescriptor yX5_agreeWith.desc).map (fun d => d.parameters.length) = some 1 := ⟨lw_gi 654 (by decide +kernel) rfl, lw_gi 655 (by decide +kernel) rfl, lw_gi 9 (by decide +kernel) rfl, lw_gi 656 (by decide +kernel) rfl, by decide +kernel, by decide +kernel, by decide +kernel⟩
theorem mw_X8_findSuspects : Cond.instanceMethod yX8_findSuspects ∈ lw_good ∧ Cond.selects yX8_findSuspects.cls yX8_findSuspects yX8_findSuspects ∈ lw_good ∧ Cond.initialized yX8_findSuspects.cls ∈ lw_good ∧ Cond.code yX8_findSuspects cX8_findSuspects 3 none ∈ lw_good ∧ yX8_findSuspects.cls ≠ "java/lang/invoke/MethodHandle" ∧ yX8_findSuspects.cls ≠ "java/lang/invoke/VarHandle" ∧ (parseMethodDescriptor yX8_findSuspects.desc).map (fun d => d.parameters.length) = some 0 := ⟨lw_gi 660 (by decide +kernel) rfl, lw_gs 15 (by decide +kernel) rfl, lw_gi 1 (by decide +kernel) rfl, lw_gi 661 (by decide +kernel) rfl, by decide +kernel, by decide +kernel, by decide +kernel⟩
theorem mw_X6_append : Cond.instanceMethod yX6_append ∈ lw_good ∧ Cond.selects yX6_append.cls yX6_append yX6_append ∈ lw_good ∧ Cond.initialized yX6_append.cls ∈ lw_good ∧ Cond.code yX6_append cX6_append 4 none ∈ lw_good ∧ yX6_append.cls ≠ "java/lang/invoke/MethodHandle" ∧ yX6_append.cls ≠ "java/lang/invoke/VarHandle" ∧ (parseMethodDescriptor yX6_append.desc).map (fun d => d.parameters.length) = some 2 := ⟨lw_gi 664 (by decide +kernel) rfl, lw_gi 665 (by decide +kernel) rfl, lw_gi 10 (by decide +kernel) rfl, lw_gi 666 (by decide +kernel) rfl, by decide +kernel, by decide +kernel, by decide +kernel⟩
theorem mw_X8_ask : Cond.instanceMethod yX8_ask ∈ lw_good ∧ Cond.selects yX8_ask.cls yX8_ask yX8_ask ∈ lw_good ∧ Cond.initialized yX8_ask.cls ∈ lw_good ∧ Cond.code yX8_ask cX8_ask 1 (some .int) ∈ lw_good ∧ yX8_ask.cls ≠ "java/lang/invoke/MethodHandle" ∧ yX8_ask.cls ≠ "java/lang/invoke/VarHandle" ∧ (parseMethodDescriptor yX8_ask.desc).map (fun d => d.parameters.length) = some 0 := ⟨lw_gi 669 (by decide +kernel) rfl, lw_gi 670 (by decide +kernel) rfl, lw_gi 1 (by decide +kernel) rfl, lw_gi 671 (by decide +kernel) rfl, by decide +kernel, by decide +kernel, by decide +kernel⟩
theorem mw_X6_bestLook : Cond.instanceMethod yX6_bestLook ∈ lw_good ∧ Cond.selects yX6_bestLook.cls yX6_bestLook yX6_bestLook ∈ lw_good ∧ Cond.initialized yX6_bestLook.cls ∈ lw_good ∧ Cond.code yX6_bestLook cX6_bestLook 5 (some .int) ∈ lw_good ∧ yX6_bestLook.cls ≠ "java/lang/invoke/MethodHandle" ∧ yX6_bestLook.cls ≠ "java/lang/invoke/VarHandle" ∧ (parseMethodDescriptor yX6_bestLook.desc).map (fun d => d.parameters.length) = some 0 := ⟨lw_gi 673 (by decide +kernel) rfl, lw_gi 674 (by decide +kernel) rfl, lw_gi 10 (by decide +kernel) rfl, lw_gi 675 (by decide +kernel) rfl, by decide +kernel, by decide +kernel, by decide +kernel⟩
theorem mw_X6_mostAlike : Cond.instanceMethod yX6_mostAlike ∈ lw_good ∧ Cond.selects yX6_mostAlike.cls yX6_mostAlike yX6_mostAlike ∈ lw_good ∧ Cond.initialized yX6_mostAlike.cls ∈ lw_good ∧ Cond.code yX6_mostAlike cX6_mostAlike 4 (some .int) ∈ lw_good ∧ yX6_mostAlike.cls ≠ "java/lang/invoke/MethodHandle" ∧ yX6_mostAlike.cls ≠ "java/lang/invoke/VarHandle" ∧ (parseMethodDescriptor yX6_mostAlike.desc).map (fun d => d.parameters.length) = some 1 := ⟨lw_gi 678 (by decide +kernel) rfl, lw_gs 16 (by decide +kernel) rfl, lw_gi 10 (by decide +kernel) rfl, lw_gi 679 (by decide +kernel) rfl, by decide +kernel, by decide +kernel, by decide +kernel⟩
theorem mw_X6_alikeWith : Cond.instanceMethod yX6_alikeWith ∈ lw_good ∧ Cond.selects yX6_alikeWith.cls yX6_alikeWith yX6_alikeWith ∈ lw_good ∧ Cond.initialized yX6_alikeWith.cls ∈ lw_good ∧ Cond.code yX6_alikeWith cX6_alikeWith 5 (some .int) ∈ lw_good ∧ yX6_alikeWith.cls ≠ "java/lang/invoke/MethodHandle" ∧ yX6_alikeWith.cls ≠ "java/lang/invoke/VarHandle" ∧ (parseMethodDescriptor yX6_alikeWith.desc).map (fun d => d.parameters.length) = some 2 := ⟨lw_gi 682 (by decide +kernel) rfl, lw_gs 17 (by decide +kernel) rfl, lw_gi 10 (by decide +kernel) rfl, lw_gi 683 (by decide +kernel) rfl, by decide +kernel, by decide +kernel, by decide +kernel⟩
theorem mw_J9_max_7cf53 : Cond.static yJ9_max_7cf53 ∈ lw_good ∧ Cond.initialized yJ9_max_7cf53.cls ∈ lw_good ∧ Cond.code yJ9_max_7cf53 cJ9_max_7cf53 2 (some .int) ∈ lw_good ∧ yJ9_max_7cf53.cls ≠ "java/lang/invoke/MethodHandle" ∧ yJ9_max_7cf53.cls ≠ "java/lang/invoke/VarHandle" ∧ (parseMethodDescriptor yJ9_max_7cf53.desc).map (fun d => d.parameters.length) = some 2 := ⟨lw_gi 685 (by decide +kernel) rfl, lw_gi 12 (by decide +kernel) rfl, lw_gi 686 (by decide +kernel) rfl, by decide +kernel, by decide +kernel, by decide +kernel⟩
theorem mw_X8_keep : Cond.instanceMethod yX8_keep ∈ lw_good ∧ Cond.selects yX8_keep.cls yX8_keep yX8_keep ∈ lw_good ∧ Cond.initialized yX8_keep.cls ∈ lw_good ∧ Cond.code yX8_keep cX8_keep 2 (some .int) ∈ lw_good ∧ yX8_keep.cls ≠ "java/lang/invoke/MethodHandle" ∧ yX8_keep.cls ≠ "java/lang/invoke/VarHandle" ∧ (parseMethodDescriptor yX8_keep.desc).map (fun d => d.parameters.length) = some 1 := ⟨lw_gi 688 (by decide +kernel) rfl, lw_gi 689 (by decide +kernel) rfl, lw_gi 1 (by decide +kernel) rfl, lw_gi 690 (by decide +kernel) rfl, by decide +kernel, by decide +kernel, by decide +kernel⟩
theorem mw_X8_back : Cond.instanceMethod yX8_back ∈ lw_good ∧ Cond.selects yX8_back.cls yX8_back yX8_back ∈ lw_good ∧ Cond.initialized yX8_back.cls ∈ lw_good ∧ Cond.code yX8_back cX8_back 2 (some .int) ∈ lw_good ∧ yX8_back.cls ≠ "java/lang/invoke/MethodHandle" ∧ yX8_back.cls ≠ "java/lang/invoke/VarHandle" ∧ (parseMethodDescriptor yX8_back.desc).map (fun d => d.parameters.length) = some 1 := ⟨lw_gi 692 (by decide +kernel) rfl, lw_gi 693 (by decide +kernel) rfl, lw_gi 1 (by decide +kernel) rfl, lw_gi 694 (by decide +kernel) rfl, by decide +kernel, by decide +kernel, by decide +kernel⟩
theorem mw_X8_count : Cond.instanceMethod yX8_count ∈ lw_good ∧ Cond.selects yX8_count.cls yX8_count yX8_count ∈ lw_good ∧ Cond.initialized yX8_count.cls ∈ lw_good ∧ Cond.code yX8_count cX8_count 2 (some .int) ∈ lw_good ∧ yX8_count.cls ≠ "java/lang/invoke/MethodHandle" ∧ yX8_count.cls ≠ "java/lang/invoke/VarHandle" ∧ (parseMethodDescriptor yX8_count.desc).map (fun d => d.parameters.length) = some 1 := ⟨lw_gi 696 (by decide +kernel) rfl, lw_gi 697 (by decide +kernel) rfl, lw_gi 1 (by decide +kernel) rfl, lw_gi 698 (by decide +kernel) rfl, by decide +kernel, by decide +kernel, by decide +kernel⟩
theorem mw_X3_spread : Cond.instanceMethod yX3_spread ∈ lw_good ∧ Cond.selects yX3_spread.cls yX3_spread yX3_spread ∈ lw_good ∧ Cond.initialized yX3_spread.cls ∈ lw_good ∧ Cond.code yX3_spread cX3_spread 4 (some .int) ∈ lw_good ∧ yX3_spread.cls ≠ "java/lang/invoke/MethodHandle" ∧ yX3_spread.cls ≠ "java/lang/invoke/VarHandle" ∧ (parseMethodDescriptor yX3_spread.desc).map (fun d => d.parameters.length) = some 0 := ⟨lw_gi 700 (by decide +kernel) rfl, lw_gi 701 (by decide +kernel) rfl, lw_gi 2 (by decide +kernel) rfl, lw_gi 702 (by decide +kernel) rfl, by decide +kernel, by decide +kernel, by decide +kernel⟩
theorem mw_X9_init : Cond.instanceMethod yX9_init ∈ lw_good ∧ Cond.initialized yX9_init.cls ∈ lw_good ∧ Cond.code yX9_init cX9_init 1 none ∈ lw_good ∧ yX9_init.cls ≠ "java/lang/invoke/MethodHandle" ∧ yX9_init.cls ≠ "java/lang/invoke/VarHandle" ∧ (parseMethodDescriptor yX9_init.desc).map (fun d => d.parameters.length) = some 0 := ⟨lw_gi 709 (by decide +kernel) rfl, lw_gi 11 (by decide +kernel) rfl, lw_gi 710 (by decide +kernel) rfl, by decide +kernel, by decide +kernel, by decide +kernel⟩
theorem mw_X9_beginRead : Cond.instanceMethod yX9_beginRead ∈ lw_good ∧ Cond.selects yX9_beginRead.cls yX9_beginRead yX9_beginRead ∈ lw_good ∧ Cond.initialized yX9_beginRead.cls ∈ lw_good ∧ Cond.code yX9_beginRead cX9_beginRead 2 none ∈ lw_good ∧ yX9_beginRead.cls ≠ "java/lang/invoke/MethodHandle" ∧ yX9_beginRead.cls ≠ "java/lang/invoke/VarHandle" ∧ (parseMethodDescriptor yX9_beginRead.desc).map (fun d => d.parameters.length) = some 0 := ⟨lw_gi 714 (by decide +kernel) rfl, lw_gs 18 (by decide +kernel) rfl, lw_gi 11 (by decide +kernel) rfl, lw_gi 715 (by decide +kernel) rfl, by decide +kernel, by decide +kernel, by decide +kernel⟩
theorem mw_X9_bring : Cond.static yX9_bring ∈ lw_good ∧ Cond.initialized yX9_bring.cls ∈ lw_good ∧ Cond.code yX9_bring cX9_bring 5 none ∈ lw_good ∧ yX9_bring.cls ≠ "java/lang/invoke/MethodHandle" ∧ yX9_bring.cls ≠ "java/lang/invoke/VarHandle" ∧ (parseMethodDescriptor yX9_bring.desc).map (fun d => d.parameters.length) = some 4 := ⟨lw_gi 717 (by decide +kernel) rfl, lw_gi 11 (by decide +kernel) rfl, lw_gi 718 (by decide +kernel) rfl, by decide +kernel, by decide +kernel, by decide +kernel⟩
theorem mw_X9_type : Cond.instanceMethod yX9_type ∈ lw_good ∧ Cond.selects yX9_type.cls yX9_type yX9_type ∈ lw_good ∧ Cond.initialized yX9_type.cls ∈ lw_good ∧ Cond.code yX9_type cX9_type 2 (some .int) ∈ lw_good ∧ yX9_type.cls ≠ "java/lang/invoke/MethodHandle" ∧ yX9_type.cls ≠ "java/lang/invoke/VarHandle" ∧ (parseMethodDescriptor yX9_type.desc).map (fun d => d.parameters.length) = some 1 := ⟨lw_gi 790 (by decide +kernel) rfl, lw_gi 791 (by decide +kernel) rfl, lw_gi 11 (by decide +kernel) rfl, lw_gi 792 (by decide +kernel) rfl, by decide +kernel, by decide +kernel, by decide +kernel⟩
theorem mw_X9_in : Cond.static yX9_in ∈ lw_good ∧ Cond.initialized yX9_in.cls ∈ lw_good ∧ Cond.code yX9_in cX9_in 3 (some .boolean) ∈ lw_good ∧ yX9_in.cls ≠ "java/lang/invoke/MethodHandle" ∧ yX9_in.cls ≠ "java/lang/invoke/VarHandle" ∧ (parseMethodDescriptor yX9_in.desc).map (fun d => d.parameters.length) = some 3 := ⟨lw_gi 794 (by decide +kernel) rfl, lw_gi 11 (by decide +kernel) rfl, lw_gi 795 (by decide +kernel) rfl, by decide +kernel, by decide +kernel, by decide +kernel⟩
theorem mw_X9_clear : Cond.instanceMethod yX9_clear ∈ lw_good ∧ Cond.selects yX9_clear.cls yX9_clear yX9_clear ∈ lw_good ∧ Cond.initialized yX9_clear.cls ∈ lw_good ∧ Cond.code yX9_clear cX9_clear 2 (some .int) ∈ lw_good ∧ yX9_clear.cls ≠ "java/lang/invoke/MethodHandle" ∧ yX9_clear.cls ≠ "java/lang/invoke/VarHandle" ∧ (parseMethodDescriptor yX9_clear.desc).map (fun d => d.parameters.length) = some 0 := ⟨lw_gi 797 (by decide +kernel) rfl, lw_gi 798 (by decide +kernel) rfl, lw_gi 11 (by decide +kernel) rfl, lw_gi 799 (by decide +kernel) rfl, by decide +kernel, by decide +kernel, by decide +kernel⟩
theorem mw_X9_wires : Cond.instanceMethod yX9_wires ∈ lw_good ∧ Cond.selects yX9_wires.cls yX9_wires yX9_wires ∈ lw_good ∧ Cond.initialized yX9_wires.cls ∈ lw_good ∧ Cond.code yX9_wires cX9_wires 2 (some .int) ∈ lw_good ∧ yX9_wires.cls ≠ "java/lang/invoke/MethodHandle" ∧ yX9_wires.cls ≠ "java/lang/invoke/VarHandle" ∧ (parseMethodDescriptor yX9_wires.desc).map (fun d => d.parameters.length) = some 0 := ⟨lw_gi 801 (by decide +kernel) rfl, lw_gi 802 (by decide +kernel) rfl, lw_gi 11 (by decide +kernel) rfl, lw_gi 803 (by decide +kernel) rfl, by decide +kernel, by decide +kernel, by decide +kernel⟩
theorem mw_X9_readWire : Cond.instanceMethod yX9_readWire ∈ lw_good ∧ Cond.selects yX9_readWire.cls yX9_readWire yX9_readWire ∈ lw_good ∧ Cond.initialized yX9_readWire.cls ∈ lw_good ∧ Cond.code yX9_readWire cX9_readWire 2 (some .int) ∈ lw_good ∧ yX9_readWire.cls ≠ "java/lang/invoke/MethodHandle" ∧ yX9_readWire.cls ≠ "java/lang/invoke/VarHandle" ∧ (parseMethodDescriptor yX9_readWire.desc).map (fun d => d.parameters.length) = some 0 := ⟨lw_gi 806 (by decide +kernel) rfl, lw_gs 19 (by decide +kernel) rfl, lw_gi 11 (by decide +kernel) rfl, lw_gi 807 (by decide +kernel) rfl, by decide +kernel, by decide +kernel, by decide +kernel⟩
theorem mw_X9_scan : Cond.instanceMethod yX9_scan ∈ lw_good ∧ Cond.selects yX9_scan.cls yX9_scan yX9_scan ∈ lw_good ∧ Cond.initialized yX9_scan.cls ∈ lw_good ∧ Cond.code yX9_scan cX9_scan 2 none ∈ lw_good ∧ yX9_scan.cls ≠ "java/lang/invoke/MethodHandle" ∧ yX9_scan.cls ≠ "java/lang/invoke/VarHandle" ∧ (parseMethodDescriptor yX9_scan.desc).map (fun d => d.parameters.length) = some 0 := ⟨lw_gi 810 (by decide +kernel) rfl, lw_gs 20 (by decide +kernel) rfl, lw_gi 11 (by decide +kernel) rfl, lw_gi 811 (by decide +kernel) rfl, by decide +kernel, by decide +kernel, by decide +kernel⟩
theorem mw_X9_isLetter : Cond.static yX9_isLetter ∈ lw_good ∧ Cond.initialized yX9_isLetter.cls ∈ lw_good ∧ Cond.code yX9_isLetter cX9_isLetter 1 (some .boolean) ∈ lw_good ∧ yX9_isLetter.cls ≠ "java/lang/invoke/MethodHandle" ∧ yX9_isLetter.cls ≠ "java/lang/invoke/VarHandle" ∧ (parseMethodDescriptor yX9_isLetter.desc).map (fun d => d.parameters.length) = some 1 := ⟨lw_gi 813 (by decide +kernel) rfl, lw_gi 11 (by decide +kernel) rfl, lw_gi 814 (by decide +kernel) rfl, by decide +kernel, by decide +kernel, by decide +kernel⟩
theorem mw_X9_readDrive : Cond.instanceMethod yX9_readDrive ∈ lw_good ∧ Cond.selects yX9_readDrive.cls yX9_readDrive yX9_readDrive ∈ lw_good ∧ Cond.initialized yX9_readDrive.cls ∈ lw_good ∧ Cond.code yX9_readDrive cX9_readDrive 2 (some .boolean) ∈ lw_good ∧ yX9_readDrive.cls ≠ "java/lang/invoke/MethodHandle" ∧ yX9_readDrive.cls ≠ "java/lang/invoke/VarHandle" ∧ (parseMethodDescriptor yX9_readDrive.desc).map (fun d => d.parameters.length) = some 0 := ⟨lw_gi 817 (by decide +kernel) rfl, lw_gs 21 (by decide +kernel) rfl, lw_gi 11 (by decide +kernel) rfl, lw_gi 818 (by decide +kernel) rfl, by decide +kernel, by decide +kernel, by decide +kernel⟩
theorem mw_X9_scanNumber : Cond.instanceMethod yX9_scanNumber ∈ lw_good ∧ Cond.selects yX9_scanNumber.cls yX9_scanNumber yX9_scanNumber ∈ lw_good ∧ Cond.initialized yX9_scanNumber.cls ∈ lw_good ∧ Cond.code yX9_scanNumber cX9_scanNumber 3 (some .boolean) ∈ lw_good ∧ yX9_scanNumber.cls ≠ "java/lang/invoke/MethodHandle" ∧ yX9_scanNumber.cls ≠ "java/lang/invoke/VarHandle" ∧ (parseMethodDescriptor yX9_scanNumber.desc).map (fun d => d.parameters.length) = some 2 := ⟨lw_gi 821 (by decide +kernel) rfl, lw_gs 22 (by decide +kernel) rfl, lw_gi 11 (by decide +kernel) rfl, lw_gi 822 (by decide +kernel) rfl, by decide +kernel, by decide +kernel, by decide +kernel⟩
theorem mw_X9_scanEnd : Cond.instanceMethod yX9_scanEnd ∈ lw_good ∧ Cond.selects yX9_scanEnd.cls yX9_scanEnd yX9_scanEnd ∈ lw_good ∧ Cond.initialized yX9_scanEnd.cls ∈ lw_good ∧ Cond.code yX9_scanEnd cX9_scanEnd 1 (some .boolean) ∈ lw_good ∧ yX9_scanEnd.cls ≠ "java/lang/invoke/MethodHandle" ∧ yX9_scanEnd.cls ≠ "java/lang/invoke/VarHandle" ∧ (parseMethodDescriptor yX9_scanEnd.desc).map (fun d => d.parameters.length) = some 0 := ⟨lw_gi 825 (by decide +kernel) rfl, lw_gs 23 (by decide +kernel) rfl, lw_gi 11 (by decide +kernel) rfl, lw_gi 826 (by decide +kernel) rfl, by decide +kernel, by decide +kernel, by decide +kernel⟩
theorem mw_X9_readLast : Cond.instanceMethod yX9_readLast ∈ lw_good ∧ Cond.selects yX9_readLast.cls yX9_readLast yX9_readLast ∈ lw_good ∧ Cond.initialized yX9_readLast.cls ∈ lw_good ∧ Cond.code yX9_readLast cX9_readLast 1 (some .boolean) ∈ lw_good ∧ yX9_readLast.cls ≠ "java/lang/invoke/MethodHandle" ∧ yX9_readLast.cls ≠ "java/lang/invoke/VarHandle" ∧ (parseMethodDescriptor yX9_readLast.desc).map (fun d => d.parameters.length) = some 0 := ⟨lw_gi 829 (by decide +kernel) rfl, lw_gs 24 (by decide +kernel) rfl, lw_gi 11 (by decide +kernel) rfl, lw_gi 830 (by decide +kernel) rfl, by decide +kernel, by decide +kernel, by decide +kernel⟩
theorem mw_X9_readLimit : Cond.instanceMethod yX9_readLimit ∈ lw_good ∧ Cond.selects yX9_readLimit.cls yX9_readLimit yX9_readLimit ∈ lw_good ∧ Cond.initialized yX9_readLimit.cls ∈ lw_good ∧ Cond.code yX9_readLimit cX9_readLimit 1 (some .boolean) ∈ lw_good ∧ yX9_readLimit.cls ≠ "java/lang/invoke/MethodHandle" ∧ yX9_readLimit.cls ≠ "java/lang/invoke/VarHandle" ∧ (parseMethodDescriptor yX9_readLimit.desc).map (fun d => d.parameters.length) = some 0 := ⟨lw_gi 833 (by decide +kernel) rfl, lw_gs 25 (by decide +kernel) rfl, lw_gi 11 (by decide +kernel) rfl, lw_gi 834 (by decide +kernel) rfl, by decide +kernel, by decide +kernel, by decide +kernel⟩
theorem mw_X9_note : Cond.instanceMethod yX9_note ∈ lw_good ∧ Cond.selects yX9_note.cls yX9_note yX9_note ∈ lw_good ∧ Cond.initialized yX9_note.cls ∈ lw_good ∧ Cond.code yX9_note cX9_note 2 none ∈ lw_good ∧ yX9_note.cls ≠ "java/lang/invoke/MethodHandle" ∧ yX9_note.cls ≠ "java/lang/invoke/VarHandle" ∧ (parseMethodDescriptor yX9_note.desc).map (fun d => d.parameters.length) = some 0 := ⟨lw_gi 837 (by decide +kernel) rfl, lw_gs 26 (by decide +kernel) rfl, lw_gi 11 (by decide +kernel) rfl, lw_gi 838 (by decide +kernel) rfl, by decide +kernel, by decide +kernel, by decide +kernel⟩
theorem mw_X9_frames : Cond.instanceMethod yX9_frames ∈ lw_good ∧ Cond.selects yX9_frames.cls yX9_frames yX9_frames ∈ lw_good ∧ Cond.initialized yX9_frames.cls ∈ lw_good ∧ Cond.code yX9_frames cX9_frames 3 (some .int) ∈ lw_good ∧ yX9_frames.cls ≠ "java/lang/invoke/MethodHandle" ∧ yX9_frames.cls ≠ "java/lang/invoke/VarHandle" ∧ (parseMethodDescriptor yX9_frames.desc).map (fun d => d.parameters.length) = some 0 := ⟨lw_gi 840 (by decide +kernel) rfl, lw_gi 841 (by decide +kernel) rfl, lw_gi 11 (by decide +kernel) rfl, lw_gi 842 (by decide +kernel) rfl, by decide +kernel, by decide +kernel, by decide +kernel⟩
theorem mw_X9_readFrame : Cond.instanceMethod yX9_readFrame ∈ lw_good ∧ Cond.selects yX9_readFrame.cls yX9_readFrame yX9_readFrame ∈ lw_good ∧ Cond.initialized yX9_readFrame.cls ∈ lw_good ∧ Cond.code yX9_readFrame cX9_readFrame 1 (some .int) ∈ lw_good ∧ yX9_readFrame.cls ≠ "java/lang/invoke/MethodHandle" ∧ yX9_readFrame.cls ≠ "java/lang/invoke/VarHandle" ∧ (parseMethodDescriptor yX9_readFrame.desc).map (fun d => d.parameters.length) = some 0 := ⟨lw_gi 845 (by decide +kernel) rfl, lw_gs 27 (by decide +kernel) rfl, lw_gi 11 (by decide +kernel) rfl, lw_gi 846 (by decide +kernel) rfl, by decide +kernel, by decide +kernel, by decide +kernel⟩
theorem mw_X9_readOrder : Cond.instanceMethod yX9_readOrder ∈ lw_good ∧ Cond.selects yX9_readOrder.cls yX9_readOrder yX9_readOrder ∈ lw_good ∧ Cond.initialized yX9_readOrder.cls ∈ lw_good ∧ Cond.code yX9_readOrder cX9_readOrder 2 (some .boolean) ∈ lw_good ∧ yX9_readOrder.cls ≠ "java/lang/invoke/MethodHandle" ∧ yX9_readOrder.cls ≠ "java/lang/invoke/VarHandle" ∧ (parseMethodDescriptor yX9_readOrder.desc).map (fun d => d.parameters.length) = some 0 := ⟨lw_gi 849 (by decide +kernel) rfl, lw_gs 28 (by decide +kernel) rfl, lw_gi 11 (by decide +kernel) rfl, lw_gi 850 (by decide +kernel) rfl, by decide +kernel, by decide +kernel, by decide +kernel⟩
theorem mw_X9_undo : Cond.instanceMethod yX9_undo ∈ lw_good ∧ Cond.selects yX9_undo.cls yX9_undo yX9_undo ∈ lw_good ∧ Cond.initialized yX9_undo.cls ∈ lw_good ∧ Cond.code yX9_undo cX9_undo 1 (some .int) ∈ lw_good ∧ yX9_undo.cls ≠ "java/lang/invoke/MethodHandle" ∧ yX9_undo.cls ≠ "java/lang/invoke/VarHandle" ∧ (parseMethodDescriptor yX9_undo.desc).map (fun d => d.parameters.length) = some 0 := ⟨lw_gi 852 (by decide +kernel) rfl, lw_gi 853 (by decide +kernel) rfl, lw_gi 11 (by decide +kernel) rfl, lw_gi 854 (by decide +kernel) rfl, by decide +kernel, by decide +kernel, by decide +kernel⟩
theorem mw_X9_cuts : Cond.instanceMethod yX9_cuts ∈ lw_good ∧ Cond.selects yX9_cuts.cls yX9_cuts yX9_cuts ∈ lw_good ∧ Cond.initialized yX9_cuts.cls ∈ lw_good ∧ Cond.code yX9_cuts cX9_cuts 2 (some .int) ∈ lw_good ∧ yX9_cuts.cls ≠ "java/lang/invoke/MethodHandle" ∧ yX9_cuts.cls ≠ "java/lang/invoke/VarHandle" ∧ (parseMethodDescriptor yX9_cuts.desc).map (fun d => d.parameters.length) = some 1 := ⟨lw_gi 856 (by decide +kernel) rfl, lw_gi 857 (by decide +kernel) rfl, lw_gi 11 (by decide +kernel) rfl, lw_gi 858 (by decide +kernel) rfl, by decide +kernel, by decide +kernel, by decide +kernel⟩
theorem mw_X9_isLink : Cond.instanceMethod yX9_isLink ∈ lw_good ∧ Cond.selects yX9_isLink.cls yX9_isLink yX9_isLink ∈ lw_good ∧ Cond.initialized yX9_isLink.cls ∈ lw_good ∧ Cond.code yX9_isLink cX9_isLink 2 (some .boolean) ∈ lw_good ∧ yX9_isLink.cls ≠ "java/lang/invoke/MethodHandle" ∧ yX9_isLink.cls ≠ "java/lang/invoke/VarHandle" ∧ (parseMethodDescriptor yX9_isLink.desc).map (fun d => d.parameters.length) = some 1 := ⟨lw_gi 861 (by decide +kernel) rfl, lw_gs 29 (by decide +kernel) rfl, lw_gi 11 (by decide +kernel) rfl, lw_gi 862 (by decide +kernel) rfl, by decide +kernel, by decide +kernel, by decide +kernel⟩
theorem mw_X9_links : Cond.instanceMethod yX9_links ∈ lw_good ∧ Cond.selects yX9_links.cls yX9_links yX9_links ∈ lw_good ∧ Cond.initialized yX9_links.cls ∈ lw_good ∧ Cond.code yX9_links cX9_links 1 (some .int) ∈ lw_good ∧ yX9_links.cls ≠ "java/lang/invoke/MethodHandle" ∧ yX9_links.cls ≠ "java/lang/invoke/VarHandle" ∧ (parseMethodDescriptor yX9_links.desc).map (fun d => d.parameters.length) = some 0 := ⟨lw_gi 865 (by decide +kernel) rfl, lw_gs 30 (by decide +kernel) rfl, lw_gi 11 (by decide +kernel) rfl, lw_gi 866 (by decide +kernel) rfl, by decide +kernel, by decide +kernel, by decide +kernel⟩
theorem mw_X9_has : Cond.static yX9_has ∈ lw_good ∧ Cond.initialized yX9_has.cls ∈ lw_good ∧ Cond.code yX9_has cX9_has 2 (some .boolean) ∈ lw_good ∧ yX9_has.cls ≠ "java/lang/invoke/MethodHandle" ∧ yX9_has.cls ≠ "java/lang/invoke/VarHandle" ∧ (parseMethodDescriptor yX9_has.desc).map (fun d => d.parameters.length) = some 2 := ⟨lw_gi 868 (by decide +kernel) rfl, lw_gi 11 (by decide +kernel) rfl, lw_gi 869 (by decide +kernel) rfl, by decide +kernel, by decide +kernel, by decide +kernel⟩
theorem mw_X9_ones : Cond.static yX9_ones ∈ lw_good ∧ Cond.initialized yX9_ones.cls ∈ lw_good ∧ Cond.code yX9_ones cX9_ones 3 (some .int) ∈ lw_good ∧ yX9_ones.cls ≠ "java/lang/invoke/MethodHandle" ∧ yX9_ones.cls ≠ "java/lang/invoke/VarHandle" ∧ (parseMethodDescriptor yX9_ones.desc).map (fun d => d.parameters.length) = some 1 := ⟨lw_gi 871 (by decide +kernel) rfl, lw_gi 11 (by decide +kernel) rfl, lw_gi 872 (by decide +kernel) rfl, by decide +kernel, by decide +kernel, by decide +kernel⟩
theorem mw_X9_heals : Cond.instanceMethod yX9_heals ∈ lw_good ∧ Cond.selects yX9_heals.cls yX9_heals yX9_heals ∈ lw_good ∧ Cond.initialized yX9_heals.cls ∈ lw_good ∧ Cond.code yX9_heals cX9_heals 2 (some .int) ∈ lw_good ∧ yX9_heals.cls ≠ "java/lang/invoke/MethodHandle" ∧ yX9_heals.cls ≠ "java/lang/invoke/VarHandle" ∧ (parseMethodDescriptor yX9_heals.desc).map (fun d => d.parameters.length) = some 1 := ⟨lw_gi 874 (by decide +kernel) rfl, lw_gi 875 (by decide +kernel) rfl, lw_gi 11 (by decide +kernel) rfl, lw_gi 876 (by decide +kernel) rfl, by decide +kernel, by decide +kernel, by decide +kernel⟩
theorem mw_X9_cycles : Cond.instanceMethod yX9_cycles ∈ lw_good ∧ Cond.selects yX9_cycles.cls yX9_cycles yX9_cycles ∈ lw_good ∧ Cond.initialized yX9_cycles.cls ∈ lw_good ∧ Cond.code yX9_cycles cX9_cycles 3 (some .int) ∈ lw_good ∧ yX9_cycles.cls ≠ "java/lang/invoke/MethodHandle" ∧ yX9_cycles.cls ≠ "java/lang/invoke/VarHandle" ∧ (parseMethodDescriptor yX9_cycles.desc).map (fun d => d.parameters.length) = some 1 := ⟨lw_gi 878 (by decide +kernel) rfl, lw_gi 879 (by decide +kernel) rfl, lw_gi 11 (by decide +kernel) rfl, lw_gi 880 (by decide +kernel) rfl, by decide +kernel, by decide +kernel, by decide +kernel⟩
theorem mw_X9_cycleOnce : Cond.instanceMethod yX9_cycleOnce ∈ lw_good ∧ Cond.selects yX9_cycleOnce.cls yX9_cycleOnce yX9_cycleOnce ∈ lw_good ∧ Cond.initialized yX9_cycleOnce.cls ∈ lw_good ∧ Cond.code yX9_cycleOnce cX9_cycleOnce 4 none ∈ lw_good ∧ yX9_cycleOnce.cls ≠ "java/lang/invoke/MethodHandle" ∧ yX9_cycleOnce.cls ≠ "java/lang/invoke/VarHandle" ∧ (parseMethodDescriptor yX9_cycleOnce.desc).map (fun d => d.parameters.length) = some 0 := ⟨lw_gi 883 (by decide +kernel) rfl, lw_gs 31 (by decide +kernel) rfl, lw_gi 11 (by decide +kernel) rfl, lw_gi 884 (by decide +kernel) rfl, by decide +kernel, by decide +kernel, by decide +kernel⟩
theorem mw_X9_beginCopies : Cond.instanceMethod yX9_beginCopies ∈ lw_good ∧ Cond.selects yX9_beginCopies.cls yX9_beginCopies yX9_beginCopies ∈ lw_good ∧ Cond.initialized yX9_beginCopies.cls ∈ lw_good ∧ Cond.code yX9_beginCopies cX9_beginCopies 2 none ∈ lw_good ∧ yX9_beginCopies.cls ≠ "java/lang/invoke/MethodHandle" ∧ yX9_beginCopies.cls ≠ "java/lang/invoke/VarHandle" ∧ (parseMethodDescriptor yX9_beginCopies.desc).map (fun d => d.parameters.length) = some 0 := ⟨lw_gi 887 (by decide +kernel) rfl, lw_gs 32 (by decide +kernel) rfl, lw_gi 11 (by decide +kernel) rfl, lw_gi 888 (by decide +kernel) rfl, by decide +kernel, by decide +kernel, by decide +kernel⟩
theorem mw_X9_send : Cond.instanceMethod yX9_send ∈ lw_good ∧ Cond.selects yX9_send.cls yX9_send yX9_send ∈ lw_good ∧ Cond.initialized yX9_send.cls ∈ lw_good ∧ Cond.code yX9_send cX9_send 2 none ∈ lw_good ∧ yX9_send.cls ≠ "java/lang/invoke/MethodHandle" ∧ yX9_send.cls ≠ "java/lang/invoke/VarHandle" ∧ (parseMethodDescriptor yX9_send.desc).map (fun d => d.parameters.length) = some 1 := ⟨lw_gi 891 (by decide +kernel) rfl, lw_gs 33 (by decide +kernel) rfl, lw_gi 11 (by decide +kernel) rfl, lw_gi 892 (by decide +kernel) rfl, by decide +kernel, by decide +kernel, by decide +kernel⟩
theorem mw_X9_lastOfA : Cond.instanceMethod yX9_lastOfA ∈ lw_good ∧ Cond.selects yX9_lastOfA.cls yX9_lastOfA yX9_lastOfA ∈ lw_good ∧ Cond.initialized yX9_lastOfA.cls ∈ lw_good ∧ Cond.code yX9_lastOfA cX9_lastOfA 3 (some .int) ∈ lw_good ∧ yX9_lastOfA.cls ≠ "java/lang/invoke/MethodHandle" ∧ yX9_lastOfA.cls ≠ "java/lang/invoke/VarHandle" ∧ (parseMethodDescriptor yX9_lastOfA.desc).map (fun d => d.parameters.length) = some 1 := ⟨lw_gi 895 (by decide +kernel) rfl, lw_gs 34 (by decide +kernel) rfl, lw_gi 11 (by decide +kernel) rfl, lw_gi 896 (by decide +kernel) rfl, by decide +kernel, by decide +kernel, by decide +kernel⟩
theorem mw_X9_passThrough : Cond.instanceMethod yX9_passThrough ∈ lw_good ∧ Cond.selects yX9_passThrough.cls yX9_passThrough yX9_passThrough ∈ lw_good ∧ Cond.initialized yX9_passThrough.cls ∈ lw_good ∧ Cond.code yX9_passThrough cX9_passThrough 6 none ∈ lw_good ∧ yX9_passThrough.cls ≠ "java/lang/invoke/MethodHandle" ∧ yX9_passThrough.cls ≠ "java/lang/invoke/VarHandle" ∧ (parseMethodDescriptor yX9_passThrough.desc).map (fun d => d.parameters.length) = some 3 := ⟨lw_gi 899 (by decide +kernel) rfl, lw_gs 35 (by decide +kernel) rfl, lw_gi 11 (by decide +kernel) rfl, lw_gi 900 (by decide +kernel) rfl, by decide +kernel, by decide +kernel, by decide +kernel⟩
theorem mw_X9_handle : Cond.instanceMethod yX9_handle ∈ lw_good ∧ Cond.selects yX9_handle.cls yX9_handle yX9_handle ∈ lw_good ∧ Cond.initialized yX9_handle.cls ∈ lw_good ∧ Cond.code yX9_handle cX9_handle 12 none ∈ lw_good ∧ yX9_handle.cls ≠ "java/lang/invoke/MethodHandle" ∧ yX9_handle.cls ≠ "java/lang/invoke/VarHandle" ∧ (parseMethodDescriptor yX9_handle.desc).map (fun d => d.parameters.length) = some 3 := ⟨lw_gi 903 (by decide +kernel) rfl, lw_gs 36 (by decide +kernel) rfl, lw_gi 11 (by decide +kernel) rfl, lw_gi 904 (by decide +kernel) rfl, by decide +kernel, by decide +kernel, by decide +kernel⟩
theorem mw_X9_firstOfB : Cond.instanceMethod yX9_firstOfB ∈ lw_good ∧ Cond.selects yX9_firstOfB.cls yX9_firstOfB yX9_firstOfB ∈ lw_good ∧ Cond.initialized yX9_firstOfB.cls ∈ lw_good ∧ Cond.code yX9_firstOfB cX9_firstOfB 4 (some .int) ∈ lw_good ∧ yX9_firstOfB.cls ≠ "java/lang/invoke/MethodHandle" ∧ yX9_firstOfB.cls ≠ "java/lang/invoke/VarHandle" ∧ (parseMethodDescriptor yX9_firstOfB.desc).map (fun d => d.parameters.length) = some 1 := ⟨lw_gi 907 (by decide +kernel) rfl, lw_gs 37 (by decide +kernel) rfl, lw_gi 11 (by decide +kernel) rfl, lw_gi 908 (by decide +kernel) rfl, by decide +kernel, by decide +kernel, by decide +kernel⟩
theorem mw_X9_timeOf : Cond.instanceMethod yX9_timeOf ∈ lw_good ∧ Cond.selects yX9_timeOf.cls yX9_timeOf yX9_timeOf ∈ lw_good ∧ Cond.initialized yX9_timeOf.cls ∈ lw_good ∧ Cond.code yX9_timeOf cX9_timeOf 6 (some .int) ∈ lw_good ∧ yX9_timeOf.cls ≠ "java/lang/invoke/MethodHandle" ∧ yX9_timeOf.cls ≠ "java/lang/invoke/VarHandle" ∧ (parseMethodDescriptor yX9_timeOf.desc).map (fun d => d.parameters.length) = some 2 := ⟨lw_gi 911 (by decide +kernel) rfl, lw_gs 38 (by decide +kernel) rfl, lw_gi 11 (by decide +kernel) rfl, lw_gi 912 (by decide +kernel) rfl, by decide +kernel, by decide +kernel, by decide +kernel⟩
theorem mw_X9_isWhole : Cond.instanceMethod yX9_isWhole ∈ lw_good ∧ Cond.selects yX9_isWhole.cls yX9_isWhole yX9_isWhole ∈ lw_good ∧ Cond.initialized yX9_isWhole.cls ∈ lw_good ∧ Cond.code yX9_isWhole cX9_isWhole 2 (some .boolean) ∈ lw_good ∧ yX9_isWhole.cls ≠ "java/lang/invoke/MethodHandle" ∧ yX9_isWhole.cls ≠ "java/lang/invoke/VarHandle" ∧ (parseMethodDescriptor yX9_isWhole.desc).map (fun d => d.parameters.length) = some 1 := ⟨lw_gi 915 (by decide +kernel) rfl, lw_gs 39 (by decide +kernel) rfl, lw_gi 11 (by decide +kernel) rfl, lw_gi 916 (by decide +kernel) rfl, by decide +kernel, by decide +kernel, by decide +kernel⟩
theorem mw_X9_way : Cond.instanceMethod yX9_way ∈ lw_good ∧ Cond.selects yX9_way.cls yX9_way yX9_way ∈ lw_good ∧ Cond.initialized yX9_way.cls ∈ lw_good ∧ Cond.code yX9_way cX9_way 5 (some .int) ∈ lw_good ∧ yX9_way.cls ≠ "java/lang/invoke/MethodHandle" ∧ yX9_way.cls ≠ "java/lang/invoke/VarHandle" ∧ (parseMethodDescriptor yX9_way.desc).map (fun d => d.parameters.length) = some 2 := ⟨lw_gi 919 (by decide +kernel) rfl, lw_gs 40 (by decide +kernel) rfl, lw_gi 11 (by decide +kernel) rfl, lw_gi 920 (by decide +kernel) rfl, by decide +kernel, by decide +kernel, by decide +kernel⟩
theorem mw_X9_countOf : Cond.instanceMethod yX9_countOf ∈ lw_good ∧ Cond.selects yX9_countOf.cls yX9_countOf yX9_countOf ∈ lw_good ∧ Cond.initialized yX9_countOf.cls ∈ lw_good ∧ Cond.code yX9_countOf cX9_countOf 2 (some .int) ∈ lw_good ∧ yX9_countOf.cls ≠ "java/lang/invoke/MethodHandle" ∧ yX9_countOf.cls ≠ "java/lang/invoke/VarHandle" ∧ (parseMethodDescriptor yX9_countOf.desc).map (fun d => d.parameters.length) = some 1 := ⟨lw_gi 923 (by decide +kernel) rfl, lw_gs 41 (by decide +kernel) rfl, lw_gi 11 (by decide +kernel) rfl, lw_gi 924 (by decide +kernel) rfl, by decide +kernel, by decide +kernel, by decide +kernel⟩
theorem mw_X9_dataOf : Cond.instanceMethod yX9_dataOf ∈ lw_good ∧ Cond.selects yX9_dataOf.cls yX9_dataOf yX9_dataOf ∈ lw_good ∧ Cond.initialized yX9_dataOf.cls ∈ lw_good ∧ Cond.code yX9_dataOf cX9_dataOf 3 (some .int) ∈ lw_good ∧ yX9_dataOf.cls ≠ "java/lang/invoke/MethodHandle" ∧ yX9_dataOf.cls ≠ "java/lang/invoke/VarHandle" ∧ (parseMethodDescriptor yX9_dataOf.desc).map (fun d => d.parameters.length) = some 1 := ⟨lw_gi 927 (by decide +kernel) rfl, lw_gs 42 (by decide +kernel) rfl, lw_gi 11 (by decide +kernel) rfl, lw_gi 928 (by decide +kernel) rfl, by decide +kernel, by decide +kernel, by decide +kernel⟩
theorem mw_X9_safeMany : Cond.instanceMethod yX9_safeMany ∈ lw_good ∧ Cond.selects yX9_safeMany.cls yX9_safeMany yX9_safeMany ∈ lw_good ∧ Cond.initialized yX9_safeMany.cls ∈ lw_good ∧ Cond.code yX9_safeMany cX9_safeMany 3 (some .int) ∈ lw_good ∧ yX9_safeMany.cls ≠ "java/lang/invoke/MethodHandle" ∧ yX9_safeMany.cls ≠ "java/lang/invoke/VarHandle" ∧ (parseMethodDescriptor yX9_safeMany.desc).map (fun d => d.parameters.length) = some 0 := ⟨lw_gi 931 (by decide +kernel) rfl, lw_gs 43 (by decide +kernel) rfl, lw_gi 11 (by decide +kernel) rfl, lw_gi 932 (by decide +kernel) rfl, by decide +kernel, by decide +kernel, by decide +kernel⟩
theorem mw_X9_resets : Cond.instanceMethod yX9_resets ∈ lw_good ∧ Cond.selects yX9_resets.cls yX9_resets yX9_resets ∈ lw_good ∧ Cond.initialized yX9_resets.cls ∈ lw_good ∧ Cond.code yX9_resets cX9_resets 4 (some .int) ∈ lw_good ∧ yX9_resets.cls ≠ "java/lang/invoke/MethodHandle" ∧ yX9_resets.cls ≠ "java/lang/invoke/VarHandle" ∧ (parseMethodDescriptor yX9_resets.desc).map (fun d => d.parameters.length) = some 1 := ⟨lw_gi 934 (by decide +kernel) rfl, lw_gi 935 (by decide +kernel) rfl, lw_gi 11 (by decide +kernel) rfl, lw_gi 936 (by decide +kernel) rfl, by decide +kernel, by decide +kernel, by decide +kernel⟩
theorem mw_X9_isDrive : Cond.instanceMethod yX9_isDrive ∈ lw_good ∧ Cond.selects yX9_isDrive.cls yX9_isDrive yX9_isDrive ∈ lw_good ∧ Cond.initialized yX9_isDrive.cls ∈ lw_good ∧ Cond.code yX9_isDrive cX9_isDrive 2 (some .boolean) ∈ lw_good ∧ yX9_isDrive.cls ≠ "java/lang/invoke/MethodHandle" ∧ yX9_isDrive.cls ≠ "java/lang/invoke/VarHandle" ∧ (parseMethodDescriptor yX9_isDrive.desc).map (fun d => d.parameters.length) = some 1 := ⟨lw_gi 939 (by decide +kernel) rfl, lw_gs 44 (by decide +kernel) rfl, lw_gi 11 (by decide +kernel) rfl, lw_gi 940 (by decide +kernel) rfl, by decide +kernel, by decide +kernel, by decide +kernel⟩
theorem mw_X9_sets : Cond.instanceMethod yX9_sets ∈ lw_good ∧ Cond.selects yX9_sets.cls yX9_sets yX9_sets ∈ lw_good ∧ Cond.initialized yX9_sets.cls ∈ lw_good ∧ Cond.code yX9_sets cX9_sets 6 (some .int) ∈ lw_good ∧ yX9_sets.cls ≠ "java/lang/invoke/MethodHandle" ∧ yX9_sets.cls ≠ "java/lang/invoke/VarHandle" ∧ (parseMethodDescriptor yX9_sets.desc).map (fun d => d.parameters.length) = some 3 := ⟨lw_gi 942 (by decide +kernel) rfl, lw_gi 943 (by decide +kernel) rfl, lw_gi 11 (by decide +kernel) rfl, lw_gi 944 (by decide +kernel) rfl, by decide +kernel, by decide +kernel, by decide +kernel⟩
theorem mw_X9_drifts : Cond.instanceMethod yX9_drifts ∈ lw_good ∧ Cond.selects yX9_drifts.cls yX9_drifts yX9_drifts ∈ lw_good ∧ Cond.initialized yX9_drifts.cls ∈ lw_good ∧ Cond.code yX9_drifts cX9_drifts 4 (some .int) ∈ lw_good ∧ yX9_drifts.cls ≠ "java/lang/invoke/MethodHandle" ∧ yX9_drifts.cls ≠ "java/lang/invoke/VarHandle" ∧ (parseMethodDescriptor yX9_drifts.desc).map (fun d => d.parameters.length) = some 2 := ⟨lw_gi 946 (by decide +kernel) rfl, lw_gi 947 (by decide +kernel) rfl, lw_gi 11 (by decide +kernel) rfl, lw_gi 948 (by decide +kernel) rfl, by decide +kernel, by decide +kernel, by decide +kernel⟩
theorem mw_X9_measures : Cond.instanceMethod yX9_measures ∈ lw_good ∧ Cond.selects yX9_measures.cls yX9_measures yX9_measures ∈ lw_good ∧ Cond.initialized yX9_measures.cls ∈ lw_good ∧ Cond.code yX9_measures cX9_measures 6 (some .int) ∈ lw_good ∧ yX9_measures.cls ≠ "java/lang/invoke/MethodHandle" ∧ yX9_measures.cls ≠ "java/lang/invoke/VarHandle" ∧ (parseMethodDescriptor yX9_measures.desc).map (fun d => d.parameters.length) = some 0 := ⟨lw_gi 950 (by decide +kernel) rfl, lw_gi 951 (by decide +kernel) rfl, lw_gi 11 (by decide +kernel) rfl, lw_gi 952 (by decide +kernel) rfl, by decide +kernel, by decide +kernel, by decide +kernel⟩
theorem mw_X9_drive : Cond.instanceMethod yX9_drive ∈ lw_good ∧ Cond.selects yX9_drive.cls yX9_drive yX9_drive ∈ lw_good ∧ Cond.initialized yX9_drive.cls ∈ lw_good ∧ Cond.code yX9_drive cX9_drive 3 (some .int) ∈ lw_good ∧ yX9_drive.cls ≠ "java/lang/invoke/MethodHandle" ∧ yX9_drive.cls ≠ "java/lang/invoke/VarHandle" ∧ (parseMethodDescriptor yX9_drive.desc).map (fun d => d.parameters.length) = some 2 := ⟨lw_gi 954 (by decide +kernel) rfl, lw_gi 955 (by decide +kernel) rfl, lw_gi 11 (by decide +kernel) rfl, lw_gi 956 (by decide +kernel) rfl, by decide +kernel, by decide +kernel, by decide +kernel⟩
theorem mw_X9_offOf : Cond.instanceMethod yX9_offOf ∈ lw_good ∧ Cond.selects yX9_offOf.cls yX9_offOf yX9_offOf ∈ lw_good ∧ Cond.initialized yX9_offOf.cls ∈ lw_good ∧ Cond.code yX9_offOf cX9_offOf 2 (some .int) ∈ lw_good ∧ yX9_offOf.cls ≠ "java/lang/invoke/MethodHandle" ∧ yX9_offOf.cls ≠ "java/lang/invoke/VarHandle" ∧ (parseMethodDescriptor yX9_offOf.desc).map (fun d => d.parameters.length) = some 1 := ⟨lw_gi 960 (by decide +kernel) rfl, lw_gs 45 (by decide +kernel) rfl, lw_gi 11 (by decide +kernel) rfl, lw_gi 961 (by decide +kernel) rfl, by decide +kernel, by decide +kernel, by decide +kernel⟩
theorem mw_X9_link : Cond.instanceMethod yX9_link ∈ lw_good ∧ Cond.selects yX9_link.cls yX9_link yX9_link ∈ lw_good ∧ Cond.initialized yX9_link.cls ∈ lw_good ∧ Cond.code yX9_link cX9_link 3 (some .int) ∈ lw_good ∧ yX9_link.cls ≠ "java/lang/invoke/MethodHandle" ∧ yX9_link.cls ≠ "java/lang/invoke/VarHandle" ∧ (parseMethodDescriptor yX9_link.desc).map (fun d => d.parameters.length) = some 2 := ⟨lw_gi 963 (by decide +kernel) rfl, lw_gi 964 (by decide +kernel) rfl, lw_gi 11 (by decide +kernel) rfl, lw_gi 965 (by decide +kernel) rfl, by decide +kernel, by decide +kernel, by decide +kernel⟩
theorem mw_X9_order : Cond.instanceMethod yX9_order ∈ lw_good ∧ Cond.selects yX9_order.cls yX9_order yX9_order ∈ lw_good ∧ Cond.initialized yX9_order.cls ∈ lw_good ∧ Cond.code yX9_order cX9_order 3 (some .int) ∈ lw_good ∧ yX9_order.cls ≠ "java/lang/invoke/MethodHandle" ∧ yX9_order.cls ≠ "java/lang/invoke/VarHandle" ∧ (parseMethodDescriptor yX9_order.desc).map (fun d => d.parameters.length) = some 2 := ⟨lw_gi 967 (by decide +kernel) rfl, lw_gi 968 (by decide +kernel) rfl, lw_gi 11 (by decide +kernel) rfl, lw_gi 969 (by decide +kernel) rfl, by decide +kernel, by decide +kernel, by decide +kernel⟩
theorem mw_X9_isOrder : Cond.instanceMethod yX9_isOrder ∈ lw_good ∧ Cond.selects yX9_isOrder.cls yX9_isOrder yX9_isOrder ∈ lw_good ∧ Cond.initialized yX9_isOrder.cls ∈ lw_good ∧ Cond.code yX9_isOrder cX9_isOrder 2 (some .boolean) ∈ lw_good ∧ yX9_isOrder.cls ≠ "java/lang/invoke/MethodHandle" ∧ yX9_isOrder.cls ≠ "java/lang/invoke/VarHandle" ∧ (parseMethodDescriptor yX9_isOrder.desc).map (fun d => d.parameters.length) = some 1 := ⟨lw_gi 972 (by decide +kernel) rfl, lw_gs 46 (by decide +kernel) rfl, lw_gi 11 (by decide +kernel) rfl, lw_gi 973 (by decide +kernel) rfl, by decide +kernel, by decide +kernel, by decide +kernel⟩
theorem mw_X9_result : Cond.instanceMethod yX9_result ∈ lw_good ∧ Cond.selects yX9_result.cls yX9_result yX9_result ∈ lw_good ∧ Cond.initialized yX9_result.cls ∈ lw_good ∧ Cond.code yX9_result cX9_result 3 (some .int) ∈ lw_good ∧ yX9_result.cls ≠ "java/lang/invoke/MethodHandle" ∧ yX9_result.cls ≠ "java/lang/invoke/VarHandle" ∧ (parseMethodDescriptor yX9_result.desc).map (fun d => d.parameters.length) = some 2 := ⟨lw_gi 975 (by decide +kernel) rfl, lw_gi 976 (by decide +kernel) rfl, lw_gi 11 (by decide +kernel) rfl, lw_gi 977 (by decide +kernel) rfl, by decide +kernel, by decide +kernel, by decide +kernel⟩
theorem mw_X9_time : Cond.instanceMethod yX9_time ∈ lw_good ∧ Cond.selects yX9_time.cls yX9_time yX9_time ∈ lw_good ∧ Cond.initialized yX9_time.cls ∈ lw_good ∧ Cond.code yX9_time cX9_time 2 (some .int) ∈ lw_good ∧ yX9_time.cls ≠ "java/lang/invoke/MethodHandle" ∧ yX9_time.cls ≠ "java/lang/invoke/VarHandle" ∧ (parseMethodDescriptor yX9_time.desc).map (fun d => d.parameters.length) = some 1 := ⟨lw_gi 979 (by decide +kernel) rfl, lw_gi 980 (by decide +kernel) rfl, lw_gi 11 (by decide +kernel) rfl, lw_gi 981 (by decide +kernel) rfl, by decide +kernel, by decide +kernel, by decide +kernel⟩
theorem mw_X9_reached : Cond.instanceMethod yX9_reached ∈ lw_good ∧ Cond.selects yX9_reached.cls yX9_reached yX9_reached ∈ lw_good ∧ Cond.initialized yX9_reached.cls ∈ lw_good ∧ Cond.code yX9_reached cX9_reached 4 (some .int) ∈ lw_good ∧ yX9_reached.cls ≠ "java/lang/invoke/MethodHandle" ∧ yX9_reached.cls ≠ "java/lang/invoke/VarHandle" ∧ (parseMethodDescriptor yX9_reached.desc).map (fun d => d.parameters.length) = some 1 := ⟨lw_gi 983 (by decide +kernel) rfl, lw_gi 984 (by decide +kernel) rfl, lw_gi 11 (by decide +kernel) rfl, lw_gi 985 (by decide +kernel) rfl, by decide +kernel, by decide +kernel, by decide +kernel⟩
theorem mw_X9_would : Cond.instanceMethod yX9_would ∈ lw_good ∧ Cond.selects yX9_would.cls yX9_would yX9_would ∈ lw_good ∧ Cond.initialized yX9_would.cls ∈ lw_good ∧ Cond.code yX9_would cX9_would 2 (some .int) ∈ lw_good ∧ yX9_would.cls ≠ "java/lang/invoke/MethodHandle" ∧ yX9_would.cls ≠ "java/lang/invoke/VarHandle" ∧ (parseMethodDescriptor yX9_would.desc).map (fun d => d.parameters.length) = some 1 := ⟨lw_gi 987 (by decide +kernel) rfl, lw_gi 988 (by decide +kernel) rfl, lw_gi 11 (by decide +kernel) rfl, lw_gi 989 (by decide +kernel) rfl, by decide +kernel, by decide +kernel, by decide +kernel⟩
theorem mw_X9_findFacts : Cond.instanceMethod yX9_findFacts ∈ lw_good ∧ Cond.selects yX9_findFacts.cls yX9_findFacts yX9_findFacts ∈ lw_good ∧ Cond.initialized yX9_findFacts.cls ∈ lw_good ∧ Cond.code yX9_findFacts cX9_findFacts 3 none ∈ lw_good ∧ yX9_findFacts.cls ≠ "java/lang/invoke/MethodHandle" ∧ yX9_findFacts.cls ≠ "java/lang/invoke/VarHandle" ∧ (parseMethodDescriptor yX9_findFacts.desc).map (fun d => d.parameters.length) = some 1 := ⟨lw_gi 992 (by decide +kernel) rfl, lw_gs 47 (by decide +kernel) rfl, lw_gi 11 (by decide +kernel) rfl, lw_gi 993 (by decide +kernel) rfl, by decide +kernel, by decide +kernel, by decide +kernel⟩
theorem mw_X9_sees : Cond.instanceMethod yX9_sees ∈ lw_good ∧ Cond.selects yX9_sees.cls yX9_sees yX9_sees ∈ lw_good ∧ Cond.initialized yX9_sees.cls ∈ lw_good ∧ Cond.code yX9_sees cX9_sees 3 (some .int) ∈ lw_good ∧ yX9_sees.cls ≠ "java/lang/invoke/MethodHandle" ∧ yX9_sees.cls ≠ "java/lang/invoke/VarHandle" ∧ (parseMethodDescriptor yX9_sees.desc).map (fun d => d.parameters.length) = some 2 := ⟨lw_gi 995 (by decide +kernel) rfl, lw_gi 996 (by decide +kernel) rfl, lw_gi 11 (by decide +kernel) rfl, lw_gi 997 (by decide +kernel) rfl, by decide +kernel, by decide +kernel, by decide +kernel⟩
theorem mw_X9_forget : Cond.instanceMethod yX9_forget ∈ lw_good ∧ Cond.selects yX9_forget.cls yX9_forget yX9_forget ∈ lw_good ∧ Cond.initialized yX9_forget.cls ∈ lw_good ∧ Cond.code yX9_forget cX9_forget 2 (some .int) ∈ lw_good ∧ yX9_forget.cls ≠ "java/lang/invoke/MethodHandle" ∧ yX9_forget.cls ≠ "java/lang/invoke/VarHandle" ∧ (parseMethodDescriptor yX9_forget.desc).map (fun d => d.parameters.length) = some 0 := ⟨lw_gi 999 (by decide +kernel) rfl, lw_gi 1000 (by decide +kernel) rfl, lw_gi 11 (by decide +kernel) rfl, lw_gi 1001 (by decide +kernel) rfl, by decide +kernel, by decide +kernel, by decide +kernel⟩
theorem mw_X9_which : Cond.instanceMethod yX9_which ∈ lw_good ∧ Cond.selects yX9_which.cls yX9_which yX9_which ∈ lw_good ∧ Cond.initialized yX9_which.cls ∈ lw_good ∧ Cond.code yX9_which cX9_which 4 (some .int) ∈ lw_good ∧ yX9_which.cls ≠ "java/lang/invoke/MethodHandle" ∧ yX9_which.cls ≠ "java/lang/invoke/VarHandle" ∧ (parseMethodDescriptor yX9_which.desc).map (fun d => d.parameters.length) = some 1 := ⟨lw_gi 1003 (by decide +kernel) rfl, lw_gi 1004 (by decide +kernel) rfl, lw_gi 11 (by decide +kernel) rfl, lw_gi 1005 (by decide +kernel) rfl, by decide +kernel, by decide +kernel, by decide +kernel⟩
theorem mw_X9_isSo : Cond.instanceMethod yX9_isSo ∈ lw_good ∧ Cond.selects yX9_isSo.cls yX9_isSo yX9_isSo ∈ lw_good ∧ Cond.initialized yX9_isSo.cls ∈ lw_good ∧ Cond.code yX9_isSo cX9_isSo 4 (some .boolean) ∈ lw_good ∧ yX9_isSo.cls ≠ "java/lang/invoke/MethodHandle" ∧ yX9_isSo.cls ≠ "java/lang/invoke/VarHandle" ∧ (parseMethodDescriptor yX9_isSo.desc).map (fun d => d.parameters.length) = some 1 := ⟨lw_gi 1008 (by decide +kernel) rfl, lw_gs 48 (by decide +kernel) rfl, lw_gi 11 (by decide +kernel) rfl, lw_gi 1009 (by decide +kernel) rfl, by decide +kernel, by decide +kernel, by decide +kernel⟩
theorem mw_X9_findLinks : Cond.instanceMethod yX9_findLinks ∈ lw_good ∧ Cond.selects yX9_findLinks.cls yX9_findLinks yX9_findLinks ∈ lw_good ∧ Cond.initialized yX9_findLinks.cls ∈ lw_good ∧ Cond.code yX9_findLinks cX9_findLinks 4 (some .int) ∈ lw_good ∧ yX9_findLinks.cls ≠ "java/lang/invoke/MethodHandle" ∧ yX9_findLinks.cls ≠ "java/lang/invoke/VarHandle" ∧ (parseMethodDescriptor yX9_findLinks.desc).map (fun d => d.parameters.length) = some 0 := ⟨lw_gi 1012 (by decide +kernel) rfl, lw_gs 49 (by decide +kernel) rfl, lw_gi 11 (by decide +kernel) rfl, lw_gi 1013 (by decide +kernel) rfl, by decide +kernel, by decide +kernel, by decide +kernel⟩
theorem mw_X9_ask : Cond.instanceMethod yX9_ask ∈ lw_good ∧ Cond.selects yX9_ask.cls yX9_ask yX9_ask ∈ lw_good ∧ Cond.initialized yX9_ask.cls ∈ lw_good ∧ Cond.code yX9_ask cX9_ask 9 (some .int) ∈ lw_good ∧ yX9_ask.cls ≠ "java/lang/invoke/MethodHandle" ∧ yX9_ask.cls ≠ "java/lang/invoke/VarHandle" ∧ (parseMethodDescriptor yX9_ask.desc).map (fun d => d.parameters.length) = some 0 := ⟨lw_gi 1015 (by decide +kernel) rfl, lw_gi 1016 (by decide +kernel) rfl, lw_gi 11 (by decide +kernel) rfl, lw_gi 1017 (by decide +kernel) rfl, by decide +kernel, by decide +kernel, by decide +kernel⟩
theorem mw_X9_keep : Cond.instanceMethod yX9_keep ∈ lw_good ∧ Cond.selects yX9_keep.cls yX9_keep yX9_keep ∈ lw_good ∧ Cond.initialized yX9_keep.cls ∈ lw_good ∧ Cond.code yX9_keep cX9_keep 2 (some .int) ∈ lw_good ∧ yX9_keep.cls ≠ "java/lang/invoke/MethodHandle" ∧ yX9_keep.cls ≠ "java/lang/invoke/VarHandle" ∧ (parseMethodDescriptor yX9_keep.desc).map (fun d => d.parameters.length) = some 1 := ⟨lw_gi 1019 (by decide +kernel) rfl, lw_gi 1020 (by decide +kernel) rfl, lw_gi 11 (by decide +kernel) rfl, lw_gi 1021 (by decide +kernel) rfl, by decide +kernel, by decide +kernel, by decide +kernel⟩
theorem mw_X9_back : Cond.instanceMethod yX9_back ∈ lw_good ∧ Cond.selects yX9_back.cls yX9_back yX9_back ∈ lw_good ∧ Cond.initialized yX9_back.cls ∈ lw_good ∧ Cond.code yX9_back cX9_back 2 (some .int) ∈ lw_good ∧ yX9_back.cls ≠ "java/lang/invoke/MethodHandle" ∧ yX9_back.cls ≠ "java/lang/invoke/VarHandle" ∧ (parseMethodDescriptor yX9_back.desc).map (fun d => d.parameters.length) = some 1 := ⟨lw_gi 1023 (by decide +kernel) rfl, lw_gi 1024 (by decide +kernel) rfl, lw_gi 11 (by decide +kernel) rfl, lw_gi 1025 (by decide +kernel) rfl, by decide +kernel, by decide +kernel, by decide +kernel⟩
theorem mw_X9_count : Cond.instanceMethod yX9_count ∈ lw_good ∧ Cond.selects yX9_count.cls yX9_count yX9_count ∈ lw_good ∧ Cond.initialized yX9_count.cls ∈ lw_good ∧ Cond.code yX9_count cX9_count 2 (some .int) ∈ lw_good ∧ yX9_count.cls ≠ "java/lang/invoke/MethodHandle" ∧ yX9_count.cls ≠ "java/lang/invoke/VarHandle" ∧ (parseMethodDescriptor yX9_count.desc).map (fun d => d.parameters.length) = some 1 := ⟨lw_gi 1027 (by decide +kernel) rfl, lw_gi 1028 (by decide +kernel) rfl, lw_gi 11 (by decide +kernel) rfl, lw_gi 1029 (by decide +kernel) rfl, by decide +kernel, by decide +kernel, by decide +kernel⟩
theorem mw_X9_spread : Cond.instanceMethod yX9_spread ∈ lw_good ∧ Cond.selects yX9_spread.cls yX9_spread yX9_spread ∈ lw_good ∧ Cond.initialized yX9_spread.cls ∈ lw_good ∧ Cond.code yX9_spread cX9_spread 4 (some .int) ∈ lw_good ∧ yX9_spread.cls ≠ "java/lang/invoke/MethodHandle" ∧ yX9_spread.cls ≠ "java/lang/invoke/VarHandle" ∧ (parseMethodDescriptor yX9_spread.desc).map (fun d => d.parameters.length) = some 0 := ⟨lw_gi 1032 (by decide +kernel) rfl, lw_gs 50 (by decide +kernel) rfl, lw_gi 11 (by decide +kernel) rfl, lw_gi 1033 (by decide +kernel) rfl, by decide +kernel, by decide +kernel, by decide +kernel⟩
theorem ml_L_9 : Cond.methodLink RL 9 yX8_init ∈ lw_good := lw_gi 17 (by decide +kernel) rfl
theorem ml_X8_1 : Cond.methodLink RX8 1 objectInit ∈ lw_good := lw_gi 20 (by decide +kernel) rfl
theorem ml_X8_9 : Cond.methodLink RX8 9 yX3_init ∈ lw_good := lw_gi 25 (by decide +kernel) rfl
theorem ml_X3_3 : Cond.methodLink RX3 3 objectInit ∈ lw_good := lw_gi 28 (by decide +kernel) rfl
theorem ml_X3_27 : MLk RX3 27 yX3_becomeEmpty cX3_becomeEmpty 1 none 0 := ⟨lw_gi 29 (by decide +kernel) rfl, mw_X3_becomeEmpty⟩
theorem ml_X3_51 : MLk RX3 51 yX3_dropFrame cX3_dropFrame 1 none 0 := ⟨lw_gi 33 (by decide +kernel) rfl, mw_X3_dropFrame⟩
theorem ml_X3_60 : MLs RX3 60 yJ7_fill_53178 cJ7_fill_53178 4 none 2 := ⟨lw_gi 37 (by decide +kernel) rfl, mw_J7_fill_53178⟩
theorem ml_X3_30 : MLk RX3 30 yX3_addDrive cX3_addDrive 4 none 2 := ⟨lw_gi 40 (by decide +kernel) rfl, mw_X3_addDrive⟩
theorem ml_X3_72 : MLk RX3 72 yX3_takesDrive cX3_takesDrive 1 (some .boolean) 0 := ⟨lw_gi 44 (by decide +kernel) rfl, mw_X3_takesDrive⟩
theorem ml_X3_76 : MLs RX3 76 yJ7_fill_fda19 cJ7_fill_fda19 5 none 4 := ⟨lw_gi 48 (by decide +kernel) rfl, mw_J7_fill_fda19⟩
theorem ml_J7_13 : MLs RJ7 13 yJ7_rangeCheck_23922 cJ7_rangeCheck_23922 3 none 3 := ⟨lw_gi 51 (by decide +kernel) rfl, mw_J7_rangeCheck_23922⟩
theorem ml_X3_79 : MLk RX3 79 yX3_putNewLink cX3_putNewLink 3 none 2 := ⟨lw_gi 54 (by decide +kernel) rfl, mw_X3_putNewLink⟩
theorem ml_X3_85 : MLk RX3 85 yX3_putLink cX3_putLink 4 none 3 := ⟨lw_gi 58 (by decide +kernel) rfl, mw_X3_putLink⟩
theorem ml_X8_24 : Cond.methodLinkNest RX8 24 yX7_init "RingFrames" ∈ lw_nst := List.mem_of_getElem? (i := 18) (by decide +kernel)
theorem ml_X7_3 : Cond.methodLink RX7 3 objectInit ∈ lw_good := lw_gi 123 (by decide +kernel) rfl
theorem ml_X8_31 : Cond.methodLink RX8 31 yX2_init ∈ lw_good := lw_gi 149 (by decide +kernel) rfl
theorem ml_X2_3 : Cond.methodLink RX2 3 objectInit ∈ lw_good := lw_gi 152 (by decide +kernel) rfl
theorem ml_X8_40 : Cond.methodLinkNest RX8 40 yX4_init "RingFrames" ∈ lw_nst := List.mem_of_getElem? (i := 23) (by decide +kernel)
theorem ml_X4_3 : Cond.methodLink RX4 3 objectInit ∈ lw_good := lw_gi 165 (by decide +kernel) rfl
theorem ml_X4_11 : Cond.methodLinkNest RX4 11 yX0_init "RingFrames" ∈ lw_nst := List.mem_of_getElem? (i := 24) (by decide +kernel)
theorem ml_X0_3 : Cond.methodLink RX0 3 objectInit ∈ lw_good := lw_gi 171 (by decide +kernel) rfl
theorem ml_X8_47 : Cond.methodLink RX8 47 yX1_init ∈ lw_good := lw_gi 196 (by decide +kernel) rfl
theorem ml_X1_3 : Cond.methodLink RX1 3 objectInit ∈ lw_good := lw_gi 199 (by decide +kernel) rfl
theorem ml_X1_17 : Cond.methodLink RX1 17 yX3_init ∈ lw_good := lw_gi 202 (by decide +kernel) rfl
theorem ml_X8_62 : Cond.methodLinkNest RX8 62 yX5_init "RingFrames" ∈ lw_nst := List.mem_of_getElem? (i := 28) (by decide +kernel)
theorem ml_X5_3 : Cond.methodLink RX5 3 objectInit ∈ lw_good := lw_gi 219 (by decide +kernel) rfl
theorem ml_X8_69 : Cond.methodLinkNest RX8 69 yX6_init "RingFrames" ∈ lw_nst := List.mem_of_getElem? (i := 30) (by decide +kernel)
theorem ml_X6_3 : Cond.methodLink RX6 3 objectInit ∈ lw_good := lw_gi 237 (by decide +kernel) rfl
theorem ml_L_13 : MLk RL 13 yX8_type cX8_type 2 (some .int) 1 := ⟨lw_gi 284 (by decide +kernel) rfl, mw_X8_type⟩
theorem ml_X8_78 : MLk RX8 78 yX7_append cX7_append 2 none 1 := ⟨lw_gi 288 (by decide +kernel) rfl, mw_X7_append⟩
theorem ml_L_18 : MLk RL 18 yX8_clear cX8_clear 2 (some .int) 0 := ⟨lw_gi 292 (by decide +kernel) rfl, mw_X8_clear⟩
theorem ml_L_23 : MLk RL 23 yX8_wires cX8_wires 1 (some .int) 0 := ⟨lw_gi 296 (by decide +kernel) rfl, mw_X8_wires⟩
theorem ml_X8_82 : MLk RX8 82 yX2_readsWire cX2_readsWire 3 (some .boolean) 1 := ⟨lw_gi 300 (by decide +kernel) rfl, mw_X2_readsWire⟩
theorem ml_X2_15 : MLk RX2 15 yX3_becomeEmpty cX3_becomeEmpty 1 none 0 := ⟨lw_gi 304 (by decide +kernel) rfl, mw_X3_becomeEmpty⟩
theorem ml_X2_24 : MLk RX2 24 yX7_begin cX7_begin 1 none 0 := ⟨lw_gi 305 (by decide +kernel) rfl, mw_X7_begin⟩
theorem ml_X7_22 : MLk RX7 22 yX7_step cX7_step 1 none 0 := ⟨lw_gi 309 (by decide +kernel) rfl, mw_X7_step⟩
theorem ml_X7_31 : MLs RX7 31 yX7_isFigure cX7_isFigure 1 (some .boolean) 1 := ⟨lw_gi 313 (by decide +kernel) rfl, mw_X7_isFigure⟩
theorem ml_X7_35 : MLk RX7 35 yX7_stepOverFigures cX7_stepOverFigures 2 none 0 := ⟨lw_gi 316 (by decide +kernel) rfl, mw_X7_stepOverFigures⟩
theorem ml_X7_41 : MLs RX7 41 yJ9_min_7cf53 cJ9_min_7cf53 2 (some .int) 2 := ⟨lw_gi 320 (by decide +kernel) rfl, mw_J9_min_7cf53⟩
theorem ml_X2_33 : MLk RX2 33 yX2_readsItem cX2_readsItem 2 (some .boolean) 1 := ⟨lw_gi 323 (by decide +kernel) rfl, mw_X2_readsItem⟩
theorem ml_X2_40 : MLk RX2 40 yX2_readsDrive cX2_readsDrive 4 (some .boolean) 1 := ⟨lw_gi 327 (by decide +kernel) rfl, mw_X2_readsDrive⟩
theorem ml_X2_49 : MLk RX2 49 yX3_takesDrive cX3_takesDrive 1 (some .boolean) 0 := ⟨lw_gi 331 (by decide +kernel) rfl, mw_X3_takesDrive⟩
theorem ml_X2_53 : MLk RX2 53 yX7_step cX7_step 1 none 0 := ⟨lw_gi 332 (by decide +kernel) rfl, mw_X7_step⟩
theorem ml_X2_56 : MLk RX2 56 yX2_takeNumber cX2_takeNumber 4 (some .int) 2 := ⟨lw_gi 333 (by decide +kernel) rfl, mw_X2_takeNumber⟩
theorem ml_X2_60 : MLk RX2 60 yX2_takesEnd cX2_takesEnd 1 (some .boolean) 0 := ⟨lw_gi 337 (by decide +kernel) rfl, mw_X2_takesEnd⟩
theorem ml_X2_63 : MLk RX2 63 yX3_addDrive cX3_addDrive 4 none 2 := ⟨lw_gi 341 (by decide +kernel) rfl, mw_X3_addDrive⟩
theorem ml_X2_43 : MLk RX2 43 yX2_readsClosing cX2_readsClosing 3 (some .boolean) 1 := ⟨lw_gi 342 (by decide +kernel) rfl, mw_X2_readsClosing⟩
theorem ml_X2_67 : MLk RX2 67 yX3_takesClosing cX3_takesClosing 1 (some .boolean) 0 := ⟨lw_gi 346 (by decide +kernel) rfl, mw_X3_takesClosing⟩
theorem ml_X2_70 : MLk RX2 70 yX3_closeBy cX3_closeBy 2 none 1 := ⟨lw_gi 350 (by decide +kernel) rfl, mw_X3_closeBy⟩
theorem ml_X3_82 : MLk RX3 82 yX3_takesClosing cX3_takesClosing 1 (some .boolean) 0 := ⟨lw_gi 354 (by decide +kernel) rfl, mw_X3_takesClosing⟩
theorem ml_X2_46 : MLk RX2 46 yX2_readsLimit cX2_readsLimit 3 (some .boolean) 1 := ⟨lw_gi 355 (by decide +kernel) rfl, mw_X2_readsLimit⟩
theorem ml_X8_89 : MLk RX8 89 yX8_adoptDraft cX8_adoptDraft 1 none 0 := ⟨lw_gi 359 (by decide +kernel) rfl, mw_X8_adoptDraft⟩
theorem ml_X8_105 : MLk RX8 105 yX1_push cX1_push 2 none 1 := ⟨lw_gi 363 (by decide +kernel) rfl, mw_X1_push⟩
theorem ml_X1_22 : MLk RX1 22 yX3_copyFrom cX3_copyFrom 2 none 1 := ⟨lw_gi 367 (by decide +kernel) rfl, mw_X3_copyFrom⟩
theorem ml_X3_66 : Cond.methodLink RX3 66 arraycopyName ∈ lw_good := lw_gi 371 (by decide +kernel) rfl
theorem ml_X1_29 : MLs RX1 29 yJ9_min_7cf53 cJ9_min_7cf53 2 (some .int) 2 := ⟨lw_gi 374 (by decide +kernel) rfl, mw_J9_min_7cf53⟩
theorem ml_X8_95 : MLk RX8 95 yX3_copyFrom cX3_copyFrom 2 none 1 := ⟨lw_gi 375 (by decide +kernel) rfl, mw_X3_copyFrom⟩
theorem ml_L_27 : MLk RL 27 yX8_frames cX8_frames 1 (some .int) 0 := ⟨lw_gi 376 (by decide +kernel) rfl, mw_X8_frames⟩
theorem ml_X8_99 : MLk RX8 99 yX2_readsFrame cX2_readsFrame 3 (some .boolean) 1 := ⟨lw_gi 380 (by decide +kernel) rfl, mw_X2_readsFrame⟩
theorem ml_X2_77 : MLk RX2 77 yX3_dropFrame cX3_dropFrame 1 none 0 := ⟨lw_gi 384 (by decide +kernel) rfl, mw_X3_dropFrame⟩
theorem ml_X2_80 : MLk RX2 80 yX2_readsOrder cX2_readsOrder 7 (some .boolean) 1 := ⟨lw_gi 385 (by decide +kernel) rfl, mw_X2_readsOrder⟩
theorem ml_X2_86 : MLk RX2 86 yX3_takesOrder cX3_takesOrder 1 (some .boolean) 0 := ⟨lw_gi 389 (by decide +kernel) rfl, mw_X3_takesOrder⟩
theorem ml_X2_89 : MLk RX2 89 yX3_addOrder cX3_addOrder 7 none 5 := ⟨lw_gi 393 (by decide +kernel) rfl, mw_X3_addOrder⟩
theorem ml_X3_89 : MLk RX3 89 yX3_takesOrder cX3_takesOrder 1 (some .boolean) 0 := ⟨lw_gi 397 (by decide +kernel) rfl, mw_X3_takesOrder⟩
theorem ml_L_31 : MLk RL 31 yX8_cuts cX8_cuts 2 (some .int) 1 := ⟨lw_gi 398 (by decide +kernel) rfl, mw_X8_cuts⟩
theorem ml_X8_108 : MLk RX8 108 yX3_hasLink cX3_hasLink 2 (some .boolean) 1 := ⟨lw_gi 402 (by decide +kernel) rfl, mw_X3_hasLink⟩
theorem ml_X3_92 : MLk RX3 92 yX3_links cX3_links 1 (some .int) 0 := ⟨lw_gi 406 (by decide +kernel) rfl, mw_X3_links⟩
theorem ml_X8_112 : MLk RX8 112 yX3_isCut cX3_isCut 2 (some .boolean) 1 := ⟨lw_gi 410 (by decide +kernel) rfl, mw_X3_isCut⟩
theorem ml_X8_115 : MLk RX8 115 yX3_putLink cX3_putLink 4 none 3 := ⟨lw_gi 414 (by decide +kernel) rfl, mw_X3_putLink⟩
theorem ml_X8_123 : MLk RX8 123 yX3_cutLinks cX3_cutLinks 3 (some .int) 0 := ⟨lw_gi 415 (by decide +kernel) rfl, mw_X3_cutLinks⟩
theorem ml_X3_100 : MLk RX3 100 yX3_ofLink cX3_ofLink 3 (some .int) 2 := ⟨lw_gi 419 (by decide +kernel) rfl, mw_X3_ofLink⟩
theorem ml_L_35 : MLk RL 35 yX8_heals cX8_heals 2 (some .int) 1 := ⟨lw_gi 423 (by decide +kernel) rfl, mw_X8_heals⟩
theorem ml_L_39 : MLk RL 39 yX8_cycles cX8_cycles 3 (some .int) 1 := ⟨lw_gi 427 (by decide +kernel) rfl, mw_X8_cycles⟩
theorem ml_X8_127 : MLk RX8 127 yX4_runCycle cX4_runCycle 3 none 1 := ⟨lw_gi 431 (by decide +kernel) rfl, mw_X4_runCycle⟩
theorem ml_X4_31 : MLk RX4 31 yX4_sendNothing cX4_sendNothing 3 none 1 := ⟨lw_gi 435 (by decide +kernel) rfl, mw_X4_sendNothing⟩
theorem ml_X4_55 : MLk RX4 55 yX3_ofOrder cX3_ofOrder 3 (some .int) 2 := ⟨lw_gi 439 (by decide +kernel) rfl, mw_X3_ofOrder⟩
theorem ml_X4_59 : MLk RX4 59 yX3_putResult cX3_putResult 4 none 3 := ⟨lw_gi 443 (by decide +kernel) rfl, mw_X3_putResult⟩
theorem ml_X4_69 : MLs RX4 69 yJ7_fill_53178 cJ7_fill_53178 4 none 2 := ⟨lw_gi 447 (by decide +kernel) rfl, mw_J7_fill_53178⟩
theorem ml_X4_35 : MLk RX4 35 yX4_send cX4_send 4 none 1 := ⟨lw_gi 448 (by decide +kernel) rfl, mw_X4_send⟩
theorem ml_X4_75 : MLk RX4 75 yX0_start cX0_start 3 none 1 := ⟨lw_gi 452 (by decide +kernel) rfl, mw_X0_start⟩
theorem ml_X0_27 : MLk RX0 27 yX3_ofOrder cX3_ofOrder 3 (some .int) 2 := ⟨lw_gi 456 (by decide +kernel) rfl, mw_X3_ofOrder⟩
theorem ml_X4_78 : MLk RX4 78 yX3_endOfA cX3_endOfA 2 (some .int) 0 := ⟨lw_gi 457 (by decide +kernel) rfl, mw_X3_endOfA⟩
theorem ml_X3_106 : MLk RX3 106 yX3_isCut cX3_isCut 2 (some .boolean) 1 := ⟨lw_gi 461 (by decide +kernel) rfl, mw_X3_isCut⟩
theorem ml_X4_82 : MLk RX4 82 yX4_pass cX4_pass 5 none 3 := ⟨lw_gi 462 (by decide +kernel) rfl, mw_X4_pass⟩
theorem ml_X4_106 : MLk RX4 106 yX0_comesFor cX0_comesFor 6 (some .boolean) 3 := ⟨lw_gi 466 (by decide +kernel) rfl, mw_X0_comesFor⟩
theorem ml_X0_31 : MLk RX0 31 yX3_ofDrive cX3_ofDrive 3 (some .int) 2 := ⟨lw_gi 470 (by decide +kernel) rfl, mw_X3_ofDrive⟩
theorem ml_X4_110 : MLk RX4 110 yX0_obey cX0_obey 8 none 3 := ⟨lw_gi 474 (by decide +kernel) rfl, mw_X0_obey⟩
theorem ml_X0_34 : MLk RX0 34 yX3_isSafe cX3_isSafe 2 (some .boolean) 1 := ⟨lw_gi 478 (by decide +kernel) rfl, mw_X3_isSafe⟩
theorem ml_X0_38 : MLk RX0 38 yX3_putDrive cX3_putDrive 4 none 3 := ⟨lw_gi 482 (by decide +kernel) rfl, mw_X3_putDrive⟩
theorem ml_X4_86 : MLk RX4 86 yX3_startOfB cX3_startOfB 2 (some .int) 0 := ⟨lw_gi 486 (by decide +kernel) rfl, mw_X3_startOfB⟩
theorem ml_X4_92 : MLk RX4 92 yX4_joinedData cX4_joinedData 3 (some .int) 2 := ⟨lw_gi 490 (by decide +kernel) rfl, mw_X4_joinedData⟩
theorem ml_X4_96 : MLk RX4 96 yX3_isWhole cX3_isWhole 1 (some .boolean) 0 := ⟨lw_gi 494 (by decide +kernel) rfl, mw_X3_isWhole⟩
theorem ml_X3_103 : MLk RX3 103 yX3_cutLinks cX3_cutLinks 3 (some .int) 0 := ⟨lw_gi 498 (by decide +kernel) rfl, mw_X3_cutLinks⟩
theorem ml_X4_100 : MLk RX4 100 yX3_takeTimesAround cX3_takeTimesAround 1 none 0 := ⟨lw_gi 499 (by decide +kernel) rfl, mw_X3_takeTimesAround⟩
theorem ml_X3_140 : MLk RX3 140 yX3_lengths cX3_lengths 5 (some .int) 2 := ⟨lw_gi 503 (by decide +kernel) rfl, mw_X3_lengths⟩
theorem ml_X4_103 : MLk RX4 103 yX3_takeTimesOfTurning cX3_takeTimesOfTurning 3 none 0 := ⟨lw_gi 507 (by decide +kernel) rfl, mw_X3_takeTimesOfTurning⟩
theorem ml_X3_110 : MLk RX3 110 yX3_endOfA cX3_endOfA 2 (some .int) 0 := ⟨lw_gi 511 (by decide +kernel) rfl, mw_X3_endOfA⟩
theorem ml_X3_113 : MLk RX3 113 yX3_startOfB cX3_startOfB 2 (some .int) 0 := ⟨lw_gi 512 (by decide +kernel) rfl, mw_X3_startOfB⟩
theorem ml_X3_143 : MLs RX3 143 yX3_timeThereAndBack cX3_timeThereAndBack 2 (some .int) 2 := ⟨lw_gi 513 (by decide +kernel) rfl, mw_X3_timeThereAndBack⟩
theorem ml_X4_41 : MLk RX4 41 yX3_putDrive cX3_putDrive 4 none 3 := ⟨lw_gi 516 (by decide +kernel) rfl, mw_X3_putDrive⟩
theorem ml_X4_45 : MLk RX4 45 yX3_countMiss cX3_countMiss 4 none 1 := ⟨lw_gi 517 (by decide +kernel) rfl, mw_X3_countMiss⟩
theorem ml_X3_96 : MLk RX3 96 yX3_ofDrive cX3_ofDrive 3 (some .int) 2 := ⟨lw_gi 521 (by decide +kernel) rfl, mw_X3_ofDrive⟩
theorem ml_X3_125 : MLk RX3 125 yX3_putDrive cX3_putDrive 4 none 3 := ⟨lw_gi 522 (by decide +kernel) rfl, mw_X3_putDrive⟩
theorem ml_X3_149 : MLk RX3 149 yX3_isSafe cX3_isSafe 2 (some .boolean) 1 := ⟨lw_gi 523 (by decide +kernel) rfl, mw_X3_isSafe⟩
theorem ml_X8_130 : MLk RX8 130 yX3_safeDrives cX3_safeDrives 3 (some .int) 0 := ⟨lw_gi 524 (by decide +kernel) rfl, mw_X3_safeDrives⟩
theorem ml_L_43 : MLk RL 43 yX8_resets cX8_resets 3 (some .int) 1 := ⟨lw_gi 528 (by decide +kernel) rfl, mw_X8_resets⟩
theorem ml_X8_133 : MLk RX8 133 yX3_hasDrive cX3_hasDrive 2 (some .boolean) 1 := ⟨lw_gi 532 (by decide +kernel) rfl, mw_X3_hasDrive⟩
theorem ml_X8_136 : MLk RX8 136 yX3_ofDrive cX3_ofDrive 3 (some .int) 2 := ⟨lw_gi 536 (by decide +kernel) rfl, mw_X3_ofDrive⟩
theorem ml_X8_140 : MLk RX8 140 yX3_isSafe cX3_isSafe 2 (some .boolean) 1 := ⟨lw_gi 537 (by decide +kernel) rfl, mw_X3_isSafe⟩
theorem ml_X8_143 : MLk RX8 143 yX3_putDrive cX3_putDrive 4 none 3 := ⟨lw_gi 538 (by decide +kernel) rfl, mw_X3_putDrive⟩
theorem ml_L_47 : MLk RL 47 yX8_sets cX8_sets 5 (some .int) 3 := ⟨lw_gi 539 (by decide +kernel) rfl, mw_X8_sets⟩
theorem ml_L_52 : MLk RL 52 yX8_drifts cX8_drifts 3 (some .int) 2 := ⟨lw_gi 543 (by decide +kernel) rfl, mw_X8_drifts⟩
theorem ml_L_57 : MLk RL 57 yX8_measures cX8_measures 2 (some .int) 0 := ⟨lw_gi 547 (by decide +kernel) rfl, mw_X8_measures⟩
theorem ml_X8_146 : MLk RX8 146 yX3_bitsOfTurning cX3_bitsOfTurning 1 (some .int) 0 := ⟨lw_gi 551 (by decide +kernel) rfl, mw_X3_bitsOfTurning⟩
theorem ml_X3_116 : MLk RX3 116 yX3_isWhole cX3_isWhole 1 (some .boolean) 0 := ⟨lw_gi 555 (by decide +kernel) rfl, mw_X3_isWhole⟩
theorem ml_X3_119 : MLk RX3 119 yX3_bitsOfA cX3_bitsOfA 1 (some .int) 0 := ⟨lw_gi 556 (by decide +kernel) rfl, mw_X3_bitsOfA⟩
theorem ml_X3_122 : MLk RX3 122 yX3_bitsOfB cX3_bitsOfB 1 (some .int) 0 := ⟨lw_gi 560 (by decide +kernel) rfl, mw_X3_bitsOfB⟩
theorem ml_X8_149 : MLk RX8 149 yX3_learn cX3_learn 3 none 1 := ⟨lw_gi 564 (by decide +kernel) rfl, mw_X3_learn⟩
theorem ml_X8_152 : MLs RX8 152 yJ6_bitCount_0f7a4 cJ6_bitCount_0f7a4 1 (some .int) 1 := ⟨lw_gi 568 (by decide +kernel) rfl, mw_J6_bitCount_0f7a4⟩
theorem ml_L_61 : MLk RL 61 yX8_undo cX8_undo 1 (some .int) 0 := ⟨lw_gi 574 (by decide +kernel) rfl, mw_X8_undo⟩
theorem ml_X8_159 : MLk RX8 159 yX1_pop cX1_pop 2 none 1 := ⟨lw_gi 578 (by decide +kernel) rfl, mw_X1_pop⟩
theorem ml_L_65 : MLk RL 65 yX8_drive cX8_drive 3 (some .int) 2 := ⟨lw_gi 582 (by decide +kernel) rfl, mw_X8_drive⟩
theorem ml_X8_163 : MLk RX8 163 yX3_offOf cX3_offOf 2 (some .int) 1 := ⟨lw_gi 587 (by decide +kernel) rfl, mw_X3_offOf⟩
theorem ml_L_69 : MLk RL 69 yX8_link cX8_link 3 (some .int) 2 := ⟨lw_gi 591 (by decide +kernel) rfl, mw_X8_link⟩
theorem ml_X8_166 : MLk RX8 166 yX3_ofLink cX3_ofLink 3 (some .int) 2 := ⟨lw_gi 595 (by decide +kernel) rfl, mw_X3_ofLink⟩
theorem ml_L_73 : MLk RL 73 yX8_order cX8_order 3 (some .int) 2 := ⟨lw_gi 596 (by decide +kernel) rfl, mw_X8_order⟩
theorem ml_X8_169 : MLk RX8 169 yX3_hasOrder cX3_hasOrder 2 (some .boolean) 1 := ⟨lw_gi 600 (by decide +kernel) rfl, mw_X3_hasOrder⟩
theorem ml_X8_172 : MLk RX8 172 yX3_ofOrder cX3_ofOrder 3 (some .int) 2 := ⟨lw_gi 604 (by decide +kernel) rfl, mw_X3_ofOrder⟩
theorem ml_L_77 : MLk RL 77 yX8_result cX8_result 3 (some .int) 2 := ⟨lw_gi 605 (by decide +kernel) rfl, mw_X8_result⟩
theorem ml_X8_178 : MLk RX8 178 yX3_ofResult cX3_ofResult 3 (some .int) 2 := ⟨lw_gi 609 (by decide +kernel) rfl, mw_X3_ofResult⟩
theorem ml_L_81 : MLk RL 81 yX8_time cX8_time 2 (some .int) 1 := ⟨lw_gi 613 (by decide +kernel) rfl, mw_X8_time⟩
theorem ml_L_85 : MLk RL 85 yX8_reached cX8_reached 2 (some .int) 1 := ⟨lw_gi 617 (by decide +kernel) rfl, mw_X8_reached⟩
theorem ml_X8_185 : MLk RX8 185 yX3_bitsOfA cX3_bitsOfA 1 (some .int) 0 := ⟨lw_gi 621 (by decide +kernel) rfl, mw_X3_bitsOfA⟩
theorem ml_X8_188 : MLk RX8 188 yX3_bitsOfB cX3_bitsOfB 1 (some .int) 0 := ⟨lw_gi 622 (by decide +kernel) rfl, mw_X3_bitsOfB⟩
theorem ml_L_89 : MLk RL 89 yX8_would cX8_would 2 (some .int) 1 := ⟨lw_gi 623 (by decide +kernel) rfl, mw_X8_would⟩
theorem ml_X8_191 : MLk RX8 191 yX8_sendTrial cX8_sendTrial 2 none 1 := ⟨lw_gi 627 (by decide +kernel) rfl, mw_X8_sendTrial⟩
theorem ml_X8_197 : MLk RX8 197 yX4_send cX4_send 4 none 1 := ⟨lw_gi 631 (by decide +kernel) rfl, mw_X4_send⟩
theorem ml_X8_194 : MLk RX8 194 yX3_look cX3_look 2 (some .int) 1 := ⟨lw_gi 632 (by decide +kernel) rfl, mw_X3_look⟩
theorem ml_X3_146 : MLk RX3 146 yX3_ofResult cX3_ofResult 3 (some .int) 2 := ⟨lw_gi 636 (by decide +kernel) rfl, mw_X3_ofResult⟩
theorem ml_L_93 : MLk RL 93 yX8_sees cX8_sees 4 (some .int) 2 := ⟨lw_gi 637 (by decide +kernel) rfl, mw_X8_sees⟩
theorem ml_X8_201 : MLk RX8 201 yX5_append cX5_append 3 none 2 := ⟨lw_gi 641 (by decide +kernel) rfl, mw_X5_append⟩
theorem ml_L_97 : MLk RL 97 yX8_forget cX8_forget 2 (some .int) 0 := ⟨lw_gi 645 (by decide +kernel) rfl, mw_X8_forget⟩
theorem ml_L_101 : MLk RL 101 yX8_which cX8_which 2 (some .int) 1 := ⟨lw_gi 649 (by decide +kernel) rfl, mw_X8_which⟩
theorem ml_X8_204 : MLk RX8 204 yX5_agreeWith cX5_agreeWith 3 (some .boolean) 1 := ⟨lw_gi 653 (by decide +kernel) rfl, mw_X5_agreeWith⟩
theorem ml_X5_22 : MLk RX5 22 yX3_look cX3_look 2 (some .int) 1 := ⟨lw_gi 657 (by decide +kernel) rfl, mw_X3_look⟩
theorem ml_X8_207 : MLk RX8 207 yX8_findSuspects cX8_findSuspects 3 none 0 := ⟨lw_gi 658 (by decide +kernel) rfl, mw_X8_findSuspects⟩
theorem ml_X8_217 : MLk RX8 217 yX3_links cX3_links 1 (some .int) 0 := ⟨lw_gi 662 (by decide +kernel) rfl, mw_X3_links⟩
theorem ml_X8_219 : MLk RX8 219 yX6_append cX6_append 4 none 2 := ⟨lw_gi 663 (by decide +kernel) rfl, mw_X6_append⟩
theorem ml_X6_22 : MLk RX6 22 yX3_look cX3_look 2 (some .int) 1 := ⟨lw_gi 667 (by decide +kernel) rfl, mw_X3_look⟩
theorem ml_L_105 : MLk RL 105 yX8_ask cX8_ask 1 (some .int) 0 := ⟨lw_gi 668 (by decide +kernel) rfl, mw_X8_ask⟩
theorem ml_X8_214 : MLk RX8 214 yX6_bestLook cX6_bestLook 5 (some .int) 0 := ⟨lw_gi 672 (by decide +kernel) rfl, mw_X6_bestLook⟩
theorem ml_X6_28 : MLk RX6 28 yX6_mostAlike cX6_mostAlike 4 (some .int) 1 := ⟨lw_gi 676 (by decide +kernel) rfl, mw_X6_mostAlike⟩
theorem ml_X6_31 : MLk RX6 31 yX6_alikeWith cX6_alikeWith 5 (some .int) 2 := ⟨lw_gi 680 (by decide +kernel) rfl, mw_X6_alikeWith⟩
theorem ml_X6_35 : MLs RX6 35 yJ9_max_7cf53 cJ9_max_7cf53 2 (some .int) 2 := ⟨lw_gi 684 (by decide +kernel) rfl, mw_J9_max_7cf53⟩
theorem ml_L_109 : MLk RL 109 yX8_keep cX8_keep 2 (some .int) 1 := ⟨lw_gi 687 (by decide +kernel) rfl, mw_X8_keep⟩
theorem ml_L_113 : MLk RL 113 yX8_back cX8_back 2 (some .int) 1 := ⟨lw_gi 691 (by decide +kernel) rfl, mw_X8_back⟩
theorem ml_L_117 : MLk RL 117 yX8_count cX8_count 2 (some .int) 1 := ⟨lw_gi 695 (by decide +kernel) rfl, mw_X8_count⟩
theorem ml_X8_231 : MLk RX8 231 yX3_spread cX3_spread 4 (some .int) 0 := ⟨lw_gi 699 (by decide +kernel) rfl, mw_X3_spread⟩
theorem ml_X3_128 : MLk RX3 128 yX3_offOf cX3_offOf 2 (some .int) 1 := ⟨lw_gi 703 (by decide +kernel) rfl, mw_X3_offOf⟩
theorem ml_X3_132 : MLs RX3 132 yJ9_min_7cf53 cJ9_min_7cf53 2 (some .int) 2 := ⟨lw_gi 704 (by decide +kernel) rfl, mw_J9_min_7cf53⟩
theorem ml_X3_137 : MLs RX3 137 yJ9_max_7cf53 cJ9_max_7cf53 2 (some .int) 2 := ⟨lw_gi 705 (by decide +kernel) rfl, mw_J9_max_7cf53⟩
theorem ml_L_12 : Cond.methodLink RL 12 yX9_init ∈ lw_good := lw_gi 708 (by decide +kernel) rfl
theorem ml_X9_1 : Cond.methodLink RX9 1 objectInit ∈ lw_good := lw_gi 711 (by decide +kernel) rfl
theorem ml_X9_56 : MLk RX9 56 yX9_beginRead cX9_beginRead 2 none 0 := ⟨lw_gi 712 (by decide +kernel) rfl, mw_X9_beginRead⟩
theorem ml_X9_59 : MLs RX9 59 yX9_bring cX9_bring 5 none 4 := ⟨lw_gi 716 (by decide +kernel) rfl, mw_X9_bring⟩
theorem ml_L_17 : MLk RL 17 yX9_type cX9_type 2 (some .int) 1 := ⟨lw_gi 789 (by decide +kernel) rfl, mw_X9_type⟩
theorem ml_X9_76 : MLs RX9 76 yX9_in cX9_in 3 (some .boolean) 3 := ⟨lw_gi 793 (by decide +kernel) rfl, mw_X9_in⟩
theorem ml_L_22 : MLk RL 22 yX9_clear cX9_clear 2 (some .int) 0 := ⟨lw_gi 796 (by decide +kernel) rfl, mw_X9_clear⟩
theorem ml_L_26 : MLk RL 26 yX9_wires cX9_wires 2 (some .int) 0 := ⟨lw_gi 800 (by decide +kernel) rfl, mw_X9_wires⟩
theorem ml_X9_114 : MLk RX9 114 yX9_readWire cX9_readWire 2 (some .int) 0 := ⟨lw_gi 804 (by decide +kernel) rfl, mw_X9_readWire⟩
theorem ml_X9_87 : MLk RX9 87 yX9_scan cX9_scan 2 none 0 := ⟨lw_gi 808 (by decide +kernel) rfl, mw_X9_scan⟩
theorem ml_X9_83 : MLs RX9 83 yX9_isLetter cX9_isLetter 1 (some .boolean) 1 := ⟨lw_gi 812 (by decide +kernel) rfl, mw_X9_isLetter⟩
theorem ml_X9_102 : MLk RX9 102 yX9_readDrive cX9_readDrive 2 (some .boolean) 0 := ⟨lw_gi 815 (by decide +kernel) rfl, mw_X9_readDrive⟩
theorem ml_X9_90 : MLk RX9 90 yX9_scanNumber cX9_scanNumber 3 (some .boolean) 2 := ⟨lw_gi 819 (by decide +kernel) rfl, mw_X9_scanNumber⟩
theorem ml_X9_94 : MLk RX9 94 yX9_scanEnd cX9_scanEnd 1 (some .boolean) 0 := ⟨lw_gi 823 (by decide +kernel) rfl, mw_X9_scanEnd⟩
theorem ml_X9_105 : MLk RX9 105 yX9_readLast cX9_readLast 1 (some .boolean) 0 := ⟨lw_gi 827 (by decide +kernel) rfl, mw_X9_readLast⟩
theorem ml_X9_108 : MLk RX9 108 yX9_readLimit cX9_readLimit 1 (some .boolean) 0 := ⟨lw_gi 831 (by decide +kernel) rfl, mw_X9_readLimit⟩
theorem ml_X9_118 : MLk RX9 118 yX9_note cX9_note 2 none 0 := ⟨lw_gi 835 (by decide +kernel) rfl, mw_X9_note⟩
theorem ml_L_30 : MLk RL 30 yX9_frames cX9_frames 3 (some .int) 0 := ⟨lw_gi 839 (by decide +kernel) rfl, mw_X9_frames⟩
theorem ml_X9_121 : MLk RX9 121 yX9_readFrame cX9_readFrame 1 (some .int) 0 := ⟨lw_gi 843 (by decide +kernel) rfl, mw_X9_readFrame⟩
theorem ml_X9_111 : MLk RX9 111 yX9_readOrder cX9_readOrder 2 (some .boolean) 0 := ⟨lw_gi 847 (by decide +kernel) rfl, mw_X9_readOrder⟩
theorem ml_L_64 : MLk RL 64 yX9_undo cX9_undo 1 (some .int) 0 := ⟨lw_gi 851 (by decide +kernel) rfl, mw_X9_undo⟩
theorem ml_L_34 : MLk RL 34 yX9_cuts cX9_cuts 2 (some .int) 1 := ⟨lw_gi 855 (by decide +kernel) rfl, mw_X9_cuts⟩
theorem ml_X9_170 : MLk RX9 170 yX9_isLink cX9_isLink 2 (some .boolean) 1 := ⟨lw_gi 859 (by decide +kernel) rfl, mw_X9_isLink⟩
theorem ml_X9_167 : MLk RX9 167 yX9_links cX9_links 1 (some .int) 0 := ⟨lw_gi 863 (by decide +kernel) rfl, mw_X9_links⟩
theorem ml_X9_124 : MLs RX9 124 yX9_has cX9_has 2 (some .boolean) 2 := ⟨lw_gi 867 (by decide +kernel) rfl, mw_X9_has⟩
theorem ml_X9_173 : MLs RX9 173 yX9_ones cX9_ones 3 (some .int) 1 := ⟨lw_gi 870 (by decide +kernel) rfl, mw_X9_ones⟩
theorem ml_L_38 : MLk RL 38 yX9_heals cX9_heals 2 (some .int) 1 := ⟨lw_gi 873 (by decide +kernel) rfl, mw_X9_heals⟩
theorem ml_L_42 : MLk RL 42 yX9_cycles cX9_cycles 3 (some .int) 1 := ⟨lw_gi 877 (by decide +kernel) rfl, mw_X9_cycles⟩
theorem ml_X9_176 : MLk RX9 176 yX9_cycleOnce cX9_cycleOnce 4 none 0 := ⟨lw_gi 881 (by decide +kernel) rfl, mw_X9_cycleOnce⟩
theorem ml_X9_145 : MLk RX9 145 yX9_beginCopies cX9_beginCopies 2 none 0 := ⟨lw_gi 885 (by decide +kernel) rfl, mw_X9_beginCopies⟩
theorem ml_X9_151 : MLk RX9 151 yX9_send cX9_send 2 none 1 := ⟨lw_gi 889 (by decide +kernel) rfl, mw_X9_send⟩
theorem ml_X9_134 : MLk RX9 134 yX9_lastOfA cX9_lastOfA 3 (some .int) 1 := ⟨lw_gi 893 (by decide +kernel) rfl, mw_X9_lastOfA⟩
theorem ml_X9_148 : MLk RX9 148 yX9_passThrough cX9_passThrough 6 none 3 := ⟨lw_gi 897 (by decide +kernel) rfl, mw_X9_passThrough⟩
theorem ml_X9_141 : MLk RX9 141 yX9_handle cX9_handle 12 none 3 := ⟨lw_gi 901 (by decide +kernel) rfl, mw_X9_handle⟩
theorem ml_X9_138 : MLk RX9 138 yX9_firstOfB cX9_firstOfB 4 (some .int) 1 := ⟨lw_gi 905 (by decide +kernel) rfl, mw_X9_firstOfB⟩
theorem ml_X9_158 : MLk RX9 158 yX9_timeOf cX9_timeOf 6 (some .int) 2 := ⟨lw_gi 909 (by decide +kernel) rfl, mw_X9_timeOf⟩
theorem ml_X9_127 : MLk RX9 127 yX9_isWhole cX9_isWhole 2 (some .boolean) 1 := ⟨lw_gi 913 (by decide +kernel) rfl, mw_X9_isWhole⟩
theorem ml_X9_130 : MLk RX9 130 yX9_way cX9_way 5 (some .int) 2 := ⟨lw_gi 917 (by decide +kernel) rfl, mw_X9_way⟩
theorem ml_X9_155 : MLk RX9 155 yX9_countOf cX9_countOf 2 (some .int) 1 := ⟨lw_gi 921 (by decide +kernel) rfl, mw_X9_countOf⟩
theorem ml_X9_161 : MLk RX9 161 yX9_dataOf cX9_dataOf 3 (some .int) 1 := ⟨lw_gi 925 (by decide +kernel) rfl, mw_X9_dataOf⟩
theorem ml_X9_179 : MLk RX9 179 yX9_safeMany cX9_safeMany 3 (some .int) 0 := ⟨lw_gi 929 (by decide +kernel) rfl, mw_X9_safeMany⟩
theorem ml_L_46 : MLk RL 46 yX9_resets cX9_resets 4 (some .int) 1 := ⟨lw_gi 933 (by decide +kernel) rfl, mw_X9_resets⟩
theorem ml_X9_182 : MLk RX9 182 yX9_isDrive cX9_isDrive 2 (some .boolean) 1 := ⟨lw_gi 937 (by decide +kernel) rfl, mw_X9_isDrive⟩
theorem ml_L_51 : MLk RL 51 yX9_sets cX9_sets 6 (some .int) 3 := ⟨lw_gi 941 (by decide +kernel) rfl, mw_X9_sets⟩
theorem ml_L_56 : MLk RL 56 yX9_drifts cX9_drifts 4 (some .int) 2 := ⟨lw_gi 945 (by decide +kernel) rfl, mw_X9_drifts⟩
theorem ml_L_60 : MLk RL 60 yX9_measures cX9_measures 6 (some .int) 0 := ⟨lw_gi 949 (by decide +kernel) rfl, mw_X9_measures⟩
theorem ml_L_68 : MLk RL 68 yX9_drive cX9_drive 3 (some .int) 2 := ⟨lw_gi 953 (by decide +kernel) rfl, mw_X9_drive⟩
theorem ml_X9_186 : MLk RX9 186 yX9_offOf cX9_offOf 2 (some .int) 1 := ⟨lw_gi 958 (by decide +kernel) rfl, mw_X9_offOf⟩
theorem ml_L_72 : MLk RL 72 yX9_link cX9_link 3 (some .int) 2 := ⟨lw_gi 962 (by decide +kernel) rfl, mw_X9_link⟩
theorem ml_L_76 : MLk RL 76 yX9_order cX9_order 3 (some .int) 2 := ⟨lw_gi 966 (by decide +kernel) rfl, mw_X9_order⟩
theorem ml_X9_189 : MLk RX9 189 yX9_isOrder cX9_isOrder 2 (some .boolean) 1 := ⟨lw_gi 970 (by decide +kernel) rfl, mw_X9_isOrder⟩
theorem ml_L_80 : MLk RL 80 yX9_result cX9_result 3 (some .int) 2 := ⟨lw_gi 974 (by decide +kernel) rfl, mw_X9_result⟩
theorem ml_L_84 : MLk RL 84 yX9_time cX9_time 2 (some .int) 1 := ⟨lw_gi 978 (by decide +kernel) rfl, mw_X9_time⟩
theorem ml_L_88 : MLk RL 88 yX9_reached cX9_reached 4 (some .int) 1 := ⟨lw_gi 982 (by decide +kernel) rfl, mw_X9_reached⟩
theorem ml_L_92 : MLk RL 92 yX9_would cX9_would 2 (some .int) 1 := ⟨lw_gi 986 (by decide +kernel) rfl, mw_X9_would⟩
theorem ml_X9_192 : MLk RX9 192 yX9_findFacts cX9_findFacts 3 none 1 := ⟨lw_gi 990 (by decide +kernel) rfl, mw_X9_findFacts⟩
theorem ml_L_96 : MLk RL 96 yX9_sees cX9_sees 3 (some .int) 2 := ⟨lw_gi 994 (by decide +kernel) rfl, mw_X9_sees⟩
theorem ml_L_100 : MLk RL 100 yX9_forget cX9_forget 2 (some .int) 0 := ⟨lw_gi 998 (by decide +kernel) rfl, mw_X9_forget⟩
theorem ml_L_104 : MLk RL 104 yX9_which cX9_which 4 (some .int) 1 := ⟨lw_gi 1002 (by decide +kernel) rfl, mw_X9_which⟩
theorem ml_X9_198 : MLk RX9 198 yX9_isSo cX9_isSo 4 (some .boolean) 1 := ⟨lw_gi 1006 (by decide +kernel) rfl, mw_X9_isSo⟩
theorem ml_X9_201 : MLk RX9 201 yX9_findLinks cX9_findLinks 4 (some .int) 0 := ⟨lw_gi 1010 (by decide +kernel) rfl, mw_X9_findLinks⟩
theorem ml_L_108 : MLk RL 108 yX9_ask cX9_ask 9 (some .int) 0 := ⟨lw_gi 1014 (by decide +kernel) rfl, mw_X9_ask⟩
theorem ml_L_112 : MLk RL 112 yX9_keep cX9_keep 2 (some .int) 1 := ⟨lw_gi 1018 (by decide +kernel) rfl, mw_X9_keep⟩
theorem ml_L_116 : MLk RL 116 yX9_back cX9_back 2 (some .int) 1 := ⟨lw_gi 1022 (by decide +kernel) rfl, mw_X9_back⟩
theorem ml_L_120 : MLk RL 120 yX9_count cX9_count 2 (some .int) 1 := ⟨lw_gi 1026 (by decide +kernel) rfl, mw_X9_count⟩
theorem ml_X9_204 : MLk RX9 204 yX9_spread cX9_spread 4 (some .int) 0 := ⟨lw_gi 1030 (by decide +kernel) rfl, mw_X9_spread⟩
theorem cw_J6_265 : Cond.constant RJ6 265 (1431655765) ∈ lw_good := lw_gi 571 (by decide +kernel) rfl
theorem cw_J6_266 : Cond.constant RJ6 266 (858993459) ∈ lw_good := lw_gi 572 (by decide +kernel) rfl
theorem cw_J6_267 : Cond.constant RJ6 267 (252645135) ∈ lw_good := lw_gi 573 (by decide +kernel) rfl
theorem cw_X8_162 : Cond.constant RX8 162 (-1000000) ∈ lw_good := lw_gi 586 (by decide +kernel) rfl
theorem cw_X9_185 : Cond.constant RX9 185 (-1000000) ∈ lw_good := lw_gi 957 (by decide +kernel) rfl
theorem ow_inst : Cond.instanceMethod objectInit ∈ lw_good := lw_gi 21 (by decide +kernel) rfl
theorem ow_code : Cond.code objectInit ⟨#[0xb1]⟩ 1 none ∈ lw_good := lw_gi 22 (by decide +kernel) rfl
theorem aw_int : Cond.arrayClass .int ∈ lw_good := lw_gi 117 (by decide +kernel) rfl
theorem aw_boolean : Cond.arrayClass .boolean ∈ lw_good := lw_gi 231 (by decide +kernel) rfl
theorem zw_L : Cond.initialized RL ∈ lw_good := lw_gi 0 (by decide +kernel) rfl
theorem zw_X8 : Cond.initialized RX8 ∈ lw_good := lw_gi 1 (by decide +kernel) rfl
theorem zw_X3 : Cond.initialized RX3 ∈ lw_good := lw_gi 2 (by decide +kernel) rfl
theorem zw_J7 : Cond.initialized RJ7 ∈ lw_good := lw_gi 3 (by decide +kernel) rfl
theorem zw_X7 : Cond.initialized RX7 ∈ lw_good := lw_gi 4 (by decide +kernel) rfl
theorem zw_X2 : Cond.initialized RX2 ∈ lw_good := lw_gi 5 (by decide +kernel) rfl
theorem zw_X4 : Cond.initialized RX4 ∈ lw_good := lw_gi 6 (by decide +kernel) rfl
theorem zw_X0 : Cond.initialized RX0 ∈ lw_good := lw_gi 7 (by decide +kernel) rfl
theorem zw_X1 : Cond.initialized RX1 ∈ lw_good := lw_gi 8 (by decide +kernel) rfl
theorem zw_X5 : Cond.initialized RX5 ∈ lw_good := lw_gi 9 (by decide +kernel) rfl
theorem zw_X6 : Cond.initialized RX6 ∈ lw_good := lw_gi 10 (by decide +kernel) rfl
theorem zw_X9 : Cond.initialized RX9 ∈ lw_good := lw_gi 11 (by decide +kernel) rfl
theorem zw_J9 : Cond.initialized RJ9 ∈ lw_good := lw_gi 12 (by decide +kernel) rfl
theorem zw_J10 : Cond.initialized RJ10 ∈ lw_good := lw_gi 13 (by decide +kernel) rfl
theorem zw_J6 : Cond.initialized RJ6 ∈ lw_good := lw_gi 14 (by decide +kernel) rfl
theorem kw_L_7 : Cond.classLink RL 7 RX8 ∈ lw_good := lw_gi 15 (by decide +kernel) rfl
theorem nw_X8 : Cond.instantiable RX8 11 ∈ lw_good := lw_gi 16 (by decide +kernel) rfl
theorem kw_X8_7 : Cond.classLink RX8 7 RX3 ∈ lw_good := lw_gi 23 (by decide +kernel) rfl
theorem nw_X3 : Cond.instantiable RX3 12 ∈ lw_good := lw_gi 24 (by decide +kernel) rfl
theorem kw_X8_22 : Cond.classLink RX8 22 RX7 ∈ lw_good := lw_gi 118 (by decide +kernel) rfl
theorem nw_X7 : Cond.instantiable RX7 6 ∈ lw_good := lw_gi 119 (by decide +kernel) rfl
theorem kw_X8_29 : Cond.classLink RX8 29 RX2 ∈ lw_good := lw_gi 147 (by decide +kernel) rfl
theorem nw_X2 : Cond.instantiable RX2 2 ∈ lw_good := lw_gi 148 (by decide +kernel) rfl
theorem kw_X8_38 : Cond.classLink RX8 38 RX4 ∈ lw_good := lw_gi 160 (by decide +kernel) rfl
theorem nw_X4 : Cond.instantiable RX4 3 ∈ lw_good := lw_gi 161 (by decide +kernel) rfl
theorem kw_X4_9 : Cond.classLink RX4 9 RX0 ∈ lw_good := lw_gi 166 (by decide +kernel) rfl
theorem nw_X0 : Cond.instantiable RX0 3 ∈ lw_good := lw_gi 167 (by decide +kernel) rfl
theorem kw_X8_45 : Cond.classLink RX8 45 RX1 ∈ lw_good := lw_gi 194 (by decide +kernel) rfl
theorem nw_X1 : Cond.instantiable RX1 3 ∈ lw_good := lw_gi 195 (by decide +kernel) rfl
theorem kw_X1_9 : Cond.classLink RX1 9 RX3 ∈ lw_good := lw_gi 200 (by decide +kernel) rfl
theorem kw_X8_60 : Cond.classLink RX8 60 RX5 ∈ lw_good := lw_gi 214 (by decide +kernel) rfl
theorem nw_X5 : Cond.instantiable RX5 3 ∈ lw_good := lw_gi 215 (by decide +kernel) rfl
theorem kw_X8_67 : Cond.classLink RX8 67 RX6 ∈ lw_good := lw_gi 232 (by decide +kernel) rfl
theorem nw_X6 : Cond.instantiable RX6 3 ∈ lw_good := lw_gi 233 (by decide +kernel) rfl
theorem kw_L_10 : Cond.classLink RL 10 RX9 ∈ lw_good := lw_gi 706 (by decide +kernel) rfl
theorem nw_X9 : Cond.instantiable RX9 23 ∈ lw_good := lw_gi 707 (by decide +kernel) rfl
theorem acw_native : Cond.native arraycopyName ∈ lw_good := lw_gi 373 (by decide +kernel) rfl
theorem acw_static : Cond.static arraycopyName ∈ lw_good := lw_gi 372 (by decide +kernel) rfl
end
section
/-! Numbers, states as rows of ints, the objects' cells -/
abbrev S2 : Type := Nat → Nat → Int32
def u2 (R : S2) (i j : Nat) (v : Int32) : S2 := va_up R i (upd (R i) j v)
def u1 (R : S2) (i : Nat) (f : Nat → Int32) : S2 := va_up R i f
def bI (P : Prop) [Decidable P] : Int32 := if P then 1 else 0
theorem bI_t {P : Prop} [Decidable P] (h : P) : 1 = bI P := by simp [bI, h]
theorem bI_f {P : Prop} [Decidable P] (h : ¬ P) : 0 = bI P := by simp [bI, h]
theorem rf_bnar {P : Prop} [Decidable P] : narrow .boolean (.int (bI P)) = .int (bI P) := by by_cases h : P <;> simp only [bI, h, if_true, if_false] <;> rfl
theorem nl (n : Nat) : (OfNat.ofNat n : Int32) = nI n := rfl
theorem rf_add {x y : Int32} {a b : Nat} (hx : x = nI a) (hy : y = nI b) : x + y = nI (a + b) := by rw [hx, hy, nI_add]
theorem rf_mul {x y : Int32} {a b : Nat} (hx : x = nI a) (hy : y = nI b) : x * y = nI (a * b) := by rw [hx, hy, pk_mul]
theorem rf_sub {x y : Int32} {a b : Nat} (hx : x = nI a) (hy : y = nI b) (h : b ≤ a) : x - y = nI (a - b) := by rw [hx, hy, pk_sub h]
section RFN
variable {x y : Int32} {a b : Nat}
theorem rf_eqP (hx : x = nI a) (hy : y = nI b) (ha : a < 2147483648) (hb : b < 2147483648) (h : x = y) : a = b := by subst hx; subst hy; exact (nI_eq ha hb).mp h
theorem rf_eqN (hx : x = nI a) (hy : y = nI b) (ha : a < 2147483648) (hb : b < 2147483648) (h : ¬ x = y) : ¬ a = b := by subst hx; subst hy; exact fun e => h (by rw [e])
theorem rf_ltP (hx : x = nI a) (hy : y = nI b) (ha : a < 2147483648) (hb : b < 2147483648) (h : x < y) : a < b := by subst hx; subst hy; exact (nI_ltI ha hb).mp h
theorem rf_ltN (hx : x = nI a) (hy : y = nI b) (ha : a < 2147483648) (hb : b < 2147483648) (h : ¬ x < y) : ¬ a < b := by subst hx; subst hy; exact fun e => h ((nI_ltI ha hb).mpr e)
theorem rf_geP (hx : x = nI a) (hy : y = nI b) (ha : a < 2147483648) (hb : b < 2147483648) (h : y ≤ x) : b ≤ a := by subst hx; subst hy; exact (nI_leI hb ha).mp h
theorem rf_geN (hx : x = nI a) (hy : y = nI b) (ha : a < 2147483648) (hb : b < 2147483648) (h : ¬ y ≤ x) : ¬ b ≤ a := by subst hx; subst hy; exact fun e => h ((nI_leI hb ha).mpr e)
theorem rf_gtP (hx : x = nI a) (hy : y = nI b) (ha : a < 2147483648) (hb : b < 2147483648) (h : y < x) : b < a := by subst hx; subst hy; exact (nI_ltI hb ha).mp h
theorem rf_gtN (hx : x = nI a) (hy : y = nI b) (ha : a < 2147483648) (hb : b < 2147483648) (h : ¬ y < x) : ¬ b < a := by subst hx; subst hy; exact fun e => h ((nI_ltI hb ha).mpr e)
theorem rf_leP (hx : x = nI a) (hy : y = nI b) (ha : a < 2147483648) (hb : b < 2147483648) (h : x ≤ y) : a ≤ b := by subst hx; subst hy; exact (nI_leI ha hb).mp h
theorem rf_leN (hx : x = nI a) (hy : y = nI b) (ha : a < 2147483648) (hb : b < 2147483648) (h : ¬ x ≤ y) : ¬ a ≤ b := by subst hx; subst hy; exact fun e => h ((nI_leI ha hb).mpr e)
theorem rf_ltMP (hx : x = nI a) (hy : y = nI b) (ha : a < 2147483648) (hb : b < 2147483648) (h : a < b) : x < y := by subst hx; subst hy; exact (nI_ltI ha hb).mpr h
theorem rf_ltMN (hx : x = nI a) (hy : y = nI b) (ha : a < 2147483648) (hb : b < 2147483648) (h : ¬ a < b) : ¬ x < y := by subst hx; subst hy; exact fun e => h ((nI_ltI ha hb).mp e)
theorem rf_geMP (hx : x = nI a) (hy : y = nI b) (ha : a < 2147483648) (hb : b < 2147483648) (h : b ≤ a) : y ≤ x := by subst hx; subst hy; exact (nI_leI hb ha).mpr h
theorem rf_geMN (hx : x = nI a) (hy : y = nI b) (ha : a < 2147483648) (hb : b < 2147483648) (h : ¬ b ≤ a) : ¬ y ≤ x := by subst hx; subst hy; exact fun e => h ((nI_leI hb ha).mp e)
theorem rf_gtMP (hx : x = nI a) (hy : y = nI b) (ha : a < 2147483648) (hb : b < 2147483648) (h : b < a) : y < x := by subst hx; subst hy; exact (nI_ltI hb ha).mpr h
theorem rf_gtMN (hx : x = nI a) (hy : y = nI b) (ha : a < 2147483648) (hb : b < 2147483648) (h : ¬ b < a) : ¬ y < x := by subst hx; subst hy; exact fun e => h ((nI_ltI hb ha).mp e)
theorem rf_leMP (hx : x = nI a) (hy : y = nI b) (ha : a < 2147483648) (hb : b < 2147483648) (h : a ≤ b) : x ≤ y := by subst hx; subst hy; exact (nI_leI ha hb).mpr h
theorem rf_leMN (hx : x = nI a) (hy : y = nI b) (ha : a < 2147483648) (hb : b < 2147483648) (h : ¬ a ≤ b) : ¬ x ≤ y := by subst hx; subst hy; exact fun e => h ((nI_leI ha hb).mp e)
theorem rf_eqMP (hx : x = nI a) (hy : y = nI b) (ha : a < 2147483648) (hb : b < 2147483648) (h : a = b) : x = y := by subst hx; subst hy; exact (nI_eq ha hb).mpr h
theorem rf_eqMN (hx : x = nI a) (hy : y = nI b) (ha : a < 2147483648) (hb : b < 2147483648) (h : ¬ a = b) : ¬ x = y := by subst hx; subst hy; exact fun e => h ((nI_eq ha hb).mp e)
end RFN
/-! the cells -/
abbrev wArr (V : VT) (a n : Nat) (f : Nat → Int32) : va_W := [(a, .inl (V.2.2 0, n, .inl f))]
abbrev wRing (V : VT) (ad : Nat → Nat) (R : S2) : va_W := [(ad 0, .inr (3, [.ref (ad 1), .ref (ad 2), .ref (ad 3), .ref (ad 4), .ref (ad 5), .int (R 5 0), .int (R 5 1), .int (R 5 2), .int (R 5 3), .int (R 5 4), .int (R 5 5), .int (R 5 6)])), (ad 1, .inl (V.2.2 0, 54, .inl (R 0))), (ad 2, .inl (V.2.2 0, 14, .inl (R 1))), (ad 3, .inl (V.2.2 0, 20, .inl (R 2))), (ad 4, .inl (V.2.2 0, 8, .inl (R 3))), (ad 5, .inl (V.2.2 0, 2, .inl (R 4)))]
abbrev wText (V : VT) (ad : Nat → Nat) (T : S2) : va_W := [(ad 0, .inr (7, [.ref (ad 1), .int (T 1 0), .int (T 1 1), .int (T 1 2), .int (T 1 3), .int (T 1 4)])), (ad 1, .inl (V.2.2 0, 120, .inl (T 0)))]
abbrev wTx (V : VT) (ad : Nat → Nat) (L : Nat → Int32) (a b c d e : Int32) : va_W := [(ad 0, .inr (7, [.ref (ad 1), .int a, .int b, .int c, .int d, .int e])), (ad 1, .inl (V.2.2 0, 120, .inl L))]
abbrev wRd (a tx : Nat) (v : Int32) : va_W := [(a, .inr (2, [.ref tx, .int v]))]
abbrev wSd (a ca cb : Nat) (v : Int32) : va_W := [(a, .inr (4, [.ref ca, .ref cb, .int v]))]
abbrev wReader (a tx : Nat) (L : S2) : va_W := [(a, .inr (2, [.ref tx, .int (L 0 0)]))]
abbrev wCopy (V : VT) (ad : Nat → Nat) (C : S2) : va_W := [(ad 0, .inr (0, [.ref (ad 1), .ref (ad 2), .ref (ad 3)])), (ad 1, .inl (V.2.2 0, 4, .inl (C 0))), (ad 2, .inl (V.2.2 0, 4, .inl (C 1))), (ad 3, .inl (V.2.2 0, 4, .inl (C 2)))]
abbrev wSender (a ca cb : Nat) (Z : S2) : va_W := [(a, .inr (4, [.ref ca, .ref cb, .int (Z 0 0)]))]
abbrev wSight (V : VT) (ad : Nat → Nat) (U : S2) : va_W := [(ad 0, .inr (5, [.ref (ad 1), .ref (ad 2), .int (U 2 0)])), (ad 1, .inl (V.2.2 0, 6, .inl (U 0))), (ad 2, .inl (V.2.2 0, 6, .inl (U 1)))]
abbrev wSusp (V : VT) (ad : Nat → Nat) (Y : S2) : va_W := [(ad 0, .inr (6, [.ref (ad 1), .ref (ad 2), .int (Y 2 0)])), (ad 1, .inl (V.2.2 0, 7, .inl (Y 0))), (ad 2, .inl (V.2.2 0, 42, .inl (Y 1)))]
abbrev wModel (V : VT) (ad : Nat → Nat) (M : S2) : va_W := [(ad 0, .inr (9, [.ref (ad 1), .ref (ad 2), .ref (ad 3), .int (M 3 0), .ref (ad 4), .ref (ad 5), .ref (ad 6), .int (M 7 0), .int (M 8 0), .int (M 9 0), .int (M 10 0), .int (M 11 0), .ref (ad 7), .ref (ad 8), .int (M 14 0), .int (M 15 0), .ref (ad 9), .ref (ad 10), .ref (ad 11), .ref (ad 12), .ref (ad 13), .ref (ad 14), .ref (ad 15)])), (ad 1, .inl (V.2.2 0, 99, .inl (M 0))), (ad 2, .inl (V.2.2 0, 99, .inl (M 1))), (ad 3, .inl (V.2.2 0, 594, .inl (M 2))), (ad 4, .inl (V.2.2 0, 198, .inl (M 4))), (ad 5, .inl (V.2.2 1, 2, .inl (M 5))), (ad 6, .inl (V.2.2 0, 120, .inl (M 6))), (ad 7, .inl (V.2.2 0, 6, .inl (M 12))), (ad 8, .inl (V.2.2 0, 6, .inl (M 13))), (ad 9, .inl (V.2.2 0, 8, .inl (M 16))), (ad 10, .inl (V.2.2 0, 8, .inl (M 17))), (ad 11, .inl (V.2.2 0, 4, .inl (M 18))), (ad 12, .inl (V.2.2 1, 6, .inl (M 19))), (ad 13, .inl (V.2.2 0, 6, .inl (M 20))), (ad 14, .inl (V.2.2 0, 99, .inl (M 21))), (ad 15, .inl (V.2.2 0, 42, .inl (M 22)))]
section RFG2
variable {V : VT} {K : KT} {nL nc ns : Nat} {ws ws' : va_W} {pc : Nat} {lv lv' : List (Nat × Value)} {st : List Value} {cc : ByteArray} {own : String} {rm : Room}
theorem g_if_eq_b {P : Prop} [Decidable P] {off : Int} (cx : Cx V K nL cc own rm) (tgt : Nat) (hd : decode cc pc = .ok (.ifCond .eq off, 3)) (ht0 : (pc : Int) + off = (tgt : Int)) (kt : ¬ P → G V K nL nc ns ws tgt lv st) (kf : P → G V K nL nc ns ws (pc + 3) lv st) : G V K nL nc ns ws pc lv (.int (bI P) :: st) :=
  g_if_eq cx tgt hd ht0 (fun h => kt (fun p => by simp [bI, p] at h)) (fun h => kf (Decidable.byContradiction (fun p => h (by simp [bI, p]))))
theorem g_if_ne_b {P : Prop} [Decidable P] {off : Int} (cx : Cx V K nL cc own rm) (tgt : Nat) (hd : decode cc pc = .ok (.ifCond .ne off, 3)) (ht0 : (pc : Int) + off = (tgt : Int)) (kt : P → G V K nL nc ns ws tgt lv st) (kf : ¬ P → G V K nL nc ns ws (pc + 3) lv st) : G V K nL nc ns ws pc lv (.int (bI P) :: st) :=
  g_if_ne cx tgt hd ht0 (fun h => kt (Decidable.byContradiction (fun p => h (by simp [bI, p])))) (fun h => kf (fun p => by simp [bI, p] at h))
theorem g_mmin {x y : Int32} {idx : Nat} (cx : Cx V K nL cc own rm) (hl : MLs own idx yJ9_min_7cf53 cJ9_min_7cf53 2 (some .int) 2) (hd : decode cc pc = .ok (.invokestatic idx, 3)) (hf : 1 ≤ rm.frames) (hlo : (st.map fun v => v.category).sum + 13 ≤ rm.locals) (hc : nc ≤ rm.cells) (hs : ns ≤ rm.slots) (k : G V K nL nc ns ws (pc + 3) lv (.int (if y < x then y else x) :: st)) : G V K nL nc ns ws pc lv (.int y :: .int x :: st) := by
  obtain ⟨l, D, cy⟩ := V; obtain ⟨p, e, R, s, m, args, below, meth, c, A, H0, Q⟩ := K
  obtain ⟨hx, hb, hml, hown, ht, hK, hN, hlk, hR, hA⟩ := cx
  subst hR
  obtain ⟨m1, m2, m3, m4, -⟩ := hl
  have e1 : cJ9_min_7cf53 = Lib.Math.min.code := by decide +kernel
  have e2 : yJ9_min_7cf53 = Lib.Math.min.name := by decide +kernel
  rw [e2] at m1 m2 m4
  rw [e1] at m4
  intro H locs ls hP hD hS hl
  exact va_mmin hx hb (hml.trans hl.1.symm) hown (ht _ m1) (ht _ m2) (ht _ m3) (ht _ m4) hf hlo hc hs hd (k H locs ls hP hD hS hl)
theorem g_mmax {x y : Int32} {idx : Nat} (cx : Cx V K nL cc own rm) (hl : MLs own idx yJ9_max_7cf53 cJ9_max_7cf53 2 (some .int) 2) (hd : decode cc pc = .ok (.invokestatic idx, 3)) (hf : 1 ≤ rm.frames) (hlo : (st.map fun v => v.category).sum + 13 ≤ rm.locals) (hc : nc ≤ rm.cells) (hs : ns ≤ rm.slots) (k : G V K nL nc ns ws (pc + 3) lv (.int (if x < y then y else x) :: st)) : G V K nL nc ns ws pc lv (.int y :: .int x :: st) := by
  obtain ⟨l, D, cy⟩ := V; obtain ⟨p, e, R, s, m, args, below, meth, c, A, H0, Q⟩ := K
  obtain ⟨hx, hb, hml, hown, ht, hK, hN, hlk, hR, hA⟩ := cx
  subst hR
  obtain ⟨m1, m2, m3, m4, -⟩ := hl
  have e1 : cJ9_max_7cf53 = Lib.Math.max.code := by decide +kernel
  have e2 : yJ9_max_7cf53 = Lib.Math.max.name := by decide +kernel
  rw [e2] at m1 m2 m4
  rw [e1] at m4
  intro H locs ls hP hD hS hl
  exact va_mmax hx hb (hml.trans hl.1.symm) hown (ht _ m1) (ht _ m2) (ht _ m3) (ht _ m4) hf hlo hc hs hd (k H locs ls hP hD hS hl)
/-- fewer locals, by their places -/
theorem g_lvk (ks : List Nat) (h : lv_pick lv ks = lv') (k : G V K nL nc ns ws pc lv' st) : G V K nL nc ns ws pc lv st := g_lv lv' (fun q hq => by
  rw [← h] at hq
  obtain ⟨i, -, hi⟩ := List.mem_filterMap.mp hq
  exact List.mem_of_getElem? hi) k
/-- System.arraycopy of a whole row -/
theorem g_copy {a0 a1 n idx : Nat} {f g : Nat → Int32} (cx : Cx V K nL cc own rm) (hl : Cond.methodLink own idx arraycopyName ∈ lw_good) (hd : decode cc pc = .ok (.invokestatic idx, 3)) (q0 q1 : Nat) (h0 : ws[q0]? = some (a0, .inl (V.2.2 0, n, .inl f))) (h1 : ws[q1]? = some (a1, .inl (V.2.2 0, n, .inl g))) {sp dp nn : Int32} (hsp : sp = nI 0) (hdp : dp = nI 0) (hnn : nn = nI n) (hn : n < 2 ^ 31) (hf : 1 ≤ rm.frames) (hlo : (st.map fun v => v.category).sum + (nativeFrameWords "java/lang/System" "arraycopy" 5 + 11) ≤ rm.locals) (hw : ws.set q1 (a1, .inl (V.2.2 0, n, .inl (va_cpy f g 0 0 n))) = ws') (k : G V K nL nc ns ws' (pc + 3) lv st) : G V K nL nc ns ws pc lv (.int nn :: .int dp :: .ref a1 :: .int sp :: .ref a0 :: st) := by
  obtain ⟨l, D, cy⟩ := V; obtain ⟨p, e, R, s, m, args, below, meth, c, A, H0, Q⟩ := K
  obtain ⟨hx, hb, hml, hown, ht, hK, hN, hlk, hR, hA⟩ := cx
  subst hR; subst hsp; subst hdp; subst hnn; subst hw
  intro H locs ls hP hD hS hl
  refine va_copyi hx hb (hml.trans hl.1.symm) hown (ht _ ‹_›) (ht _ acw_native) (ht _ acw_static) (ht _ zw_J10) hK hP hD hS q0 q1 0 0 h0 h1 rfl rfl rfl (nI_pos (by decide)) (nI_pos (by decide)) (nI_pos hn) (by rw [nI_clamp hn, nI_clamp (by decide)]; omega) (by rw [nI_clamp hn, nI_clamp (by decide)]; omega) (fun _ _ => rfl) hf hlo hd (fun H1 locs1 p1 d1 s1 => ?_)
  rw [nI_clamp hn, nI_clamp (by decide)] at p1 d1
  exact k H1 locs1 ls p1 d1 s1 hl
end RFG2
end
section
def rLinks (R : S2) : Int32 := if R 5 4 = 0 then R 5 0 else R 5 0 + 1
def rm_X3_takesDrive : Room := { frames := 0, cells := 0, slots := 0, locals := 0 }
set_option maxRecDepth 100000 in
set_option maxHeartbeats 4000000 in
theorem c_X3_takesDrive (V : VT) (ad : Nat → Nat) (R : S2) : CI V yX3_takesDrive cX3_takesDrive 1 .boolean rm_X3_takesDrive [.ref (ad 0)] (wRing V ad R) (fun r_ w_ => r_ = bI (R 5 4 = 0 ∧ ¬ 6 ≤ R 5 0) ∧ w_ = wRing V ad R) := by
  refine CI_intro (by decide) (Nat.le_of_ble_eq_true rfl) (fun K cx hret => ?_)
  show G V K 1 0 0 (wRing V ad R) 0 [(0, .ref (ad 0))] []
  refine g_aload_n (v := ad 0) cx dX3_takesDrive_0 rfl ?_
  refine g_get (v := .int (R 5 4)) cx fk_X3_38 dX3_takesDrive_1 0 rfl rfl ?_
  refine g_if_ne cx 20 dX3_takesDrive_4 (by decide) (fun hw1 => ?_) (fun hw1 => ?_)
  · skip
    refine g_iconst (v := 0) cx dX3_takesDrive_20 (by decide) ?_
    exact hret _ _ _ _ dX3_takesDrive_21 (by first | rfl | exact rf_bnar _) (⟨by simp only [bI, hw1, not_true_eq_false, not_false_eq_true, and_true, true_and, and_false, false_and, or_true, true_or, or_false, false_or, if_true, if_false], rfl⟩)
  · skip
    refine g_aload_n (v := ad 0) cx dX3_takesDrive_7 rfl ?_
    refine g_get (v := .int (R 5 0)) cx fk_X3_34 dX3_takesDrive_8 0 rfl rfl ?_
    refine g_bipush (v := 6) cx dX3_takesDrive_11 (by decide) ?_
    refine g_icmp_ge cx 20 dX3_takesDrive_13 (by decide) (fun hw2 => ?_) (fun hw2 => ?_)
    · skip
      refine g_iconst (v := 0) cx dX3_takesDrive_20 (by decide) ?_
      exact hret _ _ _ _ dX3_takesDrive_21 (by first | rfl | exact rf_bnar _) (⟨by simp only [bI, hw1, hw2, not_true_eq_false, not_false_eq_true, and_true, true_and, and_false, false_and, or_true, true_or, or_false, false_or, if_true, if_false], rfl⟩)
    · skip
      refine g_iconst (v := 1) cx dX3_takesDrive_16 (by decide) ?_
      refine g_goto cx 21 dX3_takesDrive_17 (by decide) ?_
      exact hret _ _ _ _ dX3_takesDrive_21 (by first | rfl | exact rf_bnar _) (⟨by simp only [bI, hw1, hw2, not_true_eq_false, not_false_eq_true, and_true, true_and, and_false, false_and, or_true, true_or, or_false, false_or, if_true, if_false], rfl⟩)
def rm_X3_takesClosing : Room := { frames := 0, cells := 0, slots := 0, locals := 0 }
set_option maxRecDepth 100000 in
set_option maxHeartbeats 4000000 in
theorem c_X3_takesClosing (V : VT) (ad : Nat → Nat) (R : S2) : CI V yX3_takesClosing cX3_takesClosing 1 .boolean rm_X3_takesClosing [.ref (ad 0)] (wRing V ad R) (fun r_ w_ => r_ = bI (R 5 4 = 0 ∧ ¬ R 5 0 ≤ 0) ∧ w_ = wRing V ad R) := by
  refine CI_intro (by decide) (Nat.le_of_ble_eq_true rfl) (fun K cx hret => ?_)
  show G V K 1 0 0 (wRing V ad R) 0 [(0, .ref (ad 0))] []
  refine g_aload_n (v := ad 0) cx dX3_takesClosing_0 rfl ?_
  refine g_get (v := .int (R 5 4)) cx fk_X3_38 dX3_takesClosing_1 0 rfl rfl ?_
  refine g_if_ne cx 18 dX3_takesClosing_4 (by decide) (fun hw1 => ?_) (fun hw1 => ?_)
  · skip
    refine g_iconst (v := 0) cx dX3_takesClosing_18 (by decide) ?_
    exact hret _ _ _ _ dX3_takesClosing_19 (by first | rfl | exact rf_bnar _) (⟨by simp only [bI, hw1, not_true_eq_false, not_false_eq_true, and_true, true_and, and_false, false_and, or_true, true_or, or_false, false_or, if_true, if_false], rfl⟩)
  · skip
    refine g_aload_n (v := ad 0) cx dX3_takesClosing_7 rfl ?_
    refine g_get (v := .int (R 5 0)) cx fk_X3_34 dX3_takesClosing_8 0 rfl rfl ?_
    refine g_if_le cx 18 dX3_takesClosing_11 (by decide) (fun hw2 => ?_) (fun hw2 => ?_)
    · skip
      refine g_iconst (v := 0) cx dX3_takesClosing_18 (by decide) ?_
      exact hret _ _ _ _ dX3_takesClosing_19 (by first | rfl | exact rf_bnar _) (⟨by simp only [bI, hw1, hw2, not_true_eq_false, not_false_eq_true, and_true, true_and, and_false, false_and, or_true, true_or, or_false, false_or, if_true, if_false], rfl⟩)
    · skip
      refine g_iconst (v := 1) cx dX3_takesClosing_14 (by decide) ?_
      refine g_goto cx 19 dX3_takesClosing_15 (by decide) ?_
      exact hret _ _ _ _ dX3_takesClosing_19 (by first | rfl | exact rf_bnar _) (⟨by simp only [bI, hw1, hw2, not_true_eq_false, not_false_eq_true, and_true, true_and, and_false, false_and, or_true, true_or, or_false, false_or, if_true, if_false], rfl⟩)
def rm_X3_takesOrder : Room := { frames := 0, cells := 0, slots := 0, locals := 0 }
set_option maxRecDepth 100000 in
set_option maxHeartbeats 4000000 in
theorem c_X3_takesOrder (V : VT) (ad : Nat → Nat) (R : S2) : CI V yX3_takesOrder cX3_takesOrder 1 .boolean rm_X3_takesOrder [.ref (ad 0)] (wRing V ad R) (fun r_ w_ => r_ = bI (¬ 4 ≤ R 5 1) ∧ w_ = wRing V ad R) := by
  refine CI_intro (by decide) (Nat.le_of_ble_eq_true rfl) (fun K cx hret => ?_)
  show G V K 1 0 0 (wRing V ad R) 0 [(0, .ref (ad 0))] []
  refine g_aload_n (v := ad 0) cx dX3_takesOrder_0 rfl ?_
  refine g_get (v := .int (R 5 1)) cx fk_X3_54 dX3_takesOrder_1 0 rfl rfl ?_
  refine g_iconst (v := 4) cx dX3_takesOrder_4 (by decide) ?_
  refine g_icmp_ge cx 12 dX3_takesOrder_5 (by decide) (fun hw1 => ?_) (fun hw1 => ?_)
  · skip
    refine g_iconst (v := 0) cx dX3_takesOrder_12 (by decide) ?_
    exact hret _ _ _ _ dX3_takesOrder_13 (by first | rfl | exact rf_bnar _) (⟨by simp only [bI, hw1, not_true_eq_false, not_false_eq_true, and_true, true_and, and_false, false_and, or_true, true_or, or_false, false_or, if_true, if_false], rfl⟩)
  · skip
    refine g_iconst (v := 1) cx dX3_takesOrder_8 (by decide) ?_
    refine g_goto cx 13 dX3_takesOrder_9 (by decide) ?_
    exact hret _ _ _ _ dX3_takesOrder_13 (by first | rfl | exact rf_bnar _) (⟨by simp only [bI, hw1, not_true_eq_false, not_false_eq_true, and_true, true_and, and_false, false_and, or_true, true_or, or_false, false_or, if_true, if_false], rfl⟩)
def rm_X3_hasDrive : Room := { frames := 0, cells := 0, slots := 0, locals := 0 }
set_option maxRecDepth 100000 in
set_option maxHeartbeats 4000000 in
theorem c_X3_hasDrive (V : VT) (ad : Nat → Nat) (R : S2) (d : Int32) : CI V yX3_hasDrive cX3_hasDrive 2 .boolean rm_X3_hasDrive [.ref (ad 0), .int d] (wRing V ad R) (fun r_ w_ => r_ = bI (¬ d < 0 ∧ ¬ R 5 0 ≤ d) ∧ w_ = wRing V ad R) := by
  refine CI_intro (by decide) (Nat.le_of_ble_eq_true rfl) (fun K cx hret => ?_)
  show G V K 2 0 0 (wRing V ad R) 0 [(0, .ref (ad 0)), (1, .int d)] []
  refine g_iload_n (v := d) cx dX3_hasDrive_0 rfl ?_
  refine g_if_lt cx 16 dX3_hasDrive_1 (by decide) (fun hw1 => ?_) (fun hw1 => ?_)
  · skip
    refine g_iconst (v := 0) cx dX3_hasDrive_16 (by decide) ?_
    exact hret _ _ _ _ dX3_hasDrive_17 (by first | rfl | exact rf_bnar _) (⟨by simp only [bI, hw1, not_true_eq_false, not_false_eq_true, and_true, true_and, and_false, false_and, or_true, true_or, or_false, false_or, if_true, if_false], rfl⟩)
  · skip
    refine g_iload_n (v := d) cx dX3_hasDrive_4 rfl ?_
    refine g_aload_n (v := ad 0) cx dX3_hasDrive_5 rfl ?_
    refine g_get (v := .int (R 5 0)) cx fk_X3_34 dX3_hasDrive_6 0 rfl rfl ?_
    refine g_icmp_ge cx 16 dX3_hasDrive_9 (by decide) (fun hw2 => ?_) (fun hw2 => ?_)
    · skip
      refine g_iconst (v := 0) cx dX3_hasDrive_16 (by decide) ?_
      exact hret _ _ _ _ dX3_hasDrive_17 (by first | rfl | exact rf_bnar _) (⟨by simp only [bI, hw1, hw2, not_true_eq_false, not_false_eq_true, and_true, true_and, and_false, false_and, or_true, true_or, or_false, false_or, if_true, if_false], rfl⟩)
    · skip
      refine g_iconst (v := 1) cx dX3_hasDrive_12 (by decide) ?_
      refine g_goto cx 17 dX3_hasDrive_13 (by decide) ?_
      exact hret _ _ _ _ dX3_hasDrive_17 (by first | rfl | exact rf_bnar _) (⟨by simp only [bI, hw1, hw2, not_true_eq_false, not_false_eq_true, and_true, true_and, and_false, false_and, or_true, true_or, or_false, false_or, if_true, if_false], rfl⟩)
def rm_X3_hasOrder : Room := { frames := 0, cells := 0, slots := 0, locals := 0 }
set_option maxRecDepth 100000 in
set_option maxHeartbeats 4000000 in
theorem c_X3_hasOrder (V : VT) (ad : Nat → Nat) (R : S2) (d : Int32) : CI V yX3_hasOrder cX3_hasOrder 2 .boolean rm_X3_hasOrder [.ref (ad 0), .int d] (wRing V ad R) (fun r_ w_ => r_ = bI (¬ d < 0 ∧ ¬ R 5 1 ≤ d) ∧ w_ = wRing V ad R) := by
  refine CI_intro (by decide) (Nat.le_of_ble_eq_true rfl) (fun K cx hret => ?_)
  show G V K 2 0 0 (wRing V ad R) 0 [(0, .ref (ad 0)), (1, .int d)] []
  refine g_iload_n (v := d) cx dX3_hasOrder_0 rfl ?_
  refine g_if_lt cx 16 dX3_hasOrder_1 (by decide) (fun hw1 => ?_) (fun hw1 => ?_)
  · skip
    refine g_iconst (v := 0) cx dX3_hasOrder_16 (by decide) ?_
    exact hret _ _ _ _ dX3_hasOrder_17 (by first | rfl | exact rf_bnar _) (⟨by simp only [bI, hw1, not_true_eq_false, not_false_eq_true, and_true, true_and, and_false, false_and, or_true, true_or, or_false, false_or, if_true, if_false], rfl⟩)
  · skip
    refine g_iload_n (v := d) cx dX3_hasOrder_4 rfl ?_
    refine g_aload_n (v := ad 0) cx dX3_hasOrder_5 rfl ?_
    refine g_get (v := .int (R 5 1)) cx fk_X3_54 dX3_hasOrder_6 0 rfl rfl ?_
    refine g_icmp_ge cx 16 dX3_hasOrder_9 (by decide) (fun hw2 => ?_) (fun hw2 => ?_)
    · skip
      refine g_iconst (v := 0) cx dX3_hasOrder_16 (by decide) ?_
      exact hret _ _ _ _ dX3_hasOrder_17 (by first | rfl | exact rf_bnar _) (⟨by simp only [bI, hw1, hw2, not_true_eq_false, not_false_eq_true, and_true, true_and, and_false, false_and, or_true, true_or, or_false, false_or, if_true, if_false], rfl⟩)
    · skip
      refine g_iconst (v := 1) cx dX3_hasOrder_12 (by decide) ?_
      refine g_goto cx 17 dX3_hasOrder_13 (by decide) ?_
      exact hret _ _ _ _ dX3_hasOrder_17 (by first | rfl | exact rf_bnar _) (⟨by simp only [bI, hw1, hw2, not_true_eq_false, not_false_eq_true, and_true, true_and, and_false, false_and, or_true, true_or, or_false, false_or, if_true, if_false], rfl⟩)
def rm_X3_links : Room := { frames := 0, cells := 0, slots := 0, locals := 0 }
set_option maxRecDepth 100000 in
set_option maxHeartbeats 4000000 in
theorem c_X3_links (V : VT) (ad : Nat → Nat) (R : S2) : CI V yX3_links cX3_links 1 .int rm_X3_links [.ref (ad 0)] (wRing V ad R) (fun r_ w_ => r_ = rLinks R ∧ w_ = wRing V ad R) := by
  refine CI_intro (by decide) (Nat.le_of_ble_eq_true rfl) (fun K cx hret => ?_)
  show G V K 1 0 0 (wRing V ad R) 0 [(0, .ref (ad 0))] []
  refine g_aload_n (v := ad 0) cx dX3_links_0 rfl ?_
  refine g_get (v := .int (R 5 4)) cx fk_X3_38 dX3_links_1 0 rfl rfl ?_
  refine g_if_eq cx 16 dX3_links_4 (by decide) (fun hw1 => ?_) (fun hw1 => ?_)
  · skip
    refine g_aload_n (v := ad 0) cx dX3_links_16 rfl ?_
    refine g_get (v := .int (R 5 0)) cx fk_X3_34 dX3_links_17 0 rfl rfl ?_
    exact hret _ _ _ _ dX3_links_20 (rfl) (⟨by simp only [bI, rLinks, hw1, not_true_eq_false, not_false_eq_true, and_true, true_and, and_false, false_and, or_true, true_or, or_false, false_or, if_true, if_false], rfl⟩)
  · skip
    refine g_aload_n (v := ad 0) cx dX3_links_7 rfl ?_
    refine g_get (v := .int (R 5 0)) cx fk_X3_34 dX3_links_8 0 rfl rfl ?_
    refine g_iconst (v := 1) cx dX3_links_11 (by decide) ?_
    refine g_iadd cx dX3_links_12 ?_
    refine g_goto cx 20 dX3_links_13 (by decide) ?_
    exact hret _ _ _ _ dX3_links_20 (rfl) (⟨by simp only [bI, rLinks, hw1, not_true_eq_false, not_false_eq_true, and_true, true_and, and_false, false_and, or_true, true_or, or_false, false_or, if_true, if_false], rfl⟩)
def rm_X3_ofDrive : Room := { frames := 0, cells := 0, slots := 0, locals := 0 }
set_option maxRecDepth 100000 in
set_option maxHeartbeats 4000000 in
theorem c_X3_ofDrive (V : VT) (ad : Nat → Nat) (R : S2) (x c : Int32) (k : Nat) (hk : x * 9 + c = nI k) (hk2 : k < 54) : CI V yX3_ofDrive cX3_ofDrive 3 .int rm_X3_ofDrive [.ref (ad 0), .int x, .int c] (wRing V ad R) (fun r_ w_ => r_ = R 0 k ∧ w_ = wRing V ad R) := by
  refine CI_intro (by decide) (Nat.le_of_ble_eq_true rfl) (fun K cx hret => ?_)
  show G V K 3 0 0 (wRing V ad R) 0 [(0, .ref (ad 0)), (1, .int x), (2, .int c)] []
  refine g_aload_n (v := ad 0) cx dX3_ofDrive_0 rfl ?_
  refine g_get (v := .ref (ad 1)) cx fk_X3_9 dX3_ofDrive_1 0 rfl rfl ?_
  refine g_iload_n (v := x) cx dX3_ofDrive_4 rfl ?_
  refine g_bipush (v := 9) cx dX3_ofDrive_5 (by decide) ?_
  refine g_imul cx dX3_ofDrive_7 ?_
  refine g_iload_n (v := c) cx dX3_ofDrive_8 rfl ?_
  refine g_iadd cx dX3_ofDrive_9 ?_
  refine g_iald cx dX3_ofDrive_10 1 k rfl (hk) (hk2) (by first | decide | omega) ?_
  exact hret _ _ _ _ dX3_ofDrive_11 (rfl) ⟨rfl, rfl⟩
def rm_X3_ofLink : Room := { frames := 0, cells := 0, slots := 0, locals := 0 }
set_option maxRecDepth 100000 in
set_option maxHeartbeats 4000000 in
theorem c_X3_ofLink (V : VT) (ad : Nat → Nat) (R : S2) (x c : Int32) (k : Nat) (hk : x * 2 + c = nI k) (hk2 : k < 14) : CI V yX3_ofLink cX3_ofLink 3 .int rm_X3_ofLink [.ref (ad 0), .int x, .int c] (wRing V ad R) (fun r_ w_ => r_ = R 1 k ∧ w_ = wRing V ad R) := by
  refine CI_intro (by decide) (Nat.le_of_ble_eq_true rfl) (fun K cx hret => ?_)
  show G V K 3 0 0 (wRing V ad R) 0 [(0, .ref (ad 0)), (1, .int x), (2, .int c)] []
  refine g_aload_n (v := ad 0) cx dX3_ofLink_0 rfl ?_
  refine g_get (v := .ref (ad 2)) cx fk_X3_15 dX3_ofLink_1 0 rfl rfl ?_
  refine g_iload_n (v := x) cx dX3_ofLink_4 rfl ?_
  refine g_iconst (v := 2) cx dX3_ofLink_5 (by decide) ?_
  refine g_imul cx dX3_ofLink_6 ?_
  refine g_iload_n (v := c) cx dX3_ofLink_7 rfl ?_
  refine g_iadd cx dX3_ofLink_8 ?_
  refine g_iald cx dX3_ofLink_9 2 k rfl (hk) (hk2) (by first | decide | omega) ?_
  exact hret _ _ _ _ dX3_ofLink_10 (rfl) ⟨rfl, rfl⟩
def rm_X3_ofOrder : Room := { frames := 0, cells := 0, slots := 0, locals := 0 }
set_option maxRecDepth 100000 in
set_option maxHeartbeats 4000000 in
theorem c_X3_ofOrder (V : VT) (ad : Nat → Nat) (R : S2) (x c : Int32) (k : Nat) (hk : x * 5 + c = nI k) (hk2 : k < 20) : CI V yX3_ofOrder cX3_ofOrder 3 .int rm_X3_ofOrder [.ref (ad 0), .int x, .int c] (wRing V ad R) (fun r_ w_ => r_ = R 2 k ∧ w_ = wRing V ad R) := by
  refine CI_intro (by decide) (Nat.le_of_ble_eq_true rfl) (fun K cx hret => ?_)
  show G V K 3 0 0 (wRing V ad R) 0 [(0, .ref (ad 0)), (1, .int x), (2, .int c)] []
  refine g_aload_n (v := ad 0) cx dX3_ofOrder_0 rfl ?_
  refine g_get (v := .ref (ad 3)) cx fk_X3_18 dX3_ofOrder_1 0 rfl rfl ?_
  refine g_iload_n (v := x) cx dX3_ofOrder_4 rfl ?_
  refine g_iconst (v := 5) cx dX3_ofOrder_5 (by decide) ?_
  refine g_imul cx dX3_ofOrder_6 ?_
  refine g_iload_n (v := c) cx dX3_ofOrder_7 rfl ?_
  refine g_iadd cx dX3_ofOrder_8 ?_
  refine g_iald cx dX3_ofOrder_9 3 k rfl (hk) (hk2) (by first | decide | omega) ?_
  exact hret _ _ _ _ dX3_ofOrder_10 (rfl) ⟨rfl, rfl⟩
def rm_X3_ofResult : Room := { frames := 0, cells := 0, slots := 0, locals := 0 }
set_option maxRecDepth 100000 in
set_option maxHeartbeats 4000000 in
theorem c_X3_ofResult (V : VT) (ad : Nat → Nat) (R : S2) (x c : Int32) (k : Nat) (hk : x * 2 + c = nI k) (hk2 : k < 8) : CI V yX3_ofResult cX3_ofResult 3 .int rm_X3_ofResult [.ref (ad 0), .int x, .int c] (wRing V ad R) (fun r_ w_ => r_ = R 3 k ∧ w_ = wRing V ad R) := by
  refine CI_intro (by decide) (Nat.le_of_ble_eq_true rfl) (fun K cx hret => ?_)
  show G V K 3 0 0 (wRing V ad R) 0 [(0, .ref (ad 0)), (1, .int x), (2, .int c)] []
  refine g_aload_n (v := ad 0) cx dX3_ofResult_0 rfl ?_
  refine g_get (v := .ref (ad 4)) cx fk_X3_21 dX3_ofResult_1 0 rfl rfl ?_
  refine g_iload_n (v := x) cx dX3_ofResult_4 rfl ?_
  refine g_iconst (v := 2) cx dX3_ofResult_5 (by decide) ?_
  refine g_imul cx dX3_ofResult_6 ?_
  refine g_iload_n (v := c) cx dX3_ofResult_7 rfl ?_
  refine g_iadd cx dX3_ofResult_8 ?_
  refine g_iald cx dX3_ofResult_9 4 k rfl (hk) (hk2) (by first | decide | omega) ?_
  exact hret _ _ _ _ dX3_ofResult_10 (rfl) ⟨rfl, rfl⟩
def rm_X3_putDrive : Room := { frames := 0, cells := 0, slots := 0, locals := 0 }
set_option maxRecDepth 100000 in
set_option maxHeartbeats 4000000 in
theorem c_X3_putDrive (V : VT) (ad : Nat → Nat) (R : S2) (x c v : Int32) (k : Nat) (hk : x * 9 + c = nI k) (hk2 : k < 54) : CV V yX3_putDrive cX3_putDrive 4 rm_X3_putDrive [.ref (ad 0), .int x, .int c, .int v] (wRing V ad R) (fun w_ => w_ = wRing V ad (u2 R 0 k v)) := by
  refine CV_intro (by decide) (Nat.le_of_ble_eq_true rfl) (fun K cx hci hret => ?_)
  show G V K 4 0 0 (wRing V ad R) 0 [(0, .ref (ad 0)), (1, .int x), (2, .int c), (3, .int v)] []
  refine g_aload_n (v := ad 0) cx dX3_putDrive_0 rfl ?_
  refine g_get (v := .ref (ad 1)) cx fk_X3_9 dX3_putDrive_1 0 rfl rfl ?_
  refine g_iload_n (v := x) cx dX3_putDrive_4 rfl ?_
  refine g_bipush (v := 9) cx dX3_putDrive_5 (by decide) ?_
  refine g_imul cx dX3_putDrive_7 ?_
  refine g_iload_n (v := c) cx dX3_putDrive_8 rfl ?_
  refine g_iadd cx dX3_putDrive_9 ?_
  refine g_iload_n (v := v) cx dX3_putDrive_10 rfl ?_
  refine g_iast (ws' := wRing V ad (u2 R 0 k v)) cx dX3_putDrive_11 1 k rfl (hk) (hk2) (by first | decide | omega) rfl ?_
  exact hret _ _ _ dX3_putDrive_12 (rfl)
def rm_X3_putLink : Room := { frames := 0, cells := 0, slots := 0, locals := 0 }
set_option maxRecDepth 100000 in
set_option maxHeartbeats 4000000 in
theorem c_X3_putLink (V : VT) (ad : Nat → Nat) (R : S2) (x c v : Int32) (k : Nat) (hk : x * 2 + c = nI k) (hk2 : k < 14) : CV V yX3_putLink cX3_putLink 4 rm_X3_putLink [.ref (ad 0), .int x, .int c, .int v] (wRing V ad R) (fun w_ => w_ = wRing V ad (u2 R 1 k v)) := by
  refine CV_intro (by decide) (Nat.le_of_ble_eq_true rfl) (fun K cx hci hret => ?_)
  show G V K 4 0 0 (wRing V ad R) 0 [(0, .ref (ad 0)), (1, .int x), (2, .int c), (3, .int v)] []
  refine g_aload_n (v := ad 0) cx dX3_putLink_0 rfl ?_
  refine g_get (v := .ref (ad 2)) cx fk_X3_15 dX3_putLink_1 0 rfl rfl ?_
  refine g_iload_n (v := x) cx dX3_putLink_4 rfl ?_
  refine g_iconst (v := 2) cx dX3_putLink_5 (by decide) ?_
  refine g_imul cx dX3_putLink_6 ?_
  refine g_iload_n (v := c) cx dX3_putLink_7 rfl ?_
  refine g_iadd cx dX3_putLink_8 ?_
  refine g_iload_n (v := v) cx dX3_putLink_9 rfl ?_
  refine g_iast (ws' := wRing V ad (u2 R 1 k v)) cx dX3_putLink_10 2 k rfl (hk) (hk2) (by first | decide | omega) rfl ?_
  exact hret _ _ _ dX3_putLink_11 (rfl)
end
section
theorem u2_ss {R : S2} {i j : Nat} {v : Int32} : u2 R i j v i j = v := by simp [u2, va_up, upd]
theorem u2_sn {R : S2} {i j k : Nat} {v : Int32} (h : k ≠ j) : u2 R i j v i k = R i k := by simp [u2, va_up, upd, h]
theorem u2_n {R : S2} {i j k : Nat} {v : Int32} (h : k ≠ i) : u2 R i j v k = R k := by simp [u2, va_up, h]
theorem fl_fill (v : Int32) (a : Nat) (f : Nat → Int32) : ∀ n, fl (fun i g => upd g (a + i) v) n f = fun k => if a ≤ k ∧ k < a + n then v else f k
  | 0 => by funext k; simp only [fl]; rw [if_neg (by omega)]
  | n + 1 => by
    funext k
    simp only [fl, fl_fill v a f n, upd]
    by_cases h : k = a + n
    · rw [if_pos h, if_pos (by omega)]
    · rw [if_neg h]
      by_cases h2 : a ≤ k ∧ k < a + n
      · rw [if_pos h2, if_pos (by omega)]
      · rw [if_neg h2, if_neg (by omega)]
def rFill (f : Nat → Int32) (v : Int32) (a n : Nat) : Nat → Int32 := fl (fun i g => upd g (a + i) v) n f
def rm_J7_fill_53178 : Room := { frames := 0, cells := 0, slots := 0, locals := 0 }
set_option maxRecDepth 100000 in
set_option maxHeartbeats 4000000 in
theorem c_J7_fill_53178 (V : VT) (a n : Nat) (f : Nat → Int32) (v : Int32) (hn : n < 2147483648) : CV V yJ7_fill_53178 cJ7_fill_53178 4 rm_J7_fill_53178 [.ref a, .int v] (wArr V a n f) (fun w_ => w_ = wArr V a n (rFill f v 0 n)) := by
  refine CV_intro (by decide) (Nat.le_of_ble_eq_true rfl) (fun K cx hci hret => ?_)
  show G V K 4 0 0 (wArr V a n f) 0 [(0, .ref a), (1, .int v)] []
  refine g_iconst (v := 0) cx dJ7_fill_53178_0 (by decide) ?_
  refine g_istore_n (lv' := [(0, .ref a), (1, .int v), (2, .int 0)]) cx dJ7_fill_53178_1 (by decide) rfl ?_
  refine g_aload_n (v := a) cx dJ7_fill_53178_2 rfl ?_
  refine g_alen (ty := 0) (v := nI n) cx dJ7_fill_53178_3 0 rfl rfl ?_
  refine g_istore_n (lv' := [(0, .ref a), (1, .int v), (2, .int 0), (3, .int (nI n))]) cx dJ7_fill_53178_4 (by decide) rfl ?_
  refine rf_dn (P := fun i1 => G V K 4 0 0 (wArr V a n (rFill f v 0 i1)) 5 [(0, .ref a), (1, .int v), (2, .int (nI i1)), (3, .int (nI n))] []) (n) (fun i1 hi1 ihi1 => ?_) ?_
  · skip
    refine g_iload_n (v := nI i1) cx dJ7_fill_53178_5 rfl ?_
    refine g_iload_n (v := nI n) cx dJ7_fill_53178_6 rfl ?_
    refine g_icmp_ge cx 20 dJ7_fill_53178_7 (by decide) (fun hw1 => absurd hw1 (rf_geMN rfl rfl (by omega) (by omega) (by omega))) (fun hw1 => ?_)
    refine g_aload_n (v := a) cx dJ7_fill_53178_10 rfl ?_
    refine g_iload_n (v := nI i1) cx dJ7_fill_53178_11 rfl ?_
    refine g_iload_n (v := v) cx dJ7_fill_53178_12 rfl ?_
    refine g_iast (ws' := wArr V a n (upd (rFill f v 0 i1) (0 + i1) v)) cx dJ7_fill_53178_13 0 (0 + i1) rfl (by rw [Nat.zero_add]) (by omega) (by first | decide | omega) rfl ?_
    refine g_iinc (x := nI i1) (v := nI (i1 + 1)) (lv' := [(0, .ref a), (1, .int v), (2, .int (nI (i1 + 1))), (3, .int (nI n))]) cx dJ7_fill_53178_14 rfl (by decide) (nI_add _ _) rfl ?_
    refine g_goto cx 5 dJ7_fill_53178_17 (by decide) ?_
    exact ihi1
  · skip
    refine g_iload_n (v := nI n) cx dJ7_fill_53178_5 rfl ?_
    refine g_iload_n (v := nI n) cx dJ7_fill_53178_6 rfl ?_
    refine g_icmp_ge cx 20 dJ7_fill_53178_7 (by decide) (fun hw2 => ?_) (fun hw2 => absurd (rf_geMP rfl rfl (by omega) (by omega) (by omega)) hw2)
    exact hret _ _ _ dJ7_fill_53178_20 (rfl)
def rm_J7_rangeCheck_23922 : Room := { frames := 0, cells := 0, slots := 0, locals := 0 }
set_option maxRecDepth 100000 in
set_option maxHeartbeats 4000000 in
theorem c_J7_rangeCheck_23922 (V : VT) (x y z : Int32) (n a b : Nat) (hx : x = nI n) (hy : y = nI a) (hz : z = nI b) (h1 : a ≤ b) (h2 : b ≤ n) (hn : n < 2147483648) : CV V yJ7_rangeCheck_23922 cJ7_rangeCheck_23922 3 rm_J7_rangeCheck_23922 [.int x, .int y, .int z] (([] : va_W)) (fun w_ => w_ = ([] : va_W)) := by
  refine CV_intro (by decide) (Nat.le_of_ble_eq_true rfl) (fun K cx hci hret => ?_)
  show G V K 3 0 0 (([] : va_W)) 0 [(0, .int x), (1, .int y), (2, .int z)] []
  refine g_iload_n (v := y) cx dJ7_rangeCheck_23922_0 rfl ?_
  refine g_iload_n (v := z) cx dJ7_rangeCheck_23922_1 rfl ?_
  refine g_icmp_le cx 46 dJ7_rangeCheck_23922_2 (by decide) (fun hw1 => ?_) (fun hw1 => absurd (rf_leMP hy hz (by omega) (by omega) h1) hw1)
  refine g_iload_n (v := y) cx dJ7_rangeCheck_23922_46 rfl ?_
  refine g_if_ge cx 59 dJ7_rangeCheck_23922_47 (by decide) (fun hw2 => ?_) (fun hw2 => absurd (rf_geMP hy (b := 0) rfl (by omega) (by omega) (by omega)) hw2)
  refine g_iload_n (v := z) cx dJ7_rangeCheck_23922_59 rfl ?_
  refine g_iload_n (v := x) cx dJ7_rangeCheck_23922_60 rfl ?_
  refine g_icmp_le cx 73 dJ7_rangeCheck_23922_61 (by decide) (fun hw3 => ?_) (fun hw3 => absurd (rf_leMP hz hx (by omega) (by omega) h2) hw3)
  exact hret _ _ _ dJ7_rangeCheck_23922_73 (rfl)
def rm_J7_fill_fda19 : Room := { frames := 1, cells := 0, slots := 0, locals := 22 }
set_option maxRecDepth 100000 in
set_option maxHeartbeats 4000000 in
theorem c_J7_fill_fda19 (V : VT) (a n : Nat) (f : Nat → Int32) (x z v : Int32) (p q : Nat) (hx : x = nI p) (hz : z = nI q) (h1 : p ≤ q) (h2 : q ≤ n) (hn : n < 2147483648) : CV V yJ7_fill_fda19 cJ7_fill_fda19 5 rm_J7_fill_fda19 [.ref a, .int x, .int z, .int v] (wArr V a n f) (fun w_ => w_ = wArr V a n (rFill f v p (q - p))) := by
  refine CV_intro (by decide) (Nat.le_of_ble_eq_true rfl) (fun K cx hci hret => ?_)
  show G V K 5 0 0 (wArr V a n f) 0 [(0, .ref a), (1, .int x), (2, .int z), (3, .int v)] []
  subst hx
  subst hz
  refine g_aload_n (v := a) cx dJ7_fill_fda19_0 rfl ?_
  refine g_alen (ty := 0) (v := nI n) cx dJ7_fill_fda19_1 0 rfl rfl ?_
  refine g_iload_n (v := nI p) cx dJ7_fill_fda19_2 rfl ?_
  refine g_iload_n (v := nI q) cx dJ7_fill_fda19_3 rfl ?_
  refine g_callsv (ws' := wArr V a n f) (As := [.int (nI n), .int (nI p), .int (nI q)]) (rest := []) cx (c_J7_rangeCheck_23922 V (nI n) (nI p) (nI q) n p q rfl rfl rfl (by omega) (by omega) (by omega)) ml_J7_13 dJ7_fill_fda19_4 [] rfl rfl rfl rfl rfl rfl (Nat.le_of_ble_eq_true rfl) ⟨Nat.le_of_ble_eq_true rfl, Nat.le_of_ble_eq_true rfl⟩ ⟨Nat.le_refl _, Nat.le_refl _⟩ ?_
  refine g_iload_n (v := nI p) cx dJ7_fill_fda19_7 rfl ?_
  refine g_istore (lv' := [(0, .ref a), (1, .int (nI p)), (2, .int (nI q)), (3, .int v), (4, .int (nI p))]) cx dJ7_fill_fda19_8 (by decide) rfl ?_
  refine rf_dn (P := fun i1 => G V K 5 0 0 (wArr V a n (rFill f v p i1)) 10 [(0, .ref a), (1, .int (nI p)), (2, .int (nI q)), (3, .int v), (4, .int (nI (p + i1)))] []) (q - p) (fun i1 hi1 ihi1 => ?_) ?_
  · skip
    refine g_iload (v := nI (p + i1)) cx dJ7_fill_fda19_10 rfl ?_
    refine g_iload_n (v := nI q) cx dJ7_fill_fda19_12 rfl ?_
    refine g_icmp_ge cx 27 dJ7_fill_fda19_13 (by decide) (fun hw1 => absurd hw1 (rf_geMN rfl rfl (by omega) (by omega) (by omega))) (fun hw1 => ?_)
    refine g_aload_n (v := a) cx dJ7_fill_fda19_16 rfl ?_
    refine g_iload (v := nI (p + i1)) cx dJ7_fill_fda19_17 rfl ?_
    refine g_iload_n (v := v) cx dJ7_fill_fda19_19 rfl ?_
    refine g_iast (ws' := wArr V a n (upd (rFill f v p i1) (p + i1) v)) cx dJ7_fill_fda19_20 0 (p + i1) rfl (rfl) (by omega) (by first | decide | omega) rfl ?_
    refine g_iinc (x := nI (p + i1)) (v := nI ((p + i1) + 1)) (lv' := [(0, .ref a), (1, .int (nI p)), (2, .int (nI q)), (3, .int v), (4, .int (nI ((p + i1) + 1)))]) cx dJ7_fill_fda19_21 rfl (by decide) (nI_add _ _) rfl ?_
    refine g_goto cx 10 dJ7_fill_fda19_24 (by decide) ?_
    exact ihi1
  · skip
    refine g_iload (v := nI (p + (q - p))) cx dJ7_fill_fda19_10 rfl ?_
    refine g_iload_n (v := nI q) cx dJ7_fill_fda19_12 rfl ?_
    refine g_icmp_ge cx 27 dJ7_fill_fda19_13 (by decide) (fun hw2 => ?_) (fun hw2 => absurd (rf_geMP rfl rfl (by omega) (by omega) (by omega)) hw2)
    exact hret _ _ _ dJ7_fill_fda19_27 (rfl)
end
section
def b01 (x : Int32) : Prop := x = 0 ∨ x = 1
theorem rf_nb {x : Int32} (h : b01 x) : narrow .boolean (.int x) = .int x := by rcases h with rfl | rfl <;> rfl
theorem rf_fb {x : Int32} (h : b01 x) : fits .boolean (.int x) = true := by rcases h with rfl | rfl <;> rfl
def rDrop (R : S2) : S2 := u1 (u2 (u2 R 5 1 0) 5 5 0) 4 (rFill (R 4) (-9) 0 2)
def rEmpty (R : S2) : S2 := rDrop (u2 (u2 (u2 (u2 (u2 R 5 0 0) 5 4 0) 5 2 3) 5 3 0) 5 6 0)
def rCopy (R O : S2) : S2 := u2 (u2 (u2 (u2 (u2 (u2 (u2 (u1 (u1 (u1 (u1 (u1 R 0 (va_cpy (O 0) (R 0) 0 0 54)) 1 (va_cpy (O 1) (R 1) 0 0 14)) 2 (va_cpy (O 2) (R 2) 0 0 20)) 3 (va_cpy (O 3) (R 3) 0 0 8)) 4 (va_cpy (O 4) (R 4) 0 0 2)) 5 0 (O 5 0)) 5 1 (O 5 1)) 5 2 (O 5 2)) 5 3 (O 5 3)) 5 4 (O 5 4)) 5 5 (O 5 5)) 5 6 (O 5 6)
/-- the first k below n with p, else n -/
def ff (p : Nat → Bool) : Nat → Nat
  | 0 => 0
  | n + 1 => if ff p n < n then ff p n else if p n then n else n + 1
theorem ff_le (p : Nat → Bool) : ∀ n, ff p n ≤ n
  | 0 => Nat.le_refl 0
  | n + 1 => by
    have ih := ff_le p n
    simp only [ff]
    split
    · omega
    · split <;> omega
theorem ff_no (p : Nat → Bool) : ∀ n k, k < ff p n → p k = false
  | 0, k, h => absurd h (Nat.not_lt_zero k)
  | n + 1, k, h => by
    have ih := ff_no p n
    have hle := ff_le p n
    simp only [ff] at h
    split at h
    · exact ih k h
    · next h1 =>
      have e : ff p n = n := by omega
      split at h
      · exact ih k (by omega)
      · next h2 =>
        by_cases hk : k = n
        · subst hk; simpa using h2
        · exact ih k (by omega)
theorem ff_yes (p : Nat → Bool) : ∀ n, ff p n < n → p (ff p n) = true
  | 0, h => absurd h (Nat.not_lt_zero _)
  | n + 1, h => by
    have ih := ff_yes p n
    simp only [ff] at h ⊢
    split
    · next h1 => exact ih h1
    · next h1 =>
      rw [if_neg h1] at h
      split
      · next h2 => exact h2
      · next h2 => rw [if_neg h2] at h; omega
theorem fl_inv {σ : Type} {f : Nat → σ → σ} {s : σ} (P : σ → Prop) (h0 : P s) (hs : ∀ i s, P s → P (f i s)) : ∀ n, P (fl f n s)
  | 0 => h0
  | n + 1 => hs n _ (fl_inv P h0 hs n)
def rCut (R : S2) (k : Nat) : Bool := decide (R 1 (k * 2 + 1) = 1)
def eA (R : S2) (n : Nat) : Nat := ff (rCut R) n
def sJ (R : S2) (n : Nat) : Nat := ff (fun j => rCut R (n - j)) (n + 1)
def sB (R : S2) (n : Nat) : Nat := if R 5 4 = 0 then n else if sJ R n < n + 1 then n - sJ R n else n
def rSafe (R : S2) (n : Nat) : Int32 := fl (fun i a => a + R 0 (i * 9 + 6)) n 0
def rCuts (R : S2) (m : Nat) : Int32 := fl (fun i a => a + R 1 (i * 2 + 1)) m 0
def rOff (R : S2) (d : Nat) : Int32 := R 0 (d * 9 + 7) - R 0 (d * 9 + 8)
def rMin (R : S2) (n : Nat) : Int32 := fl (fun i a => if rOff R (1 + i) < a then rOff R (1 + i) else a) n (rOff R 0)
def rMax (R : S2) (n : Nat) : Int32 := fl (fun i a => if a < rOff R (1 + i) then rOff R (1 + i) else a) n (rOff R 0)
def rLen (R : S2) (a m : Nat) : Int32 := fl (fun i s => s + R 1 ((a + i) * 2 + 0)) m 0
def rTTB (x y : Int32) : Int32 := if y = 0 then -9 else 2 * x + 2 * y - 1
def rLook (R : S2) (o w : Nat) : Int32 := if w < 4 then (if o ≤ w then 0 else R 3 (w * 2 + 0)) else R 4 (w - 4)
def rLearn (R : S2) (b : Int32) (n : Nat) : S2 := fl (fun i S => if (b >>> (nI i &&& 31)) &&& 1 = 1 then u2 S 0 (i * 9 + 8) (S 0 (i * 9 + 7)) else S) n R
theorem rLearn_s (R : S2) (b : Int32) (i : Nat) : rLearn R b (i + 1) = if (b >>> (nI i &&& 31)) &&& 1 = 1 then u2 (rLearn R b i) 0 (i * 9 + 8) ((rLearn R b i) 0 (i * 9 + 7)) else rLearn R b i := rfl
theorem rLearn_5 (R : S2) (b : Int32) (n : Nat) : (rLearn R b n) 5 = R 5 := fl_inv (σ := S2) (fun S => S 5 = R 5) rfl (fun i S h => by
  by_cases c : (b >>> (nI i &&& 31)) &&& 1 = 1
  · simp only [if_pos c]; rw [u2_n (by decide)]; exact h
  · simp only [if_neg c]; exact h) n
def rM1 (R : S2) (d : Nat) : S2 := u2 R 0 (d * 9 + 5) (R 0 (d * 9 + 5) + 1)
def rMz (R : S2) (d n : Nat) : S2 := fl (fun i S => u2 S 0 (d * 9 + (1 + i)) 0) n (u2 (rM1 R d) 0 (d * 9 + 6) 1)
def rMiss (R : S2) (d : Nat) : S2 := if R 0 (d * 9 + 5) + 1 < R 5 2 then rM1 R d else if (rM1 R d) 0 (d * 9 + 6) = 1 then rM1 R d else rMz R d 4
def rTurn (R : S2) (n m : Nat) : Int32 := if ¬ R 5 4 = 0 ∧ rCuts R m = 0 then 0 else (((1 : Int32) <<< (nI (eA R n) &&& 31)) - 1) ||| (((1 : Int32) <<< (R 5 0 &&& 31)) - ((1 : Int32) <<< (nI (sB R n) &&& 31)))
theorem nI_int {n : Nat} (h : n < 1073741824) : (nI n - 1).toInt = (n : Int) - 1 := pk_sub_toInt (b := 1) h (by decide)
theorem rf_predP {a b : Nat} (ha : a < 1073741824) (hb : b < 1073741824) (h : b ≤ a) : nI b - 1 < nI a := by
  rw [Int32.lt_iff_toInt_lt, nI_int hb, nI_toInt (by omega)]; omega
theorem rf_predN {a b : Nat} (ha : a < 1073741824) (hb : b < 1073741824) (h : a < b) : ¬ nI b - 1 < nI a := by
  rw [Int32.lt_iff_toInt_lt, nI_int hb, nI_toInt (by omega)]; omega
theorem nI_m1 (n : Nat) : nI (n + 1) - 1 = nI n := nI_pred n
theorem rf_dec (x : Int32) (j : Nat) : x - nI j + (-1) = x - nI (j + 1) := by
  rw [← nI_1 j]; simp only [Int32.sub_eq_add_neg, Int32.neg_add, Int32.add_assoc]
def rNewLink (R : S2) (k : Nat) (v : Int32) : S2 := u2 (u2 R 1 (k * 2 + 0) v) 1 (k * 2 + 1) 0
def rAddDrive (R : S2) (n : Nat) (len sta : Int32) : S2 := u2 (rNewLink (u2 (u1 R 0 (rFill (R 0) 0 (n * 9) ((n * 9 + 9) - (n * 9)))) 0 (n * 9 + 0) sta) n len) 5 0 (R 5 0 + 1)
def rCloseBy (R : S2) (n : Nat) (len : Int32) : S2 := u2 (rNewLink R n len) 5 4 1
def rAddOrder (R : S2) (o : Nat) (x1 x2 x3 x4 x5 : Int32) : S2 := u2 (u2 (u2 (u2 (u2 (u2 R 2 (o * 5 + 0) x1) 2 (o * 5 + 1) x2) 2 (o * 5 + 2) x3) 2 (o * 5 + 3) x4) 2 (o * 5 + 4) x5) 5 1 (R 5 1 + 1)
def rTimesT (R : S2) (n : Nat) : S2 := u2 (u2 R 4 0 (rTTB (rLen R 0 (eA R n)) (nI (eA R n)))) 4 1 (rTTB (rLen R (sB R n + 1) (n - sB R n)) (R 5 0 - nI (sB R n)))
def rm_X3_hasLink : Room := { frames := 1, cells := 0, slots := 0, locals := 20 }
set_option maxRecDepth 100000 in
set_option maxHeartbeats 4000000 in
theorem c_X3_hasLink (V : VT) (ad : Nat → Nat) (R : S2) (d : Int32) : CI V yX3_hasLink cX3_hasLink 2 .boolean rm_X3_hasLink [.ref (ad 0), .int d] (wRing V ad R) (fun r_ w_ => r_ = bI (¬ d < 0 ∧ ¬ rLinks R ≤ d) ∧ w_ = wRing V ad R) := by
  refine CI_intro (by decide) (Nat.le_of_ble_eq_true rfl) (fun K cx hret => ?_)
  show G V K 2 0 0 (wRing V ad R) 0 [(0, .ref (ad 0)), (1, .int d)] []
  refine g_iload_n (v := d) cx dX3_hasLink_0 rfl ?_
  refine g_if_lt cx 16 dX3_hasLink_1 (by decide) (fun hw1 => ?_) (fun hw1 => ?_)
  · skip
    refine g_iconst (v := 0) cx dX3_hasLink_16 (by decide) ?_
    exact hret _ _ _ _ dX3_hasLink_17 (by first | rfl | exact rf_bnar _) (⟨by simp only [bI, hw1, not_true_eq_false, not_false_eq_true, and_true, true_and, and_false, false_and, or_true, true_or, or_false, false_or, if_true, if_false], rfl⟩)
  · skip
    refine g_iload_n (v := d) cx dX3_hasLink_4 rfl ?_
    refine g_aload_n (v := ad 0) cx dX3_hasLink_5 rfl ?_
    refine g_calli (r0 := rLinks R) (ws' := wRing V ad R) (As := []) (rest := [.int d]) cx (c_X3_links V ad R) ml_X3_92 dX3_hasLink_6 [0, 1, 2, 3, 4, 5] rfl rfl rfl rfl 0 3 rfl rfl rfl rfl rfl (Nat.le_of_ble_eq_true rfl) ⟨Nat.le_of_ble_eq_true rfl, Nat.le_of_ble_eq_true rfl⟩ ⟨Nat.le_refl _, Nat.le_refl _⟩ ?_
    refine g_icmp_ge cx 16 dX3_hasLink_9 (by decide) (fun hw2 => ?_) (fun hw2 => ?_)
    · skip
      refine g_iconst (v := 0) cx dX3_hasLink_16 (by decide) ?_
      exact hret _ _ _ _ dX3_hasLink_17 (by first | rfl | exact rf_bnar _) (⟨by simp only [bI, hw1, hw2, not_true_eq_false, not_false_eq_true, and_true, true_and, and_false, false_and, or_true, true_or, or_false, false_or, if_true, if_false], rfl⟩)
    · skip
      refine g_iconst (v := 1) cx dX3_hasLink_12 (by decide) ?_
      refine g_goto cx 17 dX3_hasLink_13 (by decide) ?_
      exact hret _ _ _ _ dX3_hasLink_17 (by first | rfl | exact rf_bnar _) (⟨by simp only [bI, hw1, hw2, not_true_eq_false, not_false_eq_true, and_true, true_and, and_false, false_and, or_true, true_or, or_false, false_or, if_true, if_false], rfl⟩)
def rm_X3_isSafe : Room := { frames := 0, cells := 0, slots := 0, locals := 0 }
set_option maxRecDepth 100000 in
set_option maxHeartbeats 4000000 in
theorem c_X3_isSafe (V : VT) (ad : Nat → Nat) (R : S2) (x : Int32) (k : Nat) (hk : x * 9 + 6 = nI k) (hk2 : k < 54) : CI V yX3_isSafe cX3_isSafe 2 .boolean rm_X3_isSafe [.ref (ad 0), .int x] (wRing V ad R) (fun r_ w_ => r_ = bI (R 0 k = 1) ∧ w_ = wRing V ad R) := by
  refine CI_intro (by decide) (Nat.le_of_ble_eq_true rfl) (fun K cx hret => ?_)
  show G V K 2 0 0 (wRing V ad R) 0 [(0, .ref (ad 0)), (1, .int x)] []
  refine g_aload_n (v := ad 0) cx dX3_isSafe_0 rfl ?_
  refine g_get (v := .ref (ad 1)) cx fk_X3_9 dX3_isSafe_1 0 rfl rfl ?_
  refine g_iload_n (v := x) cx dX3_isSafe_4 rfl ?_
  refine g_bipush (v := 9) cx dX3_isSafe_5 (by decide) ?_
  refine g_imul cx dX3_isSafe_7 ?_
  refine g_bipush (v := 6) cx dX3_isSafe_8 (by decide) ?_
  refine g_iadd cx dX3_isSafe_10 ?_
  refine g_iald cx dX3_isSafe_11 1 k rfl (hk) (hk2) (by first | decide | omega) ?_
  refine g_iconst (v := 1) cx dX3_isSafe_12 (by decide) ?_
  refine g_icmp_ne cx 20 dX3_isSafe_13 (by decide) (fun hw1 => ?_) (fun hw1 => ?_)
  · skip
    refine g_iconst (v := 0) cx dX3_isSafe_20 (by decide) ?_
    exact hret _ _ _ _ dX3_isSafe_21 (by first | rfl | exact rf_bnar _) (⟨by simp only [bI, hw1, not_true_eq_false, not_false_eq_true, and_true, true_and, and_false, false_and, or_true, true_or, or_false, false_or, if_true, if_false], rfl⟩)
  · skip
    refine g_iconst (v := 1) cx dX3_isSafe_16 (by decide) ?_
    refine g_goto cx 21 dX3_isSafe_17 (by decide) ?_
    exact hret _ _ _ _ dX3_isSafe_21 (by first | rfl | exact rf_bnar _) (⟨by simp only [bI, hw1, not_true_eq_false, not_false_eq_true, and_true, true_and, and_false, false_and, or_true, true_or, or_false, false_or, if_true, if_false], rfl⟩)
def rm_X3_isCut : Room := { frames := 0, cells := 0, slots := 0, locals := 0 }
set_option maxRecDepth 100000 in
set_option maxHeartbeats 4000000 in
theorem c_X3_isCut (V : VT) (ad : Nat → Nat) (R : S2) (x : Int32) (k : Nat) (hk : x * 2 + 1 = nI k) (hk2 : k < 14) : CI V yX3_isCut cX3_isCut 2 .boolean rm_X3_isCut [.ref (ad 0), .int x] (wRing V ad R) (fun r_ w_ => r_ = bI (R 1 k = 1) ∧ w_ = wRing V ad R) := by
  refine CI_intro (by decide) (Nat.le_of_ble_eq_true rfl) (fun K cx hret => ?_)
  show G V K 2 0 0 (wRing V ad R) 0 [(0, .ref (ad 0)), (1, .int x)] []
  refine g_aload_n (v := ad 0) cx dX3_isCut_0 rfl ?_
  refine g_get (v := .ref (ad 2)) cx fk_X3_15 dX3_isCut_1 0 rfl rfl ?_
  refine g_iload_n (v := x) cx dX3_isCut_4 rfl ?_
  refine g_iconst (v := 2) cx dX3_isCut_5 (by decide) ?_
  refine g_imul cx dX3_isCut_6 ?_
  refine g_iconst (v := 1) cx dX3_isCut_7 (by decide) ?_
  refine g_iadd cx dX3_isCut_8 ?_
  refine g_iald cx dX3_isCut_9 2 k rfl (hk) (hk2) (by first | decide | omega) ?_
  refine g_iconst (v := 1) cx dX3_isCut_10 (by decide) ?_
  refine g_icmp_ne cx 18 dX3_isCut_11 (by decide) (fun hw1 => ?_) (fun hw1 => ?_)
  · skip
    refine g_iconst (v := 0) cx dX3_isCut_18 (by decide) ?_
    exact hret _ _ _ _ dX3_isCut_19 (by first | rfl | exact rf_bnar _) (⟨by simp only [bI, hw1, not_true_eq_false, not_false_eq_true, and_true, true_and, and_false, false_and, or_true, true_or, or_false, false_or, if_true, if_false], rfl⟩)
  · skip
    refine g_iconst (v := 1) cx dX3_isCut_14 (by decide) ?_
    refine g_goto cx 19 dX3_isCut_15 (by decide) ?_
    exact hret _ _ _ _ dX3_isCut_19 (by first | rfl | exact rf_bnar _) (⟨by simp only [bI, hw1, not_true_eq_false, not_false_eq_true, and_true, true_and, and_false, false_and, or_true, true_or, or_false, false_or, if_true, if_false], rfl⟩)
def rm_X3_dropFrame : Room := { frames := 1, cells := 0, slots := 0, locals := 23 }
set_option maxRecDepth 100000 in
set_option maxHeartbeats 4000000 in
theorem c_X3_dropFrame (V : VT) (ad : Nat → Nat) (R : S2) : CV V yX3_dropFrame cX3_dropFrame 1 rm_X3_dropFrame [.ref (ad 0)] (wRing V ad R) (fun w_ => w_ = wRing V ad (rDrop R)) := by
  refine CV_intro (by decide) (Nat.le_of_ble_eq_true rfl) (fun K cx hci hret => ?_)
  show G V K 1 0 0 (wRing V ad R) 0 [(0, .ref (ad 0))] []
  refine g_aload_n (v := ad 0) cx dX3_dropFrame_0 rfl ?_
  refine g_iconst (v := 0) cx dX3_dropFrame_1 (by decide) ?_
  refine g_put (ws' := wRing V ad (u2 R 5 1 0)) cx fk_X3_54 dX3_dropFrame_2 0 rfl (rfl) (rfl) (Nat.le_of_ble_eq_true rfl) rfl ?_
  refine g_aload_n (v := ad 0) cx dX3_dropFrame_5 rfl ?_
  refine g_iconst (v := 0) cx dX3_dropFrame_6 (by decide) ?_
  refine g_put (ws' := wRing V ad (u2 (u2 R 5 1 0) 5 5 0)) cx fk_X3_57 dX3_dropFrame_7 0 rfl (rfl) (rfl) (Nat.le_of_ble_eq_true rfl) rfl ?_
  refine g_aload_n (v := ad 0) cx dX3_dropFrame_10 rfl ?_
  refine g_get (v := .ref (ad 5)) cx fk_X3_24 dX3_dropFrame_11 0 rfl rfl ?_
  refine g_bipush (v := (-9)) cx dX3_dropFrame_14 (by decide) ?_
  refine g_callsv (ws' := wRing V ad (u1 (u2 (u2 R 5 1 0) 5 5 0) 4 (rFill (R 4) (-9) 0 2))) (As := [.ref (ad 5), .int (-9)]) (rest := []) cx (c_J7_fill_53178 V (ad 5) 2 (R 4) (-9) (by decide)) ml_X3_60 dX3_dropFrame_16 [5] rfl rfl rfl rfl rfl rfl (Nat.le_of_ble_eq_true rfl) ⟨Nat.le_of_ble_eq_true rfl, Nat.le_of_ble_eq_true rfl⟩ ⟨Nat.le_refl _, Nat.le_refl _⟩ ?_
  exact hret _ _ _ dX3_dropFrame_19 (rfl)
def rm_X3_becomeEmpty : Room := { frames := 2, cells := 0, slots := 0, locals := 43 }
set_option maxRecDepth 100000 in
set_option maxHeartbeats 4000000 in
theorem c_X3_becomeEmpty (V : VT) (ad : Nat → Nat) (R : S2) : CV V yX3_becomeEmpty cX3_becomeEmpty 1 rm_X3_becomeEmpty [.ref (ad 0)] (wRing V ad R) (fun w_ => w_ = wRing V ad (rEmpty R)) := by
  refine CV_intro (by decide) (Nat.le_of_ble_eq_true rfl) (fun K cx hci hret => ?_)
  show G V K 1 0 0 (wRing V ad R) 0 [(0, .ref (ad 0))] []
  refine g_aload_n (v := ad 0) cx dX3_becomeEmpty_0 rfl ?_
  refine g_iconst (v := 0) cx dX3_becomeEmpty_1 (by decide) ?_
  refine g_put (ws' := wRing V ad (u2 R 5 0 0)) cx fk_X3_34 dX3_becomeEmpty_2 0 rfl (rfl) (rfl) (Nat.le_of_ble_eq_true rfl) rfl ?_
  refine g_aload_n (v := ad 0) cx dX3_becomeEmpty_5 rfl ?_
  refine g_iconst (v := 0) cx dX3_becomeEmpty_6 (by decide) ?_
  refine g_put (ws' := wRing V ad (u2 (u2 R 5 0 0) 5 4 0)) cx fk_X3_38 dX3_becomeEmpty_7 0 rfl (rfl) (rfl) (Nat.le_of_ble_eq_true rfl) rfl ?_
  refine g_aload_n (v := ad 0) cx dX3_becomeEmpty_10 rfl ?_
  refine g_iconst (v := 3) cx dX3_becomeEmpty_11 (by decide) ?_
  refine g_put (ws' := wRing V ad (u2 (u2 (u2 R 5 0 0) 5 4 0) 5 2 3)) cx fk_X3_42 dX3_becomeEmpty_12 0 rfl (rfl) (rfl) (Nat.le_of_ble_eq_true rfl) rfl ?_
  refine g_aload_n (v := ad 0) cx dX3_becomeEmpty_15 rfl ?_
  refine g_iconst (v := 0) cx dX3_becomeEmpty_16 (by decide) ?_
  refine g_put (ws' := wRing V ad (u2 (u2 (u2 (u2 R 5 0 0) 5 4 0) 5 2 3) 5 3 0)) cx fk_X3_45 dX3_becomeEmpty_17 0 rfl (rfl) (rfl) (Nat.le_of_ble_eq_true rfl) rfl ?_
  refine g_aload_n (v := ad 0) cx dX3_becomeEmpty_20 rfl ?_
  refine g_iconst (v := 0) cx dX3_becomeEmpty_21 (by decide) ?_
  refine g_put (ws' := wRing V ad (u2 (u2 (u2 (u2 (u2 R 5 0 0) 5 4 0) 5 2 3) 5 3 0) 5 6 0)) cx fk_X3_48 dX3_becomeEmpty_22 0 rfl (rfl) (rfl) (Nat.le_of_ble_eq_true rfl) rfl ?_
  refine g_aload_n (v := ad 0) cx dX3_becomeEmpty_25 rfl ?_
  refine g_callv (ws' := wRing V ad (rDrop (u2 (u2 (u2 (u2 (u2 R 5 0 0) 5 4 0) 5 2 3) 5 3 0) 5 6 0))) (As := []) (rest := []) cx (c_X3_dropFrame V ad (u2 (u2 (u2 (u2 (u2 R 5 0 0) 5 4 0) 5 2 3) 5 3 0) 5 6 0)) ml_X3_51 dX3_becomeEmpty_26 [0, 1, 2, 3, 4, 5] rfl rfl rfl rfl 0 3 rfl rfl rfl rfl rfl (Nat.le_of_ble_eq_true rfl) ⟨Nat.le_of_ble_eq_true rfl, Nat.le_of_ble_eq_true rfl⟩ ⟨Nat.le_refl _, Nat.le_refl _⟩ ?_
  exact hret _ _ _ dX3_becomeEmpty_29 (rfl)
def rm_X3_copyFrom : Room := { frames := 1, cells := 0, slots := 0, locals := 26 }
set_option maxRecDepth 100000 in
set_option maxHeartbeats 4000000 in
theorem c_X3_copyFrom (V : VT) (ad : Nat → Nat) (R : S2) (bd : Nat → Nat) (O : S2) (h4 : b01 (O 5 4)) (h5 : b01 (O 5 5)) (h6 : b01 (O 5 6)) : CV V yX3_copyFrom cX3_copyFrom 2 rm_X3_copyFrom [.ref (ad 0), .ref (bd 0)] (wRing V ad R ++ wRing V bd O) (fun w_ => w_ = wRing V ad (rCopy R O) ++ wRing V bd O) := by
  refine CV_intro (by decide) (Nat.le_of_ble_eq_true rfl) (fun K cx hci hret => ?_)
  show G V K 2 0 0 (wRing V ad R ++ wRing V bd O) 0 [(0, .ref (ad 0)), (1, .ref (bd 0))] []
  refine g_aload_n (v := bd 0) cx dX3_copyFrom_0 rfl ?_
  refine g_get (v := .ref (bd 1)) cx fk_X3_9 dX3_copyFrom_1 6 rfl rfl ?_
  refine g_iconst (v := 0) cx dX3_copyFrom_4 (by decide) ?_
  refine g_aload_n (v := ad 0) cx dX3_copyFrom_5 rfl ?_
  refine g_get (v := .ref (ad 1)) cx fk_X3_9 dX3_copyFrom_6 0 rfl rfl ?_
  refine g_iconst (v := 0) cx dX3_copyFrom_9 (by decide) ?_
  refine g_aload_n (v := ad 0) cx dX3_copyFrom_10 rfl ?_
  refine g_get (v := .ref (ad 1)) cx fk_X3_9 dX3_copyFrom_11 0 rfl rfl ?_
  refine g_alen (ty := 0) (v := 54) cx dX3_copyFrom_14 1 rfl rfl ?_
  refine g_copy (ws' := wRing V ad (u1 R 0 (va_cpy (O 0) (R 0) 0 0 54)) ++ wRing V bd O) cx ml_X3_66 dX3_copyFrom_15 7 1 rfl rfl rfl rfl rfl (by decide) (Nat.le_of_ble_eq_true rfl) (Nat.le_of_ble_eq_true rfl) rfl ?_
  refine g_aload_n (v := bd 0) cx dX3_copyFrom_18 rfl ?_
  refine g_get (v := .ref (bd 2)) cx fk_X3_15 dX3_copyFrom_19 6 rfl rfl ?_
  refine g_iconst (v := 0) cx dX3_copyFrom_22 (by decide) ?_
  refine g_aload_n (v := ad 0) cx dX3_copyFrom_23 rfl ?_
  refine g_get (v := .ref (ad 2)) cx fk_X3_15 dX3_copyFrom_24 0 rfl rfl ?_
  refine g_iconst (v := 0) cx dX3_copyFrom_27 (by decide) ?_
  refine g_aload_n (v := ad 0) cx dX3_copyFrom_28 rfl ?_
  refine g_get (v := .ref (ad 2)) cx fk_X3_15 dX3_copyFrom_29 0 rfl rfl ?_
  refine g_alen (ty := 0) (v := 14) cx dX3_copyFrom_32 2 rfl rfl ?_
  refine g_copy (ws' := wRing V ad (u1 (u1 R 0 (va_cpy (O 0) (R 0) 0 0 54)) 1 (va_cpy (O 1) (R 1) 0 0 14)) ++ wRing V bd O) cx ml_X3_66 dX3_copyFrom_33 8 2 rfl rfl rfl rfl rfl (by decide) (Nat.le_of_ble_eq_true rfl) (Nat.le_of_ble_eq_true rfl) rfl ?_
  refine g_aload_n (v := bd 0) cx dX3_copyFrom_36 rfl ?_
  refine g_get (v := .ref (bd 3)) cx fk_X3_18 dX3_copyFrom_37 6 rfl rfl ?_
  refine g_iconst (v := 0) cx dX3_copyFrom_40 (by decide) ?_
  refine g_aload_n (v := ad 0) cx dX3_copyFrom_41 rfl ?_
  refine g_get (v := .ref (ad 3)) cx fk_X3_18 dX3_copyFrom_42 0 rfl rfl ?_
  refine g_iconst (v := 0) cx dX3_copyFrom_45 (by decide) ?_
  refine g_aload_n (v := ad 0) cx dX3_copyFrom_46 rfl ?_
  refine g_get (v := .ref (ad 3)) cx fk_X3_18 dX3_copyFrom_47 0 rfl rfl ?_
  refine g_alen (ty := 0) (v := 20) cx dX3_copyFrom_50 3 rfl rfl ?_
  refine g_copy (ws' := wRing V ad (u1 (u1 (u1 R 0 (va_cpy (O 0) (R 0) 0 0 54)) 1 (va_cpy (O 1) (R 1) 0 0 14)) 2 (va_cpy (O 2) (R 2) 0 0 20)) ++ wRing V bd O) cx ml_X3_66 dX3_copyFrom_51 9 3 rfl rfl rfl rfl rfl (by decide) (Nat.le_of_ble_eq_true rfl) (Nat.le_of_ble_eq_true rfl) rfl ?_
  refine g_aload_n (v := bd 0) cx dX3_copyFrom_54 rfl ?_
  refine g_get (v := .ref (bd 4)) cx fk_X3_21 dX3_copyFrom_55 6 rfl rfl ?_
  refine g_iconst (v := 0) cx dX3_copyFrom_58 (by decide) ?_
  refine g_aload_n (v := ad 0) cx dX3_copyFrom_59 rfl ?_
  refine g_get (v := .ref (ad 4)) cx fk_X3_21 dX3_copyFrom_60 0 rfl rfl ?_
  refine g_iconst (v := 0) cx dX3_copyFrom_63 (by decide) ?_
  refine g_aload_n (v := ad 0) cx dX3_copyFrom_64 rfl ?_
  refine g_get (v := .ref (ad 4)) cx fk_X3_21 dX3_copyFrom_65 0 rfl rfl ?_
  refine g_alen (ty := 0) (v := 8) cx dX3_copyFrom_68 4 rfl rfl ?_
  refine g_copy (ws' := wRing V ad (u1 (u1 (u1 (u1 R 0 (va_cpy (O 0) (R 0) 0 0 54)) 1 (va_cpy (O 1) (R 1) 0 0 14)) 2 (va_cpy (O 2) (R 2) 0 0 20)) 3 (va_cpy (O 3) (R 3) 0 0 8)) ++ wRing V bd O) cx ml_X3_66 dX3_copyFrom_69 10 4 rfl rfl rfl rfl rfl (by decide) (Nat.le_of_ble_eq_true rfl) (Nat.le_of_ble_eq_true rfl) rfl ?_
  refine g_aload_n (v := bd 0) cx dX3_copyFrom_72 rfl ?_
  refine g_get (v := .ref (bd 5)) cx fk_X3_24 dX3_copyFrom_73 6 rfl rfl ?_
  refine g_iconst (v := 0) cx dX3_copyFrom_76 (by decide) ?_
  refine g_aload_n (v := ad 0) cx dX3_copyFrom_77 rfl ?_
  refine g_get (v := .ref (ad 5)) cx fk_X3_24 dX3_copyFrom_78 0 rfl rfl ?_
  refine g_iconst (v := 0) cx dX3_copyFrom_81 (by decide) ?_
  refine g_aload_n (v := ad 0) cx dX3_copyFrom_82 rfl ?_
  refine g_get (v := .ref (ad 5)) cx fk_X3_24 dX3_copyFrom_83 0 rfl rfl ?_
  refine g_alen (ty := 0) (v := 2) cx dX3_copyFrom_86 5 rfl rfl ?_
  refine g_copy (ws' := wRing V ad (u1 (u1 (u1 (u1 (u1 R 0 (va_cpy (O 0) (R 0) 0 0 54)) 1 (va_cpy (O 1) (R 1) 0 0 14)) 2 (va_cpy (O 2) (R 2) 0 0 20)) 3 (va_cpy (O 3) (R 3) 0 0 8)) 4 (va_cpy (O 4) (R 4) 0 0 2)) ++ wRing V bd O) cx ml_X3_66 dX3_copyFrom_87 11 5 rfl rfl rfl rfl rfl (by decide) (Nat.le_of_ble_eq_true rfl) (Nat.le_of_ble_eq_true rfl) rfl ?_
  refine g_aload_n (v := ad 0) cx dX3_copyFrom_90 rfl ?_
  refine g_aload_n (v := bd 0) cx dX3_copyFrom_91 rfl ?_
  refine g_get (v := .int (O 5 0)) cx fk_X3_34 dX3_copyFrom_92 6 rfl rfl ?_
  refine g_put (ws' := wRing V ad (u2 (u1 (u1 (u1 (u1 (u1 R 0 (va_cpy (O 0) (R 0) 0 0 54)) 1 (va_cpy (O 1) (R 1) 0 0 14)) 2 (va_cpy (O 2) (R 2) 0 0 20)) 3 (va_cpy (O 3) (R 3) 0 0 8)) 4 (va_cpy (O 4) (R 4) 0 0 2)) 5 0 (O 5 0)) ++ wRing V bd O) cx fk_X3_34 dX3_copyFrom_95 0 rfl (rfl) (rfl) (Nat.le_of_ble_eq_true rfl) rfl ?_
  refine g_aload_n (v := ad 0) cx dX3_copyFrom_98 rfl ?_
  refine g_aload_n (v := bd 0) cx dX3_copyFrom_99 rfl ?_
  refine g_get (v := .int (O 5 1)) cx fk_X3_54 dX3_copyFrom_100 6 rfl rfl ?_
  refine g_put (ws' := wRing V ad (u2 (u2 (u1 (u1 (u1 (u1 (u1 R 0 (va_cpy (O 0) (R 0) 0 0 54)) 1 (va_cpy (O 1) (R 1) 0 0 14)) 2 (va_cpy (O 2) (R 2) 0 0 20)) 3 (va_cpy (O 3) (R 3) 0 0 8)) 4 (va_cpy (O 4) (R 4) 0 0 2)) 5 0 (O 5 0)) 5 1 (O 5 1)) ++ wRing V bd O) cx fk_X3_54 dX3_copyFrom_103 0 rfl (rfl) (rfl) (Nat.le_of_ble_eq_true rfl) rfl ?_
  refine g_aload_n (v := ad 0) cx dX3_copyFrom_106 rfl ?_
  refine g_aload_n (v := bd 0) cx dX3_copyFrom_107 rfl ?_
  refine g_get (v := .int (O 5 2)) cx fk_X3_42 dX3_copyFrom_108 6 rfl rfl ?_
  refine g_put (ws' := wRing V ad (u2 (u2 (u2 (u1 (u1 (u1 (u1 (u1 R 0 (va_cpy (O 0) (R 0) 0 0 54)) 1 (va_cpy (O 1) (R 1) 0 0 14)) 2 (va_cpy (O 2) (R 2) 0 0 20)) 3 (va_cpy (O 3) (R 3) 0 0 8)) 4 (va_cpy (O 4) (R 4) 0 0 2)) 5 0 (O 5 0)) 5 1 (O 5 1)) 5 2 (O 5 2)) ++ wRing V bd O) cx fk_X3_42 dX3_copyFrom_111 0 rfl (rfl) (rfl) (Nat.le_of_ble_eq_true rfl) rfl ?_
  refine g_aload_n (v := ad 0) cx dX3_copyFrom_114 rfl ?_
  refine g_aload_n (v := bd 0) cx dX3_copyFrom_115 rfl ?_
  refine g_get (v := .int (O 5 3)) cx fk_X3_45 dX3_copyFrom_116 6 rfl rfl ?_
  refine g_put (ws' := wRing V ad (u2 (u2 (u2 (u2 (u1 (u1 (u1 (u1 (u1 R 0 (va_cpy (O 0) (R 0) 0 0 54)) 1 (va_cpy (O 1) (R 1) 0 0 14)) 2 (va_cpy (O 2) (R 2) 0 0 20)) 3 (va_cpy (O 3) (R 3) 0 0 8)) 4 (va_cpy (O 4) (R 4) 0 0 2)) 5 0 (O 5 0)) 5 1 (O 5 1)) 5 2 (O 5 2)) 5 3 (O 5 3)) ++ wRing V bd O) cx fk_X3_45 dX3_copyFrom_119 0 rfl (rfl) (rfl) (Nat.le_of_ble_eq_true rfl) rfl ?_
  refine g_aload_n (v := ad 0) cx dX3_copyFrom_122 rfl ?_
  refine g_aload_n (v := bd 0) cx dX3_copyFrom_123 rfl ?_
  refine g_get (v := .int (O 5 4)) cx fk_X3_38 dX3_copyFrom_124 6 rfl rfl ?_
  refine g_put (ws' := wRing V ad (u2 (u2 (u2 (u2 (u2 (u1 (u1 (u1 (u1 (u1 R 0 (va_cpy (O 0) (R 0) 0 0 54)) 1 (va_cpy (O 1) (R 1) 0 0 14)) 2 (va_cpy (O 2) (R 2) 0 0 20)) 3 (va_cpy (O 3) (R 3) 0 0 8)) 4 (va_cpy (O 4) (R 4) 0 0 2)) 5 0 (O 5 0)) 5 1 (O 5 1)) 5 2 (O 5 2)) 5 3 (O 5 3)) 5 4 (O 5 4)) ++ wRing V bd O) cx fk_X3_38 dX3_copyFrom_127 0 rfl (rf_nb h4) (rf_fb h4) (Nat.le_of_ble_eq_true rfl) rfl ?_
  refine g_aload_n (v := ad 0) cx dX3_copyFrom_130 rfl ?_
  refine g_aload_n (v := bd 0) cx dX3_copyFrom_131 rfl ?_
  refine g_get (v := .int (O 5 5)) cx fk_X3_57 dX3_copyFrom_132 6 rfl rfl ?_
  refine g_put (ws' := wRing V ad (u2 (u2 (u2 (u2 (u2 (u2 (u1 (u1 (u1 (u1 (u1 R 0 (va_cpy (O 0) (R 0) 0 0 54)) 1 (va_cpy (O 1) (R 1) 0 0 14)) 2 (va_cpy (O 2) (R 2) 0 0 20)) 3 (va_cpy (O 3) (R 3) 0 0 8)) 4 (va_cpy (O 4) (R 4) 0 0 2)) 5 0 (O 5 0)) 5 1 (O 5 1)) 5 2 (O 5 2)) 5 3 (O 5 3)) 5 4 (O 5 4)) 5 5 (O 5 5)) ++ wRing V bd O) cx fk_X3_57 dX3_copyFrom_135 0 rfl (rf_nb h5) (rf_fb h5) (Nat.le_of_ble_eq_true rfl) rfl ?_
  refine g_aload_n (v := ad 0) cx dX3_copyFrom_138 rfl ?_
  refine g_aload_n (v := bd 0) cx dX3_copyFrom_139 rfl ?_
  refine g_get (v := .int (O 5 6)) cx fk_X3_48 dX3_copyFrom_140 6 rfl rfl ?_
  refine g_put (ws' := wRing V ad (u2 (u2 (u2 (u2 (u2 (u2 (u2 (u1 (u1 (u1 (u1 (u1 R 0 (va_cpy (O 0) (R 0) 0 0 54)) 1 (va_cpy (O 1) (R 1) 0 0 14)) 2 (va_cpy (O 2) (R 2) 0 0 20)) 3 (va_cpy (O 3) (R 3) 0 0 8)) 4 (va_cpy (O 4) (R 4) 0 0 2)) 5 0 (O 5 0)) 5 1 (O 5 1)) 5 2 (O 5 2)) 5 3 (O 5 3)) 5 4 (O 5 4)) 5 5 (O 5 5)) 5 6 (O 5 6)) ++ wRing V bd O) cx fk_X3_48 dX3_copyFrom_143 0 rfl (rf_nb h6) (rf_fb h6) (Nat.le_of_ble_eq_true rfl) rfl ?_
  exact hret _ _ _ dX3_copyFrom_146 (rfl)
def rm_X3_putNewLink : Room := { frames := 1, cells := 0, slots := 0, locals := 23 }
set_option maxRecDepth 100000 in
set_option maxHeartbeats 4000000 in
theorem c_X3_putNewLink (V : VT) (ad : Nat → Nat) (R : S2) (x v : Int32) (k : Nat) (hx : x = nI k) (hk : k < 7) : CV V yX3_putNewLink cX3_putNewLink 3 rm_X3_putNewLink [.ref (ad 0), .int x, .int v] (wRing V ad R) (fun w_ => w_ = wRing V ad (u2 (u2 R 1 (k * 2 + 0) v) 1 (k * 2 + 1) 0)) := by
  refine CV_intro (by decide) (Nat.le_of_ble_eq_true rfl) (fun K cx hci hret => ?_)
  show G V K 3 0 0 (wRing V ad R) 0 [(0, .ref (ad 0)), (1, .int x), (2, .int v)] []
  refine g_aload_n (v := ad 0) cx dX3_putNewLink_0 rfl ?_
  refine g_iload_n (v := x) cx dX3_putNewLink_1 rfl ?_
  refine g_iconst (v := 0) cx dX3_putNewLink_2 (by decide) ?_
  refine g_iload_n (v := v) cx dX3_putNewLink_3 rfl ?_
  refine g_callv (ws' := wRing V ad (u2 R 1 (k * 2 + 0) v)) (As := [.int x, .int 0, .int v]) (rest := []) cx (c_X3_putLink V ad R x 0 v (k * 2 + 0) (rf_add (rf_mul hx rfl) (nl 0)) (by omega)) ml_X3_85 dX3_putNewLink_4 [0, 1, 2, 3, 4, 5] rfl rfl rfl rfl 0 3 rfl rfl rfl rfl rfl (Nat.le_of_ble_eq_true rfl) ⟨Nat.le_of_ble_eq_true rfl, Nat.le_of_ble_eq_true rfl⟩ ⟨Nat.le_refl _, Nat.le_refl _⟩ ?_
  refine g_aload_n (v := ad 0) cx dX3_putNewLink_7 rfl ?_
  refine g_iload_n (v := x) cx dX3_putNewLink_8 rfl ?_
  refine g_iconst (v := 1) cx dX3_putNewLink_9 (by decide) ?_
  refine g_iconst (v := 0) cx dX3_putNewLink_10 (by decide) ?_
  refine g_callv (ws' := wRing V ad (u2 (u2 R 1 (k * 2 + 0) v) 1 (k * 2 + 1) 0)) (As := [.int x, .int 1, .int 0]) (rest := []) cx (c_X3_putLink V ad (u2 R 1 (k * 2 + 0) v) x 1 0 (k * 2 + 1) (rf_add (rf_mul hx rfl) (nl 1)) (by omega)) ml_X3_85 dX3_putNewLink_11 [0, 1, 2, 3, 4, 5] rfl rfl rfl rfl 0 3 rfl rfl rfl rfl rfl (Nat.le_of_ble_eq_true rfl) ⟨Nat.le_of_ble_eq_true rfl, Nat.le_of_ble_eq_true rfl⟩ ⟨Nat.le_refl _, Nat.le_refl _⟩ ?_
  exact hret _ _ _ dX3_putNewLink_14 (rfl)
def rm_X3_addDrive : Room := { frames := 2, cells := 0, slots := 0, locals := 46 }
set_option maxRecDepth 100000 in
set_option maxHeartbeats 4000000 in
theorem c_X3_addDrive (V : VT) (ad : Nat → Nat) (R : S2) (len sta : Int32) (n : Nat) (hn : R 5 0 = nI n) (hn6 : n ≤ 6) (hn5 : n < 6) (hc : R 5 4 = 0) : CV V yX3_addDrive cX3_addDrive 4 rm_X3_addDrive [.ref (ad 0), .int len, .int sta] (wRing V ad R) (fun w_ => w_ = wRing V ad (rAddDrive R n len sta)) := by
  refine CV_intro (by decide) (Nat.le_of_ble_eq_true rfl) (fun K cx hci hret => ?_)
  show G V K 4 0 0 (wRing V ad R) 0 [(0, .ref (ad 0)), (1, .int len), (2, .int sta)] []
  refine g_aload_n (v := ad 0) cx dX3_addDrive_0 rfl ?_
  refine g_calli (r0 := bI (R 5 4 = 0 ∧ ¬ 6 ≤ R 5 0)) (ws' := wRing V ad R) (As := []) (rest := []) cx (c_X3_takesDrive V ad R) ml_X3_72 dX3_addDrive_1 [0, 1, 2, 3, 4, 5] rfl rfl rfl rfl 0 3 rfl rfl rfl rfl rfl (Nat.le_of_ble_eq_true rfl) ⟨Nat.le_of_ble_eq_true rfl, Nat.le_of_ble_eq_true rfl⟩ ⟨Nat.le_refl _, Nat.le_refl _⟩ ?_
  refine g_if_eq_b cx 56 dX3_addDrive_4 (by decide) (fun hw1 => absurd (⟨hc, rf_leMN (a := 6) rfl hn (by omega) (by omega) (by omega)⟩) hw1) (fun hw1 => ?_)
  refine g_aload_n (v := ad 0) cx dX3_addDrive_7 rfl ?_
  refine g_get (v := .int (R 5 0)) cx fk_X3_34 dX3_addDrive_8 0 rfl rfl ?_
  refine g_bipush (v := 9) cx dX3_addDrive_11 (by decide) ?_
  refine g_imul cx dX3_addDrive_13 ?_
  refine g_istore_n (lv' := [(0, .ref (ad 0)), (1, .int len), (2, .int sta), (3, .int ((R 5 0) * 9))]) cx dX3_addDrive_14 (by decide) rfl ?_
  refine g_aload_n (v := ad 0) cx dX3_addDrive_15 rfl ?_
  refine g_get (v := .ref (ad 1)) cx fk_X3_9 dX3_addDrive_16 0 rfl rfl ?_
  refine g_iload_n (v := (R 5 0) * 9) cx dX3_addDrive_19 rfl ?_
  refine g_iload_n (v := (R 5 0) * 9) cx dX3_addDrive_20 rfl ?_
  refine g_bipush (v := 9) cx dX3_addDrive_21 (by decide) ?_
  refine g_iadd cx dX3_addDrive_23 ?_
  refine g_iconst (v := 0) cx dX3_addDrive_24 (by decide) ?_
  refine g_callsv (ws' := wRing V ad (u1 R 0 (rFill (R 0) 0 (n * 9) (((n * 9) + 9) - (n * 9))))) (As := [.ref (ad 1), .int ((R 5 0) * 9), .int (((R 5 0) * 9) + 9), .int 0]) (rest := []) cx (c_J7_fill_fda19 V (ad 1) 54 (R 0) ((R 5 0) * 9) (((R 5 0) * 9) + 9) 0 (n * 9) ((n * 9) + 9) (rf_mul hn (nl 9)) (rf_add (rf_mul hn (nl 9)) (nl 9)) (by omega) (by omega) (by decide)) ml_X3_76 dX3_addDrive_25 [1] rfl rfl rfl rfl rfl rfl (Nat.le_of_ble_eq_true rfl) ⟨Nat.le_of_ble_eq_true rfl, Nat.le_of_ble_eq_true rfl⟩ ⟨Nat.le_refl _, Nat.le_refl _⟩ ?_
  refine g_aload_n (v := ad 0) cx dX3_addDrive_28 rfl ?_
  refine g_get (v := .ref (ad 1)) cx fk_X3_9 dX3_addDrive_29 0 rfl rfl ?_
  refine g_iload_n (v := (R 5 0) * 9) cx dX3_addDrive_32 rfl ?_
  refine g_iconst (v := 0) cx dX3_addDrive_33 (by decide) ?_
  refine g_iadd cx dX3_addDrive_34 ?_
  refine g_iload_n (v := sta) cx dX3_addDrive_35 rfl ?_
  refine g_iast (ws' := wRing V ad (u2 (u1 R 0 (rFill (R 0) 0 (n * 9) (((n * 9) + 9) - (n * 9)))) 0 ((n * 9) + 0) sta)) cx dX3_addDrive_36 1 ((n * 9) + 0) rfl (rf_add (rf_mul hn (nl 9)) (nl 0)) (by omega) (by first | decide | omega) rfl ?_
  refine g_aload_n (v := ad 0) cx dX3_addDrive_37 rfl ?_
  refine g_aload_n (v := ad 0) cx dX3_addDrive_38 rfl ?_
  refine g_get (v := .int (R 5 0)) cx fk_X3_34 dX3_addDrive_39 0 rfl rfl ?_
  refine g_iload_n (v := len) cx dX3_addDrive_42 rfl ?_
  refine g_callv (ws' := wRing V ad (u2 (u2 (u2 (u1 R 0 (rFill (R 0) 0 (n * 9) (((n * 9) + 9) - (n * 9)))) 0 ((n * 9) + 0) sta) 1 (n * 2 + 0) len) 1 (n * 2 + 1) 0)) (As := [.int (R 5 0), .int len]) (rest := []) cx (c_X3_putNewLink V ad (u2 (u1 R 0 (rFill (R 0) 0 (n * 9) (((n * 9) + 9) - (n * 9)))) 0 ((n * 9) + 0) sta) (R 5 0) len n hn (by omega)) ml_X3_79 dX3_addDrive_43 [0, 1, 2, 3, 4, 5] rfl rfl rfl rfl 0 3 rfl rfl rfl rfl rfl (Nat.le_of_ble_eq_true rfl) ⟨Nat.le_of_ble_eq_true rfl, Nat.le_of_ble_eq_true rfl⟩ ⟨Nat.le_refl _, Nat.le_refl _⟩ ?_
  refine g_aload_n (v := ad 0) cx dX3_addDrive_46 rfl ?_
  refine g_dup cx dX3_addDrive_47 rfl ?_
  refine g_get (v := .int (R 5 0)) cx fk_X3_34 dX3_addDrive_48 0 rfl rfl ?_
  refine g_iconst (v := 1) cx dX3_addDrive_51 (by decide) ?_
  refine g_iadd cx dX3_addDrive_52 ?_
  refine g_put (ws' := wRing V ad (u2 (u2 (u2 (u2 (u1 R 0 (rFill (R 0) 0 (n * 9) (((n * 9) + 9) - (n * 9)))) 0 ((n * 9) + 0) sta) 1 (n * 2 + 0) len) 1 (n * 2 + 1) 0) 5 0 ((R 5 0) + 1))) cx fk_X3_34 dX3_addDrive_53 0 rfl (rfl) (rfl) (Nat.le_of_ble_eq_true rfl) rfl ?_
  exact hret _ _ _ dX3_addDrive_56 (rfl)
def rm_X3_closeBy : Room := { frames := 2, cells := 0, slots := 0, locals := 45 }
set_option maxRecDepth 100000 in
set_option maxHeartbeats 4000000 in
theorem c_X3_closeBy (V : VT) (ad : Nat → Nat) (R : S2) (len : Int32) (n : Nat) (hn : R 5 0 = nI n) (hn6 : n ≤ 6) (hn0 : 0 < n) (hc : R 5 4 = 0) : CV V yX3_closeBy cX3_closeBy 2 rm_X3_closeBy [.ref (ad 0), .int len] (wRing V ad R) (fun w_ => w_ = wRing V ad (rCloseBy R n len)) := by
  refine CV_intro (by decide) (Nat.le_of_ble_eq_true rfl) (fun K cx hci hret => ?_)
  show G V K 2 0 0 (wRing V ad R) 0 [(0, .ref (ad 0)), (1, .int len)] []
  refine g_aload_n (v := ad 0) cx dX3_closeBy_0 rfl ?_
  refine g_calli (r0 := bI (R 5 4 = 0 ∧ ¬ R 5 0 ≤ 0)) (ws' := wRing V ad R) (As := []) (rest := []) cx (c_X3_takesClosing V ad R) ml_X3_82 dX3_closeBy_1 [0, 1, 2, 3, 4, 5] rfl rfl rfl rfl 0 3 rfl rfl rfl rfl rfl (Nat.le_of_ble_eq_true rfl) ⟨Nat.le_of_ble_eq_true rfl, Nat.le_of_ble_eq_true rfl⟩ ⟨Nat.le_refl _, Nat.le_refl _⟩ ?_
  refine g_if_eq_b cx 21 dX3_closeBy_4 (by decide) (fun hw1 => absurd (⟨hc, rf_leMN hn (b := 0) rfl (by omega) (by omega) (by omega)⟩) hw1) (fun hw1 => ?_)
  refine g_aload_n (v := ad 0) cx dX3_closeBy_7 rfl ?_
  refine g_aload_n (v := ad 0) cx dX3_closeBy_8 rfl ?_
  refine g_get (v := .int (R 5 0)) cx fk_X3_34 dX3_closeBy_9 0 rfl rfl ?_
  refine g_iload_n (v := len) cx dX3_closeBy_12 rfl ?_
  refine g_callv (ws' := wRing V ad (u2 (u2 R 1 (n * 2 + 0) len) 1 (n * 2 + 1) 0)) (As := [.int (R 5 0), .int len]) (rest := []) cx (c_X3_putNewLink V ad R (R 5 0) len n hn (by omega)) ml_X3_79 dX3_closeBy_13 [0, 1, 2, 3, 4, 5] rfl rfl rfl rfl 0 3 rfl rfl rfl rfl rfl (Nat.le_of_ble_eq_true rfl) ⟨Nat.le_of_ble_eq_true rfl, Nat.le_of_ble_eq_true rfl⟩ ⟨Nat.le_refl _, Nat.le_refl _⟩ ?_
  refine g_aload_n (v := ad 0) cx dX3_closeBy_16 rfl ?_
  refine g_iconst (v := 1) cx dX3_closeBy_17 (by decide) ?_
  refine g_put (ws' := wRing V ad (u2 (u2 (u2 R 1 (n * 2 + 0) len) 1 (n * 2 + 1) 0) 5 4 1)) cx fk_X3_38 dX3_closeBy_18 0 rfl (rfl) (rfl) (Nat.le_of_ble_eq_true rfl) rfl ?_
  exact hret _ _ _ dX3_closeBy_21 (rfl)
def rm_X3_addOrder : Room := { frames := 1, cells := 0, slots := 0, locals := 20 }
set_option maxRecDepth 100000 in
set_option maxHeartbeats 4000000 in
theorem c_X3_addOrder (V : VT) (ad : Nat → Nat) (R : S2) (x1 x2 x3 x4 x5 : Int32) (o : Nat) (ho : R 5 1 = nI o) (ho4 : o < 4) : CV V yX3_addOrder cX3_addOrder 7 rm_X3_addOrder [.ref (ad 0), .int x1, .int x2, .int x3, .int x4, .int x5] (wRing V ad R) (fun w_ => w_ = wRing V ad (rAddOrder R o x1 x2 x3 x4 x5)) := by
  refine CV_intro (by decide) (Nat.le_of_ble_eq_true rfl) (fun K cx hci hret => ?_)
  show G V K 7 0 0 (wRing V ad R) 0 [(0, .ref (ad 0)), (1, .int x1), (2, .int x2), (3, .int x3), (4, .int x4), (5, .int x5)] []
  refine g_aload_n (v := ad 0) cx dX3_addOrder_0 rfl ?_
  refine g_calli (r0 := bI (¬ 4 ≤ R 5 1)) (ws' := wRing V ad R) (As := []) (rest := []) cx (c_X3_takesOrder V ad R) ml_X3_89 dX3_addOrder_1 [0, 1, 2, 3, 4, 5] rfl rfl rfl rfl 0 3 rfl rfl rfl rfl rfl (Nat.le_of_ble_eq_true rfl) ⟨Nat.le_of_ble_eq_true rfl, Nat.le_of_ble_eq_true rfl⟩ ⟨Nat.le_refl _, Nat.le_refl _⟩ ?_
  refine g_if_eq_b cx 77 dX3_addOrder_4 (by decide) (fun hw1 => absurd (rf_leMN (a := 4) rfl ho (by omega) (by omega) (by omega)) hw1) (fun hw1 => ?_)
  refine g_aload_n (v := ad 0) cx dX3_addOrder_7 rfl ?_
  refine g_get (v := .int (R 5 1)) cx fk_X3_54 dX3_addOrder_8 0 rfl rfl ?_
  refine g_iconst (v := 5) cx dX3_addOrder_11 (by decide) ?_
  refine g_imul cx dX3_addOrder_12 ?_
  refine g_istore (lv' := [(0, .ref (ad 0)), (1, .int x1), (2, .int x2), (3, .int x3), (4, .int x4), (5, .int x5), (6, .int ((R 5 1) * 5))]) cx dX3_addOrder_13 (by decide) rfl ?_
  refine g_aload_n (v := ad 0) cx dX3_addOrder_15 rfl ?_
  refine g_get (v := .ref (ad 3)) cx fk_X3_18 dX3_addOrder_16 0 rfl rfl ?_
  refine g_iload (v := (R 5 1) * 5) cx dX3_addOrder_19 rfl ?_
  refine g_iconst (v := 0) cx dX3_addOrder_21 (by decide) ?_
  refine g_iadd cx dX3_addOrder_22 ?_
  refine g_iload_n (v := x1) cx dX3_addOrder_23 rfl ?_
  refine g_iast (ws' := wRing V ad (u2 R 2 ((o * 5) + 0) x1)) cx dX3_addOrder_24 3 ((o * 5) + 0) rfl (rf_add (rf_mul ho (nl 5)) (nl 0)) (by omega) (by first | decide | omega) rfl ?_
  refine g_aload_n (v := ad 0) cx dX3_addOrder_25 rfl ?_
  refine g_get (v := .ref (ad 3)) cx fk_X3_18 dX3_addOrder_26 0 rfl rfl ?_
  refine g_iload (v := (R 5 1) * 5) cx dX3_addOrder_29 rfl ?_
  refine g_iconst (v := 1) cx dX3_addOrder_31 (by decide) ?_
  refine g_iadd cx dX3_addOrder_32 ?_
  refine g_iload_n (v := x2) cx dX3_addOrder_33 rfl ?_
  refine g_iast (ws' := wRing V ad (u2 (u2 R 2 ((o * 5) + 0) x1) 2 ((o * 5) + 1) x2)) cx dX3_addOrder_34 3 ((o * 5) + 1) rfl (rf_add (rf_mul ho (nl 5)) (nl 1)) (by omega) (by first | decide | omega) rfl ?_
  refine g_aload_n (v := ad 0) cx dX3_addOrder_35 rfl ?_
  refine g_get (v := .ref (ad 3)) cx fk_X3_18 dX3_addOrder_36 0 rfl rfl ?_
  refine g_iload (v := (R 5 1) * 5) cx dX3_addOrder_39 rfl ?_
  refine g_iconst (v := 2) cx dX3_addOrder_41 (by decide) ?_
  refine g_iadd cx dX3_addOrder_42 ?_
  refine g_iload_n (v := x3) cx dX3_addOrder_43 rfl ?_
  refine g_iast (ws' := wRing V ad (u2 (u2 (u2 R 2 ((o * 5) + 0) x1) 2 ((o * 5) + 1) x2) 2 ((o * 5) + 2) x3)) cx dX3_addOrder_44 3 ((o * 5) + 2) rfl (rf_add (rf_mul ho (nl 5)) (nl 2)) (by omega) (by first | decide | omega) rfl ?_
  refine g_aload_n (v := ad 0) cx dX3_addOrder_45 rfl ?_
  refine g_get (v := .ref (ad 3)) cx fk_X3_18 dX3_addOrder_46 0 rfl rfl ?_
  refine g_iload (v := (R 5 1) * 5) cx dX3_addOrder_49 rfl ?_
  refine g_iconst (v := 3) cx dX3_addOrder_51 (by decide) ?_
  refine g_iadd cx dX3_addOrder_52 ?_
  refine g_iload (v := x4) cx dX3_addOrder_53 rfl ?_
  refine g_iast (ws' := wRing V ad (u2 (u2 (u2 (u2 R 2 ((o * 5) + 0) x1) 2 ((o * 5) + 1) x2) 2 ((o * 5) + 2) x3) 2 ((o * 5) + 3) x4)) cx dX3_addOrder_55 3 ((o * 5) + 3) rfl (rf_add (rf_mul ho (nl 5)) (nl 3)) (by omega) (by first | decide | omega) rfl ?_
  refine g_aload_n (v := ad 0) cx dX3_addOrder_56 rfl ?_
  refine g_get (v := .ref (ad 3)) cx fk_X3_18 dX3_addOrder_57 0 rfl rfl ?_
  refine g_iload (v := (R 5 1) * 5) cx dX3_addOrder_60 rfl ?_
  refine g_iconst (v := 4) cx dX3_addOrder_62 (by decide) ?_
  refine g_iadd cx dX3_addOrder_63 ?_
  refine g_iload (v := x5) cx dX3_addOrder_64 rfl ?_
  refine g_iast (ws' := wRing V ad (u2 (u2 (u2 (u2 (u2 R 2 ((o * 5) + 0) x1) 2 ((o * 5) + 1) x2) 2 ((o * 5) + 2) x3) 2 ((o * 5) + 3) x4) 2 ((o * 5) + 4) x5)) cx dX3_addOrder_66 3 ((o * 5) + 4) rfl (rf_add (rf_mul ho (nl 5)) (nl 4)) (by omega) (by first | decide | omega) rfl ?_
  refine g_aload_n (v := ad 0) cx dX3_addOrder_67 rfl ?_
  refine g_dup cx dX3_addOrder_68 rfl ?_
  refine g_get (v := .int (R 5 1)) cx fk_X3_54 dX3_addOrder_69 0 rfl rfl ?_
  refine g_iconst (v := 1) cx dX3_addOrder_72 (by decide) ?_
  refine g_iadd cx dX3_addOrder_73 ?_
  refine g_put (ws' := wRing V ad (u2 (u2 (u2 (u2 (u2 (u2 R 2 ((o * 5) + 0) x1) 2 ((o * 5) + 1) x2) 2 ((o * 5) + 2) x3) 2 ((o * 5) + 3) x4) 2 ((o * 5) + 4) x5) 5 1 ((R 5 1) + 1))) cx fk_X3_54 dX3_addOrder_74 0 rfl (rfl) (rfl) (Nat.le_of_ble_eq_true rfl) rfl ?_
  exact hret _ _ _ dX3_addOrder_77 (rfl)
def rm_X3_putResult : Room := { frames := 0, cells := 0, slots := 0, locals := 0 }
set_option maxRecDepth 100000 in
set_option maxHeartbeats 4000000 in
theorem c_X3_putResult (V : VT) (ad : Nat → Nat) (R : S2) (x c v : Int32) (k : Nat) (hx : x = nI k) (hk : k < 4) : CV V yX3_putResult cX3_putResult 4 rm_X3_putResult [.ref (ad 0), .int x, .int c, .int v] (wRing V ad R) (fun w_ => w_ = wRing V ad (u2 (u2 R 3 (k * 2 + 0) c) 3 (k * 2 + 1) v)) := by
  refine CV_intro (by decide) (Nat.le_of_ble_eq_true rfl) (fun K cx hci hret => ?_)
  show G V K 4 0 0 (wRing V ad R) 0 [(0, .ref (ad 0)), (1, .int x), (2, .int c), (3, .int v)] []
  refine g_aload_n (v := ad 0) cx dX3_putResult_0 rfl ?_
  refine g_get (v := .ref (ad 4)) cx fk_X3_21 dX3_putResult_1 0 rfl rfl ?_
  refine g_iload_n (v := x) cx dX3_putResult_4 rfl ?_
  refine g_iconst (v := 2) cx dX3_putResult_5 (by decide) ?_
  refine g_imul cx dX3_putResult_6 ?_
  refine g_iconst (v := 0) cx dX3_putResult_7 (by decide) ?_
  refine g_iadd cx dX3_putResult_8 ?_
  refine g_iload_n (v := c) cx dX3_putResult_9 rfl ?_
  refine g_iast (ws' := wRing V ad (u2 R 3 ((k * 2) + 0) c)) cx dX3_putResult_10 4 ((k * 2) + 0) rfl (rf_add (rf_mul hx (nl 2)) (nl 0)) (by omega) (by first | decide | omega) rfl ?_
  refine g_aload_n (v := ad 0) cx dX3_putResult_11 rfl ?_
  refine g_get (v := .ref (ad 4)) cx fk_X3_21 dX3_putResult_12 0 rfl rfl ?_
  refine g_iload_n (v := x) cx dX3_putResult_15 rfl ?_
  refine g_iconst (v := 2) cx dX3_putResult_16 (by decide) ?_
  refine g_imul cx dX3_putResult_17 ?_
  refine g_iconst (v := 1) cx dX3_putResult_18 (by decide) ?_
  refine g_iadd cx dX3_putResult_19 ?_
  refine g_iload_n (v := v) cx dX3_putResult_20 rfl ?_
  refine g_iast (ws' := wRing V ad (u2 (u2 R 3 ((k * 2) + 0) c) 3 ((k * 2) + 1) v)) cx dX3_putResult_21 4 ((k * 2) + 1) rfl (rf_add (rf_mul hx (nl 2)) (nl 1)) (by omega) (by first | decide | omega) rfl ?_
  exact hret _ _ _ dX3_putResult_22 (rfl)
def rm_X3_safeDrives : Room := { frames := 1, cells := 0, slots := 0, locals := 22 }
set_option maxRecDepth 100000 in
set_option maxHeartbeats 4000000 in
theorem c_X3_safeDrives (V : VT) (ad : Nat → Nat) (R : S2) (n : Nat) (hn : R 5 0 = nI n) (hn6 : n ≤ 6) : CI V yX3_safeDrives cX3_safeDrives 3 .int rm_X3_safeDrives [.ref (ad 0)] (wRing V ad R) (fun r_ w_ => r_ = rSafe R n ∧ w_ = wRing V ad R) := by
  refine CI_intro (by decide) (Nat.le_of_ble_eq_true rfl) (fun K cx hret => ?_)
  show G V K 3 0 0 (wRing V ad R) 0 [(0, .ref (ad 0))] []
  refine g_iconst (v := 0) cx dX3_safeDrives_0 (by decide) ?_
  refine g_istore_n (lv' := [(0, .ref (ad 0)), (1, .int 0)]) cx dX3_safeDrives_1 (by decide) rfl ?_
  refine g_iconst (v := 0) cx dX3_safeDrives_2 (by decide) ?_
  refine g_istore_n (lv' := [(0, .ref (ad 0)), (1, .int 0), (2, .int 0)]) cx dX3_safeDrives_3 (by decide) rfl ?_
  refine rf_dn (P := fun i1 => G V K 3 0 0 (wRing V ad R) 4 [(0, .ref (ad 0)), (1, .int (rSafe R i1)), (2, .int (nI i1))] []) (n) (fun i1 hi1 ihi1 => ?_) ?_
  · skip
    refine g_iload_n (v := nI i1) cx dX3_safeDrives_4 rfl ?_
    refine g_aload_n (v := ad 0) cx dX3_safeDrives_5 rfl ?_
    refine g_get (v := .int (R 5 0)) cx fk_X3_34 dX3_safeDrives_6 0 rfl rfl ?_
    refine g_icmp_ge cx 28 dX3_safeDrives_9 (by decide) (fun hw1 => absurd hw1 (rf_geMN rfl hn (by omega) (by omega) (by omega))) (fun hw1 => ?_)
    refine g_iload_n (v := rSafe R i1) cx dX3_safeDrives_12 rfl ?_
    refine g_aload_n (v := ad 0) cx dX3_safeDrives_13 rfl ?_
    refine g_iload_n (v := nI i1) cx dX3_safeDrives_14 rfl ?_
    refine g_bipush (v := 6) cx dX3_safeDrives_15 (by decide) ?_
    refine g_calli (r0 := R 0 (i1 * 9 + 6)) (ws' := wRing V ad R) (As := [.int (nI i1), .int 6]) (rest := [.int (rSafe R i1)]) cx (c_X3_ofDrive V ad R (nI i1) 6 (i1 * 9 + 6) (rf_add (rf_mul rfl rfl) (nl 6)) (by omega)) ml_X3_96 dX3_safeDrives_17 [0, 1, 2, 3, 4, 5] rfl rfl rfl rfl 0 3 rfl rfl rfl rfl rfl (Nat.le_of_ble_eq_true rfl) ⟨Nat.le_of_ble_eq_true rfl, Nat.le_of_ble_eq_true rfl⟩ ⟨Nat.le_refl _, Nat.le_refl _⟩ ?_
    refine g_iadd cx dX3_safeDrives_20 ?_
    refine g_istore_n (lv' := [(0, .ref (ad 0)), (1, .int ((rSafe R i1) + (R 0 (i1 * 9 + 6)))), (2, .int (nI i1))]) cx dX3_safeDrives_21 (by decide) rfl ?_
    refine g_iinc (x := nI i1) (v := nI (i1 + 1)) (lv' := [(0, .ref (ad 0)), (1, .int ((rSafe R i1) + (R 0 (i1 * 9 + 6)))), (2, .int (nI (i1 + 1)))]) cx dX3_safeDrives_22 rfl (by decide) (nI_add _ _) rfl ?_
    refine g_goto cx 4 dX3_safeDrives_25 (by decide) ?_
    exact ihi1
  · skip
    refine g_iload_n (v := nI n) cx dX3_safeDrives_4 rfl ?_
    refine g_aload_n (v := ad 0) cx dX3_safeDrives_5 rfl ?_
    refine g_get (v := .int (R 5 0)) cx fk_X3_34 dX3_safeDrives_6 0 rfl rfl ?_
    refine g_icmp_ge cx 28 dX3_safeDrives_9 (by decide) (fun hw2 => ?_) (fun hw2 => absurd (rf_geMP rfl hn (by omega) (by omega) (by omega)) hw2)
    refine g_iload_n (v := rSafe R n) cx dX3_safeDrives_28 rfl ?_
    exact hret _ _ _ _ dX3_safeDrives_29 (rfl) ⟨rfl, rfl⟩
def rm_X3_cutLinks : Room := { frames := 1, cells := 0, slots := 0, locals := 22 }
set_option maxRecDepth 100000 in
set_option maxHeartbeats 4000000 in
theorem c_X3_cutLinks (V : VT) (ad : Nat → Nat) (R : S2) (m : Nat) (hm : rLinks R = nI m) (hm7 : m ≤ 7) : CI V yX3_cutLinks cX3_cutLinks 3 .int rm_X3_cutLinks [.ref (ad 0)] (wRing V ad R) (fun r_ w_ => r_ = rCuts R m ∧ w_ = wRing V ad R) := by
  refine CI_intro (by decide) (Nat.le_of_ble_eq_true rfl) (fun K cx hret => ?_)
  show G V K 3 0 0 (wRing V ad R) 0 [(0, .ref (ad 0))] []
  refine g_iconst (v := 0) cx dX3_cutLinks_0 (by decide) ?_
  refine g_istore_n (lv' := [(0, .ref (ad 0)), (1, .int 0)]) cx dX3_cutLinks_1 (by decide) rfl ?_
  refine g_iconst (v := 0) cx dX3_cutLinks_2 (by decide) ?_
  refine g_istore_n (lv' := [(0, .ref (ad 0)), (1, .int 0), (2, .int 0)]) cx dX3_cutLinks_3 (by decide) rfl ?_
  refine rf_dn (P := fun i1 => G V K 3 0 0 (wRing V ad R) 4 [(0, .ref (ad 0)), (1, .int (rCuts R i1)), (2, .int (nI i1))] []) (m) (fun i1 hi1 ihi1 => ?_) ?_
  · skip
    refine g_iload_n (v := nI i1) cx dX3_cutLinks_4 rfl ?_
    refine g_aload_n (v := ad 0) cx dX3_cutLinks_5 rfl ?_
    refine g_calli (r0 := rLinks R) (ws' := wRing V ad R) (As := []) (rest := [.int (nI i1)]) cx (c_X3_links V ad R) ml_X3_92 dX3_cutLinks_6 [0, 1, 2, 3, 4, 5] rfl rfl rfl rfl 0 3 rfl rfl rfl rfl rfl (Nat.le_of_ble_eq_true rfl) ⟨Nat.le_of_ble_eq_true rfl, Nat.le_of_ble_eq_true rfl⟩ ⟨Nat.le_refl _, Nat.le_refl _⟩ ?_
    refine g_icmp_ge cx 27 dX3_cutLinks_9 (by decide) (fun hw1 => absurd hw1 (rf_geMN rfl hm (by omega) (by omega) (by omega))) (fun hw1 => ?_)
    refine g_iload_n (v := rCuts R i1) cx dX3_cutLinks_12 rfl ?_
    refine g_aload_n (v := ad 0) cx dX3_cutLinks_13 rfl ?_
    refine g_iload_n (v := nI i1) cx dX3_cutLinks_14 rfl ?_
    refine g_iconst (v := 1) cx dX3_cutLinks_15 (by decide) ?_
    refine g_calli (r0 := R 1 (i1 * 2 + 1)) (ws' := wRing V ad R) (As := [.int (nI i1), .int 1]) (rest := [.int (rCuts R i1)]) cx (c_X3_ofLink V ad R (nI i1) 1 (i1 * 2 + 1) (rf_add (rf_mul rfl rfl) (nl 1)) (by omega)) ml_X3_100 dX3_cutLinks_16 [0, 1, 2, 3, 4, 5] rfl rfl rfl rfl 0 3 rfl rfl rfl rfl rfl (Nat.le_of_ble_eq_true rfl) ⟨Nat.le_of_ble_eq_true rfl, Nat.le_of_ble_eq_true rfl⟩ ⟨Nat.le_refl _, Nat.le_refl _⟩ ?_
    refine g_iadd cx dX3_cutLinks_19 ?_
    refine g_istore_n (lv' := [(0, .ref (ad 0)), (1, .int ((rCuts R i1) + (R 1 (i1 * 2 + 1)))), (2, .int (nI i1))]) cx dX3_cutLinks_20 (by decide) rfl ?_
    refine g_iinc (x := nI i1) (v := nI (i1 + 1)) (lv' := [(0, .ref (ad 0)), (1, .int ((rCuts R i1) + (R 1 (i1 * 2 + 1)))), (2, .int (nI (i1 + 1)))]) cx dX3_cutLinks_21 rfl (by decide) (nI_add _ _) rfl ?_
    refine g_goto cx 4 dX3_cutLinks_24 (by decide) ?_
    exact ihi1
  · skip
    refine g_iload_n (v := nI m) cx dX3_cutLinks_4 rfl ?_
    refine g_aload_n (v := ad 0) cx dX3_cutLinks_5 rfl ?_
    refine g_calli (r0 := rLinks R) (ws' := wRing V ad R) (As := []) (rest := [.int (nI m)]) cx (c_X3_links V ad R) ml_X3_92 dX3_cutLinks_6 [0, 1, 2, 3, 4, 5] rfl rfl rfl rfl 0 3 rfl rfl rfl rfl rfl (Nat.le_of_ble_eq_true rfl) ⟨Nat.le_of_ble_eq_true rfl, Nat.le_of_ble_eq_true rfl⟩ ⟨Nat.le_refl _, Nat.le_refl _⟩ ?_
    refine g_icmp_ge cx 27 dX3_cutLinks_9 (by decide) (fun hw2 => ?_) (fun hw2 => absurd (rf_geMP rfl hm (by omega) (by omega) (by omega)) hw2)
    refine g_iload_n (v := rCuts R m) cx dX3_cutLinks_27 rfl ?_
    exact hret _ _ _ _ dX3_cutLinks_28 (rfl) ⟨rfl, rfl⟩
def rm_X3_isWhole : Room := { frames := 2, cells := 0, slots := 0, locals := 44 }
set_option maxRecDepth 100000 in
set_option maxHeartbeats 4000000 in
theorem c_X3_isWhole (V : VT) (ad : Nat → Nat) (R : S2) (m : Nat) (hm : rLinks R = nI m) (hm7 : m ≤ 7) : CI V yX3_isWhole cX3_isWhole 1 .boolean rm_X3_isWhole [.ref (ad 0)] (wRing V ad R) (fun r_ w_ => r_ = bI (¬ R 5 4 = 0 ∧ rCuts R m = 0) ∧ w_ = wRing V ad R) := by
  refine CI_intro (by decide) (Nat.le_of_ble_eq_true rfl) (fun K cx hret => ?_)
  show G V K 1 0 0 (wRing V ad R) 0 [(0, .ref (ad 0))] []
  refine g_aload_n (v := ad 0) cx dX3_isWhole_0 rfl ?_
  refine g_get (v := .int (R 5 4)) cx fk_X3_38 dX3_isWhole_1 0 rfl rfl ?_
  refine g_if_eq cx 18 dX3_isWhole_4 (by decide) (fun hw1 => ?_) (fun hw1 => ?_)
  · skip
    refine g_iconst (v := 0) cx dX3_isWhole_18 (by decide) ?_
    exact hret _ _ _ _ dX3_isWhole_19 (by first | rfl | exact rf_bnar _) (⟨by simp only [bI, hw1, not_true_eq_false, not_false_eq_true, and_true, true_and, and_false, false_and, or_true, true_or, or_false, false_or, if_true, if_false], rfl⟩)
  · skip
    refine g_aload_n (v := ad 0) cx dX3_isWhole_7 rfl ?_
    refine g_calli (r0 := rCuts R m) (ws' := wRing V ad R) (As := []) (rest := []) cx (c_X3_cutLinks V ad R m hm (by omega)) ml_X3_103 dX3_isWhole_8 [0, 1, 2, 3, 4, 5] rfl rfl rfl rfl 0 3 rfl rfl rfl rfl rfl (Nat.le_of_ble_eq_true rfl) ⟨Nat.le_of_ble_eq_true rfl, Nat.le_of_ble_eq_true rfl⟩ ⟨Nat.le_refl _, Nat.le_refl _⟩ ?_
    refine g_if_ne cx 18 dX3_isWhole_11 (by decide) (fun hw2 => ?_) (fun hw2 => ?_)
    · skip
      refine g_iconst (v := 0) cx dX3_isWhole_18 (by decide) ?_
      exact hret _ _ _ _ dX3_isWhole_19 (by first | rfl | exact rf_bnar _) (⟨by simp only [bI, hw1, hw2, not_true_eq_false, not_false_eq_true, and_true, true_and, and_false, false_and, or_true, true_or, or_false, false_or, if_true, if_false], rfl⟩)
    · skip
      refine g_iconst (v := 1) cx dX3_isWhole_14 (by decide) ?_
      refine g_goto cx 19 dX3_isWhole_15 (by decide) ?_
      exact hret _ _ _ _ dX3_isWhole_19 (by first | rfl | exact rf_bnar _) (⟨by simp only [bI, hw1, hw2, not_true_eq_false, not_false_eq_true, and_true, true_and, and_false, false_and, or_true, true_or, or_false, false_or, if_true, if_false], rfl⟩)
def rm_X3_endOfA : Room := { frames := 1, cells := 0, slots := 0, locals := 21 }
set_option maxRecDepth 100000 in
set_option maxHeartbeats 4000000 in
theorem c_X3_endOfA (V : VT) (ad : Nat → Nat) (R : S2) (n : Nat) (hn : R 5 0 = nI n) (hn6 : n ≤ 6) : CI V yX3_endOfA cX3_endOfA 2 .int rm_X3_endOfA [.ref (ad 0)] (wRing V ad R) (fun r_ w_ => r_ = nI (eA R n) ∧ w_ = wRing V ad R) := by
  refine CI_intro (by decide) (Nat.le_of_ble_eq_true rfl) (fun K cx hret => ?_)
  show G V K 2 0 0 (wRing V ad R) 0 [(0, .ref (ad 0))] []
  refine g_iconst (v := 0) cx dX3_endOfA_0 (by decide) ?_
  refine g_istore_n (lv' := [(0, .ref (ad 0)), (1, .int 0)]) cx dX3_endOfA_1 (by decide) rfl ?_
  refine rf_dn (P := fun i1 => G V K 2 0 0 (wRing V ad R) 2 [(0, .ref (ad 0)), (1, .int (nI i1))] []) (eA R n) (fun i1 hi1 ihi1 => ?_) ?_
  · skip
    have hle := ff_le (rCut R) n
    have hle : eA R n ≤ n := hle
    have hno : ¬ R 1 (i1 * 2 + 1) = 1 := of_decide_eq_false (ff_no (rCut R) n i1 hi1)
    refine g_iload_n (v := nI i1) cx dX3_endOfA_2 rfl ?_
    refine g_aload_n (v := ad 0) cx dX3_endOfA_3 rfl ?_
    refine g_get (v := .int (R 5 0)) cx fk_X3_34 dX3_endOfA_4 0 rfl rfl ?_
    refine g_icmp_ge cx 26 dX3_endOfA_7 (by decide) (fun hw1 => absurd hw1 (rf_geMN rfl hn (by omega) (by omega) (by omega))) (fun hw1 => ?_)
    refine g_aload_n (v := ad 0) cx dX3_endOfA_10 rfl ?_
    refine g_iload_n (v := nI i1) cx dX3_endOfA_11 rfl ?_
    refine g_calli (r0 := bI (R 1 (i1 * 2 + 1) = 1)) (ws' := wRing V ad R) (As := [.int (nI i1)]) (rest := []) cx (c_X3_isCut V ad R (nI i1) (i1 * 2 + 1) (rf_add (rf_mul rfl rfl) rfl) (by omega)) ml_X3_106 dX3_endOfA_12 [0, 1, 2, 3, 4, 5] rfl rfl rfl rfl 0 3 rfl rfl rfl rfl rfl (Nat.le_of_ble_eq_true rfl) ⟨Nat.le_of_ble_eq_true rfl, Nat.le_of_ble_eq_true rfl⟩ ⟨Nat.le_refl _, Nat.le_refl _⟩ ?_
    refine g_if_eq_b cx 20 dX3_endOfA_15 (by decide) (fun hw2 => ?_) (fun hw2 => absurd hw2 (hno))
    refine g_iinc (x := nI i1) (v := nI (i1 + 1)) (lv' := [(0, .ref (ad 0)), (1, .int (nI (i1 + 1)))]) cx dX3_endOfA_20 rfl (by decide) (nI_add _ _) rfl ?_
    refine g_goto cx 2 dX3_endOfA_23 (by decide) ?_
    exact ihi1
  · skip
    have hle : eA R n ≤ n := ff_le (rCut R) n
    rcases Nat.lt_or_ge (eA R n) n with he | he
    · have hy : R 1 (eA R n * 2 + 1) = 1 := of_decide_eq_true (ff_yes (rCut R) n he)
      refine g_iload_n (v := nI (eA R n)) cx dX3_endOfA_2 rfl ?_
      refine g_aload_n (v := ad 0) cx dX3_endOfA_3 rfl ?_
      refine g_get (v := .int (R 5 0)) cx fk_X3_34 dX3_endOfA_4 0 rfl rfl ?_
      refine g_icmp_ge cx 26 dX3_endOfA_7 (by decide) (fun hw3 => absurd hw3 (rf_geMN rfl hn (by omega) (by omega) (by omega))) (fun hw3 => ?_)
      refine g_aload_n (v := ad 0) cx dX3_endOfA_10 rfl ?_
      refine g_iload_n (v := nI (eA R n)) cx dX3_endOfA_11 rfl ?_
      refine g_calli (r0 := bI (R 1 ((eA R n) * 2 + 1) = 1)) (ws' := wRing V ad R) (As := [.int (nI (eA R n))]) (rest := []) cx (c_X3_isCut V ad R (nI (eA R n)) ((eA R n) * 2 + 1) (rf_add (rf_mul rfl rfl) rfl) (by omega)) ml_X3_106 dX3_endOfA_12 [0, 1, 2, 3, 4, 5] rfl rfl rfl rfl 0 3 rfl rfl rfl rfl rfl (Nat.le_of_ble_eq_true rfl) ⟨Nat.le_of_ble_eq_true rfl, Nat.le_of_ble_eq_true rfl⟩ ⟨Nat.le_refl _, Nat.le_refl _⟩ ?_
      refine g_if_eq_b cx 20 dX3_endOfA_15 (by decide) (fun hw4 => absurd (hy) hw4) (fun hw4 => ?_)
      refine g_iload_n (v := nI (eA R n)) cx dX3_endOfA_18 rfl ?_
      exact hret _ _ _ _ dX3_endOfA_19 (rfl) ⟨rfl, rfl⟩
    · have he2 : eA R n = n := Nat.le_antisymm (ff_le _ n) he
      refine g_iload_n (v := nI (eA R n)) cx dX3_endOfA_2 rfl ?_
      refine g_aload_n (v := ad 0) cx dX3_endOfA_3 rfl ?_
      refine g_get (v := .int (R 5 0)) cx fk_X3_34 dX3_endOfA_4 0 rfl rfl ?_
      refine g_icmp_ge cx 26 dX3_endOfA_7 (by decide) (fun hw5 => ?_) (fun hw5 => absurd (rf_geMP rfl hn (by omega) (by omega) (by omega)) hw5)
      refine g_aload_n (v := ad 0) cx dX3_endOfA_26 rfl ?_
      refine g_get (v := .int (R 5 0)) cx fk_X3_34 dX3_endOfA_27 0 rfl rfl ?_
      exact hret _ _ _ _ dX3_endOfA_30 (rfl) (⟨by rw [hn, he2], rfl⟩)
def rm_X3_startOfB : Room := { frames := 1, cells := 0, slots := 0, locals := 21 }
set_option maxRecDepth 100000 in
set_option maxHeartbeats 4000000 in
theorem c_X3_startOfB (V : VT) (ad : Nat → Nat) (R : S2) (n : Nat) (hn : R 5 0 = nI n) (hn6 : n ≤ 6) : CI V yX3_startOfB cX3_startOfB 2 .int rm_X3_startOfB [.ref (ad 0)] (wRing V ad R) (fun r_ w_ => r_ = nI (sB R n) ∧ w_ = wRing V ad R) := by
  refine CI_intro (by decide) (Nat.le_of_ble_eq_true rfl) (fun K cx hret => ?_)
  show G V K 2 0 0 (wRing V ad R) 0 [(0, .ref (ad 0))] []
  refine g_aload_n (v := ad 0) cx dX3_startOfB_0 rfl ?_
  refine g_get (v := .int (R 5 4)) cx fk_X3_38 dX3_startOfB_1 0 rfl rfl ?_
  refine g_if_ne cx 12 dX3_startOfB_4 (by decide) (fun hw1 => ?_) (fun hw1 => ?_)
  · skip
    refine g_aload_n (v := ad 0) cx dX3_startOfB_12 rfl ?_
    refine g_get (v := .int (R 5 0)) cx fk_X3_34 dX3_startOfB_13 0 rfl rfl ?_
    refine g_top (y := nI n - nI 0) (by rw [hn]; exact (rf_sub (a := n) (b := 0) rfl rfl (Nat.zero_le _)).symm) ?_
    refine g_istore_n (lv' := [(0, .ref (ad 0)), (1, .int (nI n - nI 0))]) cx dX3_startOfB_16 (by decide) rfl ?_
    refine rf_dn (P := fun i1 => G V K 2 0 0 (wRing V ad R) 17 [(0, .ref (ad 0)), (1, .int (nI n - nI i1))] []) (sJ R n) (fun i1 hi1 ihi1 => ?_) ?_
    · skip
      have hle : sJ R n ≤ n + 1 := ff_le _ (n + 1)
      have hno : ¬ R 1 ((n - i1) * 2 + 1) = 1 := of_decide_eq_false (ff_no (fun j => rCut R (n - j)) (n + 1) i1 hi1)
      refine g_iload_n (v := nI n - nI i1) cx dX3_startOfB_17 rfl ?_
      refine g_if_lt cx 37 dX3_startOfB_18 (by decide) (fun hw2 => absurd hw2 (rf_ltMN (rf_sub rfl rfl (by omega)) (nl 0) (by omega) (by omega) (by omega))) (fun hw2 => ?_)
      refine g_aload_n (v := ad 0) cx dX3_startOfB_21 rfl ?_
      refine g_iload_n (v := nI n - nI i1) cx dX3_startOfB_22 rfl ?_
      refine g_calli (r0 := bI (R 1 ((n - i1) * 2 + 1) = 1)) (ws' := wRing V ad R) (As := [.int (nI n - nI i1)]) (rest := []) cx (c_X3_isCut V ad R (nI n - nI i1) ((n - i1) * 2 + 1) (rf_add (rf_mul (rf_sub rfl rfl (by omega)) rfl) rfl) (by omega)) ml_X3_106 dX3_startOfB_23 [0, 1, 2, 3, 4, 5] rfl rfl rfl rfl 0 3 rfl rfl rfl rfl rfl (Nat.le_of_ble_eq_true rfl) ⟨Nat.le_of_ble_eq_true rfl, Nat.le_of_ble_eq_true rfl⟩ ⟨Nat.le_refl _, Nat.le_refl _⟩ ?_
      refine g_if_eq_b cx 31 dX3_startOfB_26 (by decide) (fun hw3 => ?_) (fun hw3 => absurd hw3 (hno))
      refine g_iinc (x := nI n - nI i1) (v := nI n - nI (i1 + 1)) (lv' := [(0, .ref (ad 0)), (1, .int (nI n - nI (i1 + 1)))]) cx dX3_startOfB_31 rfl (by decide) (rf_dec _ _) rfl ?_
      refine g_goto cx 17 dX3_startOfB_34 (by decide) ?_
      exact ihi1
    · skip
      have hle : sJ R n ≤ n + 1 := ff_le _ (n + 1)
      rcases Nat.lt_or_ge (sJ R n) (n + 1) with he | he
      · have hy : R 1 ((n - sJ R n) * 2 + 1) = 1 := of_decide_eq_true (ff_yes (fun j => rCut R (n - j)) (n + 1) he)
        refine g_iload_n (v := nI n - nI (sJ R n)) cx dX3_startOfB_17 rfl ?_
        refine g_if_lt cx 37 dX3_startOfB_18 (by decide) (fun hw4 => absurd hw4 (rf_ltMN (rf_sub rfl rfl (by omega)) (nl 0) (by omega) (by omega) (by omega))) (fun hw4 => ?_)
        refine g_aload_n (v := ad 0) cx dX3_startOfB_21 rfl ?_
        refine g_iload_n (v := nI n - nI (sJ R n)) cx dX3_startOfB_22 rfl ?_
        refine g_calli (r0 := bI (R 1 ((n - sJ R n) * 2 + 1) = 1)) (ws' := wRing V ad R) (As := [.int (nI n - nI (sJ R n))]) (rest := []) cx (c_X3_isCut V ad R (nI n - nI (sJ R n)) ((n - sJ R n) * 2 + 1) (rf_add (rf_mul (rf_sub rfl rfl (by omega)) rfl) rfl) (by omega)) ml_X3_106 dX3_startOfB_23 [0, 1, 2, 3, 4, 5] rfl rfl rfl rfl 0 3 rfl rfl rfl rfl rfl (Nat.le_of_ble_eq_true rfl) ⟨Nat.le_of_ble_eq_true rfl, Nat.le_of_ble_eq_true rfl⟩ ⟨Nat.le_refl _, Nat.le_refl _⟩ ?_
        refine g_if_eq_b cx 31 dX3_startOfB_26 (by decide) (fun hw5 => absurd (hy) hw5) (fun hw5 => ?_)
        refine g_iload_n (v := nI n - nI (sJ R n)) cx dX3_startOfB_29 rfl ?_
        exact hret _ _ _ _ dX3_startOfB_30 (rfl) (⟨by rw [sB, if_neg hw1, if_pos he]; exact rf_sub rfl rfl (by omega), rfl⟩)
      · have he2 : sJ R n = n + 1 := Nat.le_antisymm (ff_le _ (n + 1)) he
        refine g_iload_n (v := nI n - nI (sJ R n)) cx dX3_startOfB_17 rfl ?_
        refine g_if_lt cx 37 dX3_startOfB_18 (by decide) (fun hw6 => ?_) (fun hw6 => absurd (by rw [he2]; exact pk_sneg (by omega) (by omega)) hw6)
        refine g_aload_n (v := ad 0) cx dX3_startOfB_37 rfl ?_
        refine g_get (v := .int (R 5 0)) cx fk_X3_34 dX3_startOfB_38 0 rfl rfl ?_
        exact hret _ _ _ _ dX3_startOfB_41 (rfl) (⟨by rw [sB, if_neg hw1, if_neg (by omega), hn], rfl⟩)
  · skip
    refine g_aload_n (v := ad 0) cx dX3_startOfB_7 rfl ?_
    refine g_get (v := .int (R 5 0)) cx fk_X3_34 dX3_startOfB_8 0 rfl rfl ?_
    exact hret _ _ _ _ dX3_startOfB_11 (rfl) (⟨by rw [sB, if_pos hw1, hn], rfl⟩)
def rm_X3_bitsOfA : Room := { frames := 2, cells := 0, slots := 0, locals := 42 }
set_option maxRecDepth 100000 in
set_option maxHeartbeats 4000000 in
theorem c_X3_bitsOfA (V : VT) (ad : Nat → Nat) (R : S2) (n : Nat) (hn : R 5 0 = nI n) (hn6 : n ≤ 6) : CI V yX3_bitsOfA cX3_bitsOfA 1 .int rm_X3_bitsOfA [.ref (ad 0)] (wRing V ad R) (fun r_ w_ => r_ = ((1 : Int32) <<< (nI (eA R n) &&& 31)) - 1 ∧ w_ = wRing V ad R) := by
  refine CI_intro (by decide) (Nat.le_of_ble_eq_true rfl) (fun K cx hret => ?_)
  show G V K 1 0 0 (wRing V ad R) 0 [(0, .ref (ad 0))] []
  refine g_iconst (v := 1) cx dX3_bitsOfA_0 (by decide) ?_
  refine g_aload_n (v := ad 0) cx dX3_bitsOfA_1 rfl ?_
  refine g_calli (r0 := nI (eA R n)) (ws' := wRing V ad R) (As := []) (rest := [.int 1]) cx (c_X3_endOfA V ad R n hn (by omega)) ml_X3_110 dX3_bitsOfA_2 [0, 1, 2, 3, 4, 5] rfl rfl rfl rfl 0 3 rfl rfl rfl rfl rfl (Nat.le_of_ble_eq_true rfl) ⟨Nat.le_of_ble_eq_true rfl, Nat.le_of_ble_eq_true rfl⟩ ⟨Nat.le_refl _, Nat.le_refl _⟩ ?_
  refine g_ishl cx dX3_bitsOfA_5 ?_
  refine g_iconst (v := 1) cx dX3_bitsOfA_6 (by decide) ?_
  refine g_isub cx dX3_bitsOfA_7 ?_
  exact hret _ _ _ _ dX3_bitsOfA_8 (rfl) ⟨rfl, rfl⟩
def rm_X3_bitsOfB : Room := { frames := 2, cells := 0, slots := 0, locals := 42 }
set_option maxRecDepth 100000 in
set_option maxHeartbeats 4000000 in
theorem c_X3_bitsOfB (V : VT) (ad : Nat → Nat) (R : S2) (n : Nat) (hn : R 5 0 = nI n) (hn6 : n ≤ 6) : CI V yX3_bitsOfB cX3_bitsOfB 1 .int rm_X3_bitsOfB [.ref (ad 0)] (wRing V ad R) (fun r_ w_ => r_ = ((1 : Int32) <<< (R 5 0 &&& 31)) - ((1 : Int32) <<< (nI (sB R n) &&& 31)) ∧ w_ = wRing V ad R) := by
  refine CI_intro (by decide) (Nat.le_of_ble_eq_true rfl) (fun K cx hret => ?_)
  show G V K 1 0 0 (wRing V ad R) 0 [(0, .ref (ad 0))] []
  refine g_iconst (v := 1) cx dX3_bitsOfB_0 (by decide) ?_
  refine g_aload_n (v := ad 0) cx dX3_bitsOfB_1 rfl ?_
  refine g_get (v := .int (R 5 0)) cx fk_X3_34 dX3_bitsOfB_2 0 rfl rfl ?_
  refine g_ishl cx dX3_bitsOfB_5 ?_
  refine g_iconst (v := 1) cx dX3_bitsOfB_6 (by decide) ?_
  refine g_aload_n (v := ad 0) cx dX3_bitsOfB_7 rfl ?_
  refine g_calli (r0 := nI (sB R n)) (ws' := wRing V ad R) (As := []) (rest := [.int 1, .int ((1 : Int32) <<< ((R 5 0) &&& 31))]) cx (c_X3_startOfB V ad R n hn (by omega)) ml_X3_113 dX3_bitsOfB_8 [0, 1, 2, 3, 4, 5] rfl rfl rfl rfl 0 3 rfl rfl rfl rfl rfl (Nat.le_of_ble_eq_true rfl) ⟨Nat.le_of_ble_eq_true rfl, Nat.le_of_ble_eq_true rfl⟩ ⟨Nat.le_refl _, Nat.le_refl _⟩ ?_
  refine g_ishl cx dX3_bitsOfB_11 ?_
  refine g_isub cx dX3_bitsOfB_12 ?_
  exact hret _ _ _ _ dX3_bitsOfB_13 (rfl) ⟨rfl, rfl⟩
def rm_X3_bitsOfTurning : Room := { frames := 3, cells := 0, slots := 0, locals := 64 }
set_option maxRecDepth 100000 in
set_option maxHeartbeats 4000000 in
theorem c_X3_bitsOfTurning (V : VT) (ad : Nat → Nat) (R : S2) (n : Nat) (hn : R 5 0 = nI n) (hn6 : n ≤ 6) (m : Nat) (hm : rLinks R = nI m) (hm7 : m ≤ 7) : CI V yX3_bitsOfTurning cX3_bitsOfTurning 1 .int rm_X3_bitsOfTurning [.ref (ad 0)] (wRing V ad R) (fun r_ w_ => r_ = rTurn R n m ∧ w_ = wRing V ad R) := by
  refine CI_intro (by decide) (Nat.le_of_ble_eq_true rfl) (fun K cx hret => ?_)
  show G V K 1 0 0 (wRing V ad R) 0 [(0, .ref (ad 0))] []
  refine g_aload_n (v := ad 0) cx dX3_bitsOfTurning_0 rfl ?_
  refine g_calli (r0 := bI (¬ R 5 4 = 0 ∧ rCuts R m = 0)) (ws' := wRing V ad R) (As := []) (rest := []) cx (c_X3_isWhole V ad R m hm (by omega)) ml_X3_116 dX3_bitsOfTurning_1 [0, 1, 2, 3, 4, 5] rfl rfl rfl rfl 0 3 rfl rfl rfl rfl rfl (Nat.le_of_ble_eq_true rfl) ⟨Nat.le_of_ble_eq_true rfl, Nat.le_of_ble_eq_true rfl⟩ ⟨Nat.le_refl _, Nat.le_refl _⟩ ?_
  refine g_if_eq_b cx 11 dX3_bitsOfTurning_4 (by decide) (fun hw1 => ?_) (fun hw1 => ?_)
  · skip
    refine g_aload_n (v := ad 0) cx dX3_bitsOfTurning_11 rfl ?_
    refine g_calli (r0 := ((1 : Int32) <<< (nI (eA R n) &&& 31)) - 1) (ws' := wRing V ad R) (As := []) (rest := []) cx (c_X3_bitsOfA V ad R n hn (by omega)) ml_X3_119 dX3_bitsOfTurning_12 [0, 1, 2, 3, 4, 5] rfl rfl rfl rfl 0 3 rfl rfl rfl rfl rfl (Nat.le_of_ble_eq_true rfl) ⟨Nat.le_of_ble_eq_true rfl, Nat.le_of_ble_eq_true rfl⟩ ⟨Nat.le_refl _, Nat.le_refl _⟩ ?_
    refine g_aload_n (v := ad 0) cx dX3_bitsOfTurning_15 rfl ?_
    refine g_calli (r0 := ((1 : Int32) <<< (R 5 0 &&& 31)) - ((1 : Int32) <<< (nI (sB R n) &&& 31))) (ws' := wRing V ad R) (As := []) (rest := [.int (((1 : Int32) <<< (nI (eA R n) &&& 31)) - 1)]) cx (c_X3_bitsOfB V ad R n hn (by omega)) ml_X3_122 dX3_bitsOfTurning_16 [0, 1, 2, 3, 4, 5] rfl rfl rfl rfl 0 3 rfl rfl rfl rfl rfl (Nat.le_of_ble_eq_true rfl) ⟨Nat.le_of_ble_eq_true rfl, Nat.le_of_ble_eq_true rfl⟩ ⟨Nat.le_refl _, Nat.le_refl _⟩ ?_
    refine g_ior cx dX3_bitsOfTurning_19 ?_
    exact hret _ _ _ _ dX3_bitsOfTurning_20 (rfl) (⟨by rw [rTurn, if_neg hw1], rfl⟩)
  · skip
    refine g_iconst (v := 0) cx dX3_bitsOfTurning_7 (by decide) ?_
    refine g_goto cx 20 dX3_bitsOfTurning_8 (by decide) ?_
    exact hret _ _ _ _ dX3_bitsOfTurning_20 (rfl) (⟨by rw [rTurn, if_pos hw1], rfl⟩)
def rm_X3_offOf : Room := { frames := 1, cells := 0, slots := 0, locals := 22 }
set_option maxRecDepth 100000 in
set_option maxHeartbeats 4000000 in
theorem c_X3_offOf (V : VT) (ad : Nat → Nat) (R : S2) (x : Int32) (d : Nat) (hx : x = nI d) (hd : d < 6) : CI V yX3_offOf cX3_offOf 2 .int rm_X3_offOf [.ref (ad 0), .int x] (wRing V ad R) (fun r_ w_ => r_ = rOff R d ∧ w_ = wRing V ad R) := by
  refine CI_intro (by decide) (Nat.le_of_ble_eq_true rfl) (fun K cx hret => ?_)
  show G V K 2 0 0 (wRing V ad R) 0 [(0, .ref (ad 0)), (1, .int x)] []
  refine g_aload_n (v := ad 0) cx dX3_offOf_0 rfl ?_
  refine g_iload_n (v := x) cx dX3_offOf_1 rfl ?_
  refine g_bipush (v := 7) cx dX3_offOf_2 (by decide) ?_
  refine g_calli (r0 := R 0 (d * 9 + 7)) (ws' := wRing V ad R) (As := [.int x, .int 7]) (rest := []) cx (c_X3_ofDrive V ad R x 7 (d * 9 + 7) (rf_add (rf_mul hx rfl) (nl 7)) (by omega)) ml_X3_96 dX3_offOf_4 [0, 1, 2, 3, 4, 5] rfl rfl rfl rfl 0 3 rfl rfl rfl rfl rfl (Nat.le_of_ble_eq_true rfl) ⟨Nat.le_of_ble_eq_true rfl, Nat.le_of_ble_eq_true rfl⟩ ⟨Nat.le_refl _, Nat.le_refl _⟩ ?_
  refine g_aload_n (v := ad 0) cx dX3_offOf_7 rfl ?_
  refine g_iload_n (v := x) cx dX3_offOf_8 rfl ?_
  refine g_bipush (v := 8) cx dX3_offOf_9 (by decide) ?_
  refine g_calli (r0 := R 0 (d * 9 + 8)) (ws' := wRing V ad R) (As := [.int x, .int 8]) (rest := [.int (R 0 (d * 9 + 7))]) cx (c_X3_ofDrive V ad R x 8 (d * 9 + 8) (rf_add (rf_mul hx rfl) (nl 8)) (by omega)) ml_X3_96 dX3_offOf_11 [0, 1, 2, 3, 4, 5] rfl rfl rfl rfl 0 3 rfl rfl rfl rfl rfl (Nat.le_of_ble_eq_true rfl) ⟨Nat.le_of_ble_eq_true rfl, Nat.le_of_ble_eq_true rfl⟩ ⟨Nat.le_refl _, Nat.le_refl _⟩ ?_
  refine g_isub cx dX3_offOf_14 ?_
  exact hret _ _ _ _ dX3_offOf_15 (rfl) ⟨rfl, rfl⟩
def rm_X3_spread : Room := { frames := 2, cells := 0, slots := 0, locals := 43 }
set_option maxRecDepth 100000 in
set_option maxHeartbeats 4000000 in
theorem c_X3_spread (V : VT) (ad : Nat → Nat) (R : S2) (n : Nat) (hn : R 5 0 = nI n) (hn6 : n ≤ 6) (hn1 : 1 ≤ n) : CI V yX3_spread cX3_spread 4 .int rm_X3_spread [.ref (ad 0)] (wRing V ad R) (fun r_ w_ => r_ = rMax R (n - 1) - rMin R (n - 1) ∧ w_ = wRing V ad R) := by
  refine CI_intro (by decide) (Nat.le_of_ble_eq_true rfl) (fun K cx hret => ?_)
  show G V K 4 0 0 (wRing V ad R) 0 [(0, .ref (ad 0))] []
  refine g_aload_n (v := ad 0) cx dX3_spread_0 rfl ?_
  refine g_iconst (v := 0) cx dX3_spread_1 (by decide) ?_
  refine g_calli (r0 := rOff R 0) (ws' := wRing V ad R) (As := [.int 0]) (rest := []) cx (c_X3_offOf V ad R 0 0 (nl 0) (by omega)) ml_X3_128 dX3_spread_2 [0, 1, 2, 3, 4, 5] rfl rfl rfl rfl 0 3 rfl rfl rfl rfl rfl (Nat.le_of_ble_eq_true rfl) ⟨Nat.le_of_ble_eq_true rfl, Nat.le_of_ble_eq_true rfl⟩ ⟨Nat.le_refl _, Nat.le_refl _⟩ ?_
  refine g_istore_n (lv' := [(0, .ref (ad 0)), (1, .int (rOff R 0))]) cx dX3_spread_5 (by decide) rfl ?_
  refine g_iload_n (v := rOff R 0) cx dX3_spread_6 rfl ?_
  refine g_istore_n (lv' := [(0, .ref (ad 0)), (1, .int (rOff R 0)), (2, .int (rOff R 0))]) cx dX3_spread_7 (by decide) rfl ?_
  refine g_iconst (v := 1) cx dX3_spread_8 (by decide) ?_
  refine g_istore_n (lv' := [(0, .ref (ad 0)), (1, .int (rOff R 0)), (2, .int (rOff R 0)), (3, .int 1)]) cx dX3_spread_9 (by decide) rfl ?_
  refine rf_dn (P := fun i1 => G V K 4 0 0 (wRing V ad R) 10 [(0, .ref (ad 0)), (1, .int (rMin R i1)), (2, .int (rMax R i1)), (3, .int (nI (1 + i1)))] []) (n - 1) (fun i1 hi1 ihi1 => ?_) ?_
  · skip
    refine g_iload_n (v := nI (1 + i1)) cx dX3_spread_10 rfl ?_
    refine g_aload_n (v := ad 0) cx dX3_spread_11 rfl ?_
    refine g_get (v := .int (R 5 0)) cx fk_X3_34 dX3_spread_12 0 rfl rfl ?_
    refine g_icmp_ge cx 44 dX3_spread_15 (by decide) (fun hw1 => absurd hw1 (rf_geMN rfl hn (by omega) (by omega) (by omega))) (fun hw1 => ?_)
    refine g_iload_n (v := rMin R i1) cx dX3_spread_18 rfl ?_
    refine g_aload_n (v := ad 0) cx dX3_spread_19 rfl ?_
    refine g_iload_n (v := nI (1 + i1)) cx dX3_spread_20 rfl ?_
    refine g_calli (r0 := rOff R (1 + i1)) (ws' := wRing V ad R) (As := [.int (nI (1 + i1))]) (rest := [.int (rMin R i1)]) cx (c_X3_offOf V ad R (nI (1 + i1)) (1 + i1) rfl (by omega)) ml_X3_128 dX3_spread_21 [0, 1, 2, 3, 4, 5] rfl rfl rfl rfl 0 3 rfl rfl rfl rfl rfl (Nat.le_of_ble_eq_true rfl) ⟨Nat.le_of_ble_eq_true rfl, Nat.le_of_ble_eq_true rfl⟩ ⟨Nat.le_refl _, Nat.le_refl _⟩ ?_
    refine g_mmin cx ml_X3_132 dX3_spread_24 (Nat.le_of_ble_eq_true rfl) (Nat.le_of_ble_eq_true rfl) (Nat.zero_le _) (Nat.zero_le _) ?_
    refine g_istore_n (lv' := [(0, .ref (ad 0)), (1, .int (if (rOff R (1 + i1)) < (rMin R i1) then rOff R (1 + i1) else rMin R i1)), (2, .int (rMax R i1)), (3, .int (nI (1 + i1)))]) cx dX3_spread_27 (by decide) rfl ?_
    refine g_iload_n (v := rMax R i1) cx dX3_spread_28 rfl ?_
    refine g_aload_n (v := ad 0) cx dX3_spread_29 rfl ?_
    refine g_iload_n (v := nI (1 + i1)) cx dX3_spread_30 rfl ?_
    refine g_calli (r0 := rOff R (1 + i1)) (ws' := wRing V ad R) (As := [.int (nI (1 + i1))]) (rest := [.int (rMax R i1)]) cx (c_X3_offOf V ad R (nI (1 + i1)) (1 + i1) rfl (by omega)) ml_X3_128 dX3_spread_31 [0, 1, 2, 3, 4, 5] rfl rfl rfl rfl 0 3 rfl rfl rfl rfl rfl (Nat.le_of_ble_eq_true rfl) ⟨Nat.le_of_ble_eq_true rfl, Nat.le_of_ble_eq_true rfl⟩ ⟨Nat.le_refl _, Nat.le_refl _⟩ ?_
    refine g_mmax cx ml_X3_137 dX3_spread_34 (Nat.le_of_ble_eq_true rfl) (Nat.le_of_ble_eq_true rfl) (Nat.zero_le _) (Nat.zero_le _) ?_
    refine g_istore_n (lv' := [(0, .ref (ad 0)), (1, .int (if (rOff R (1 + i1)) < (rMin R i1) then rOff R (1 + i1) else rMin R i1)), (2, .int (if (rMax R i1) < (rOff R (1 + i1)) then rOff R (1 + i1) else rMax R i1)), (3, .int (nI (1 + i1)))]) cx dX3_spread_37 (by decide) rfl ?_
    refine g_iinc (x := nI (1 + i1)) (v := nI ((1 + i1) + 1)) (lv' := [(0, .ref (ad 0)), (1, .int (if (rOff R (1 + i1)) < (rMin R i1) then rOff R (1 + i1) else rMin R i1)), (2, .int (if (rMax R i1) < (rOff R (1 + i1)) then rOff R (1 + i1) else rMax R i1)), (3, .int (nI ((1 + i1) + 1)))]) cx dX3_spread_38 rfl (by decide) (nI_add _ _) rfl ?_
    refine g_goto cx 10 dX3_spread_41 (by decide) ?_
    exact ihi1
  · skip
    refine g_iload_n (v := nI (1 + (n - 1))) cx dX3_spread_10 rfl ?_
    refine g_aload_n (v := ad 0) cx dX3_spread_11 rfl ?_
    refine g_get (v := .int (R 5 0)) cx fk_X3_34 dX3_spread_12 0 rfl rfl ?_
    refine g_icmp_ge cx 44 dX3_spread_15 (by decide) (fun hw2 => ?_) (fun hw2 => absurd (rf_geMP rfl hn (by omega) (by omega) (by omega)) hw2)
    refine g_iload_n (v := rMax R (n - 1)) cx dX3_spread_44 rfl ?_
    refine g_iload_n (v := rMin R (n - 1)) cx dX3_spread_45 rfl ?_
    refine g_isub cx dX3_spread_46 ?_
    exact hret _ _ _ _ dX3_spread_47 (rfl) ⟨rfl, rfl⟩
def rm_X3_lengths : Room := { frames := 1, cells := 0, slots := 0, locals := 22 }
set_option maxRecDepth 100000 in
set_option maxHeartbeats 4000000 in
theorem c_X3_lengths (V : VT) (ad : Nat → Nat) (R : S2) (x y : Int32) (a m : Nat) (hx : x = nI a) (hy : y = nI (a + m) - 1) (hm : a + m ≤ 7) : CI V yX3_lengths cX3_lengths 5 .int rm_X3_lengths [.ref (ad 0), .int x, .int y] (wRing V ad R) (fun r_ w_ => r_ = rLen R a m ∧ w_ = wRing V ad R) := by
  refine CI_intro (by decide) (Nat.le_of_ble_eq_true rfl) (fun K cx hret => ?_)
  show G V K 5 0 0 (wRing V ad R) 0 [(0, .ref (ad 0)), (1, .int x), (2, .int y)] []
  subst hx
  refine g_iconst (v := 0) cx dX3_lengths_0 (by decide) ?_
  refine g_istore_n (lv' := [(0, .ref (ad 0)), (1, .int (nI a)), (2, .int y), (3, .int 0)]) cx dX3_lengths_1 (by decide) rfl ?_
  refine g_iload_n (v := nI a) cx dX3_lengths_2 rfl ?_
  refine g_istore (lv' := [(0, .ref (ad 0)), (1, .int (nI a)), (2, .int y), (3, .int 0), (4, .int (nI a))]) cx dX3_lengths_3 (by decide) rfl ?_
  refine rf_dn (P := fun i1 => G V K 5 0 0 (wRing V ad R) 5 [(0, .ref (ad 0)), (1, .int (nI a)), (2, .int y), (3, .int (rLen R a i1)), (4, .int (nI (a + i1)))] []) (m) (fun i1 hi1 ihi1 => ?_) ?_
  · skip
    refine g_iload (v := nI (a + i1)) cx dX3_lengths_5 rfl ?_
    refine g_iload_n (v := y) cx dX3_lengths_7 rfl ?_
    refine g_icmp_gt cx 27 dX3_lengths_8 (by decide) (fun hw1 => absurd hw1 (by rw [hy]; exact rf_predN (by omega) (by omega) (by omega))) (fun hw1 => ?_)
    refine g_iload_n (v := rLen R a i1) cx dX3_lengths_11 rfl ?_
    refine g_aload_n (v := ad 0) cx dX3_lengths_12 rfl ?_
    refine g_iload (v := nI (a + i1)) cx dX3_lengths_13 rfl ?_
    refine g_iconst (v := 0) cx dX3_lengths_15 (by decide) ?_
    refine g_calli (r0 := R 1 ((a + i1) * 2 + 0)) (ws' := wRing V ad R) (As := [.int (nI (a + i1)), .int 0]) (rest := [.int (rLen R a i1)]) cx (c_X3_ofLink V ad R (nI (a + i1)) 0 ((a + i1) * 2 + 0) (rf_add (rf_mul rfl rfl) (nl 0)) (by omega)) ml_X3_100 dX3_lengths_16 [0, 1, 2, 3, 4, 5] rfl rfl rfl rfl 0 3 rfl rfl rfl rfl rfl (Nat.le_of_ble_eq_true rfl) ⟨Nat.le_of_ble_eq_true rfl, Nat.le_of_ble_eq_true rfl⟩ ⟨Nat.le_refl _, Nat.le_refl _⟩ ?_
    refine g_iadd cx dX3_lengths_19 ?_
    refine g_istore_n (lv' := [(0, .ref (ad 0)), (1, .int (nI a)), (2, .int y), (3, .int ((rLen R a i1) + (R 1 ((a + i1) * 2 + 0)))), (4, .int (nI (a + i1)))]) cx dX3_lengths_20 (by decide) rfl ?_
    refine g_iinc (x := nI (a + i1)) (v := nI ((a + i1) + 1)) (lv' := [(0, .ref (ad 0)), (1, .int (nI a)), (2, .int y), (3, .int ((rLen R a i1) + (R 1 ((a + i1) * 2 + 0)))), (4, .int (nI ((a + i1) + 1)))]) cx dX3_lengths_21 rfl (by decide) (nI_add _ _) rfl ?_
    refine g_goto cx 5 dX3_lengths_24 (by decide) ?_
    exact ihi1
  · skip
    refine g_iload (v := nI (a + m)) cx dX3_lengths_5 rfl ?_
    refine g_iload_n (v := y) cx dX3_lengths_7 rfl ?_
    refine g_icmp_gt cx 27 dX3_lengths_8 (by decide) (fun hw2 => ?_) (fun hw2 => absurd (by rw [hy]; exact rf_predP (by omega) (by omega) (by omega)) hw2)
    refine g_iload_n (v := rLen R a m) cx dX3_lengths_27 rfl ?_
    exact hret _ _ _ _ dX3_lengths_28 (rfl) ⟨rfl, rfl⟩
def rm_X3_timeThereAndBack : Room := { frames := 0, cells := 0, slots := 0, locals := 0 }
set_option maxRecDepth 100000 in
set_option maxHeartbeats 4000000 in
theorem c_X3_timeThereAndBack (V : VT) (x y : Int32) : CI V yX3_timeThereAndBack cX3_timeThereAndBack 2 .int rm_X3_timeThereAndBack [.int x, .int y] (([] : va_W)) (fun r_ w_ => r_ = rTTB x y ∧ w_ = ([] : va_W)) := by
  refine CI_intro (by decide) (Nat.le_of_ble_eq_true rfl) (fun K cx hret => ?_)
  show G V K 2 0 0 (([] : va_W)) 0 [(0, .int x), (1, .int y)] []
  refine g_iload_n (v := y) cx dX3_timeThereAndBack_0 rfl ?_
  refine g_if_ne cx 9 dX3_timeThereAndBack_1 (by decide) (fun hw1 => ?_) (fun hw1 => ?_)
  · skip
    refine g_iconst (v := 2) cx dX3_timeThereAndBack_9 (by decide) ?_
    refine g_iload_n (v := x) cx dX3_timeThereAndBack_10 rfl ?_
    refine g_imul cx dX3_timeThereAndBack_11 ?_
    refine g_iconst (v := 2) cx dX3_timeThereAndBack_12 (by decide) ?_
    refine g_iload_n (v := y) cx dX3_timeThereAndBack_13 rfl ?_
    refine g_imul cx dX3_timeThereAndBack_14 ?_
    refine g_iadd cx dX3_timeThereAndBack_15 ?_
    refine g_iconst (v := 1) cx dX3_timeThereAndBack_16 (by decide) ?_
    refine g_isub cx dX3_timeThereAndBack_17 ?_
    exact hret _ _ _ _ dX3_timeThereAndBack_18 (rfl) (⟨by rw [rTTB, if_neg hw1], rfl⟩)
  · skip
    refine g_bipush (v := (-9)) cx dX3_timeThereAndBack_4 (by decide) ?_
    refine g_goto cx 18 dX3_timeThereAndBack_6 (by decide) ?_
    exact hret _ _ _ _ dX3_timeThereAndBack_18 (rfl) (⟨by rw [rTTB, if_pos hw1], rfl⟩)
def rm_X3_takeTimesAround : Room := { frames := 2, cells := 0, slots := 0, locals := 46 }
set_option maxRecDepth 100000 in
set_option maxHeartbeats 4000000 in
theorem c_X3_takeTimesAround (V : VT) (ad : Nat → Nat) (R : S2) (n : Nat) (hn : R 5 0 = nI n) (hn6 : n ≤ 6) : CV V yX3_takeTimesAround cX3_takeTimesAround 1 rm_X3_takeTimesAround [.ref (ad 0)] (wRing V ad R) (fun w_ => w_ = wRing V ad (u1 R 4 (rFill (R 4) (rLen R 0 (n + 1) + R 5 0) 0 2))) := by
  refine CV_intro (by decide) (Nat.le_of_ble_eq_true rfl) (fun K cx hci hret => ?_)
  show G V K 1 0 0 (wRing V ad R) 0 [(0, .ref (ad 0))] []
  refine g_aload_n (v := ad 0) cx dX3_takeTimesAround_0 rfl ?_
  refine g_get (v := .ref (ad 5)) cx fk_X3_24 dX3_takeTimesAround_1 0 rfl rfl ?_
  refine g_aload_n (v := ad 0) cx dX3_takeTimesAround_4 rfl ?_
  refine g_iconst (v := 0) cx dX3_takeTimesAround_5 (by decide) ?_
  refine g_aload_n (v := ad 0) cx dX3_takeTimesAround_6 rfl ?_
  refine g_get (v := .int (R 5 0)) cx fk_X3_34 dX3_takeTimesAround_7 0 rfl rfl ?_
  refine g_calli (r0 := rLen R 0 (n + 1)) (ws' := wRing V ad R) (As := [.int 0, .int (R 5 0)]) (rest := [.ref (ad 5)]) cx (c_X3_lengths V ad R 0 (R 5 0) 0 (n + 1) rfl (by rw [hn, Nat.zero_add, nI_m1]) (by omega)) ml_X3_140 dX3_takeTimesAround_10 [0, 1, 2, 3, 4, 5] rfl rfl rfl rfl 0 3 rfl rfl rfl rfl rfl (Nat.le_of_ble_eq_true rfl) ⟨Nat.le_of_ble_eq_true rfl, Nat.le_of_ble_eq_true rfl⟩ ⟨Nat.le_refl _, Nat.le_refl _⟩ ?_
  refine g_aload_n (v := ad 0) cx dX3_takeTimesAround_13 rfl ?_
  refine g_get (v := .int (R 5 0)) cx fk_X3_34 dX3_takeTimesAround_14 0 rfl rfl ?_
  refine g_iadd cx dX3_takeTimesAround_17 ?_
  refine g_callsv (ws' := wRing V ad (u1 R 4 (rFill (R 4) ((rLen R 0 (n + 1)) + (R 5 0)) 0 2))) (As := [.ref (ad 5), .int ((rLen R 0 (n + 1)) + (R 5 0))]) (rest := []) cx (c_J7_fill_53178 V (ad 5) 2 (R 4) ((rLen R 0 (n + 1)) + (R 5 0)) (by decide)) ml_X3_60 dX3_takeTimesAround_18 [5] rfl rfl rfl rfl rfl rfl (Nat.le_of_ble_eq_true rfl) ⟨Nat.le_of_ble_eq_true rfl, Nat.le_of_ble_eq_true rfl⟩ ⟨Nat.le_refl _, Nat.le_refl _⟩ ?_
  exact hret _ _ _ dX3_takeTimesAround_21 (rfl)
def rm_X3_takeTimesOfTurning : Room := { frames := 2, cells := 0, slots := 0, locals := 46 }
set_option maxRecDepth 100000 in
set_option maxHeartbeats 4000000 in
theorem c_X3_takeTimesOfTurning (V : VT) (ad : Nat → Nat) (R : S2) (n : Nat) (hn : R 5 0 = nI n) (hn6 : n ≤ 6) : CV V yX3_takeTimesOfTurning cX3_takeTimesOfTurning 3 rm_X3_takeTimesOfTurning [.ref (ad 0)] (wRing V ad R) (fun w_ => w_ = wRing V ad (rTimesT R n)) := by
  refine CV_intro (by decide) (Nat.le_of_ble_eq_true rfl) (fun K cx hci hret => ?_)
  show G V K 3 0 0 (wRing V ad R) 0 [(0, .ref (ad 0))] []
  have hea : eA R n ≤ n := ff_le (rCut R) n
  have hsb : sB R n ≤ n := by unfold sB; split; exact Nat.le_refl n; split <;> omega
  refine g_aload_n (v := ad 0) cx dX3_takeTimesOfTurning_0 rfl ?_
  refine g_calli (r0 := nI (eA R n)) (ws' := wRing V ad R) (As := []) (rest := []) cx (c_X3_endOfA V ad R n hn (by omega)) ml_X3_110 dX3_takeTimesOfTurning_1 [0, 1, 2, 3, 4, 5] rfl rfl rfl rfl 0 3 rfl rfl rfl rfl rfl (Nat.le_of_ble_eq_true rfl) ⟨Nat.le_of_ble_eq_true rfl, Nat.le_of_ble_eq_true rfl⟩ ⟨Nat.le_refl _, Nat.le_refl _⟩ ?_
  refine g_istore_n (lv' := [(0, .ref (ad 0)), (1, .int (nI (eA R n)))]) cx dX3_takeTimesOfTurning_4 (by decide) rfl ?_
  refine g_aload_n (v := ad 0) cx dX3_takeTimesOfTurning_5 rfl ?_
  refine g_calli (r0 := nI (sB R n)) (ws' := wRing V ad R) (As := []) (rest := []) cx (c_X3_startOfB V ad R n hn (by omega)) ml_X3_113 dX3_takeTimesOfTurning_6 [0, 1, 2, 3, 4, 5] rfl rfl rfl rfl 0 3 rfl rfl rfl rfl rfl (Nat.le_of_ble_eq_true rfl) ⟨Nat.le_of_ble_eq_true rfl, Nat.le_of_ble_eq_true rfl⟩ ⟨Nat.le_refl _, Nat.le_refl _⟩ ?_
  refine g_istore_n (lv' := [(0, .ref (ad 0)), (1, .int (nI (eA R n))), (2, .int (nI (sB R n)))]) cx dX3_takeTimesOfTurning_9 (by decide) rfl ?_
  refine g_aload_n (v := ad 0) cx dX3_takeTimesOfTurning_10 rfl ?_
  refine g_get (v := .ref (ad 5)) cx fk_X3_24 dX3_takeTimesOfTurning_11 0 rfl rfl ?_
  refine g_iconst (v := 0) cx dX3_takeTimesOfTurning_14 (by decide) ?_
  refine g_aload_n (v := ad 0) cx dX3_takeTimesOfTurning_15 rfl ?_
  refine g_iconst (v := 0) cx dX3_takeTimesOfTurning_16 (by decide) ?_
  refine g_iload_n (v := nI (eA R n)) cx dX3_takeTimesOfTurning_17 rfl ?_
  refine g_iconst (v := 1) cx dX3_takeTimesOfTurning_18 (by decide) ?_
  refine g_isub cx dX3_takeTimesOfTurning_19 ?_
  refine g_calli (r0 := rLen R 0 (eA R n)) (ws' := wRing V ad R) (As := [.int 0, .int ((nI (eA R n)) - 1)]) (rest := [.int 0, .ref (ad 5)]) cx (c_X3_lengths V ad R 0 ((nI (eA R n)) - 1) 0 (eA R n) rfl (by rw [Nat.zero_add]) (by omega)) ml_X3_140 dX3_takeTimesOfTurning_20 [0, 1, 2, 3, 4, 5] rfl rfl rfl rfl 0 3 rfl rfl rfl rfl rfl (Nat.le_of_ble_eq_true rfl) ⟨Nat.le_of_ble_eq_true rfl, Nat.le_of_ble_eq_true rfl⟩ ⟨Nat.le_refl _, Nat.le_refl _⟩ ?_
  refine g_iload_n (v := nI (eA R n)) cx dX3_takeTimesOfTurning_23 rfl ?_
  refine g_callsi (r0 := rTTB (rLen R 0 (eA R n)) (nI (eA R n))) (ws' := wRing V ad R) (As := [.int (rLen R 0 (eA R n)), .int (nI (eA R n))]) (rest := [.int 0, .ref (ad 5)]) cx (c_X3_timeThereAndBack V (rLen R 0 (eA R n)) (nI (eA R n))) ml_X3_143 dX3_takeTimesOfTurning_24 [] rfl rfl rfl rfl rfl rfl (Nat.le_of_ble_eq_true rfl) ⟨Nat.le_of_ble_eq_true rfl, Nat.le_of_ble_eq_true rfl⟩ ⟨Nat.le_refl _, Nat.le_refl _⟩ ?_
  refine g_iast (ws' := wRing V ad (u2 R 4 0 (rTTB (rLen R 0 (eA R n)) (nI (eA R n))))) cx dX3_takeTimesOfTurning_27 5 0 rfl (rfl) (by decide) (by first | decide | omega) rfl ?_
  refine g_aload_n (v := ad 0) cx dX3_takeTimesOfTurning_28 rfl ?_
  refine g_get (v := .ref (ad 5)) cx fk_X3_24 dX3_takeTimesOfTurning_29 0 rfl rfl ?_
  refine g_iconst (v := 1) cx dX3_takeTimesOfTurning_32 (by decide) ?_
  refine g_aload_n (v := ad 0) cx dX3_takeTimesOfTurning_33 rfl ?_
  refine g_iload_n (v := nI (sB R n)) cx dX3_takeTimesOfTurning_34 rfl ?_
  refine g_iconst (v := 1) cx dX3_takeTimesOfTurning_35 (by decide) ?_
  refine g_iadd cx dX3_takeTimesOfTurning_36 ?_
  refine g_aload_n (v := ad 0) cx dX3_takeTimesOfTurning_37 rfl ?_
  refine g_get (v := .int (R 5 0)) cx fk_X3_34 dX3_takeTimesOfTurning_38 0 rfl rfl ?_
  refine g_calli (r0 := rLen R (sB R n + 1) (n - sB R n)) (ws' := wRing V ad (u2 R 4 0 (rTTB (rLen R 0 (eA R n)) (nI (eA R n))))) (As := [.int ((nI (sB R n)) + 1), .int (R 5 0)]) (rest := [.int 1, .ref (ad 5)]) cx (c_X3_lengths V ad (u2 R 4 0 (rTTB (rLen R 0 (eA R n)) (nI (eA R n)))) ((nI (sB R n)) + 1) (R 5 0) (sB R n + 1) (n - sB R n) (rf_add rfl rfl) (by rw [show sB R n + 1 + (n - sB R n) = n + 1 by omega, nI_m1]; exact hn) (by omega)) ml_X3_140 dX3_takeTimesOfTurning_41 [0, 1, 2, 3, 4, 5] rfl rfl rfl rfl 0 3 rfl rfl rfl rfl rfl (Nat.le_of_ble_eq_true rfl) ⟨Nat.le_of_ble_eq_true rfl, Nat.le_of_ble_eq_true rfl⟩ ⟨Nat.le_refl _, Nat.le_refl _⟩ ?_
  refine g_aload_n (v := ad 0) cx dX3_takeTimesOfTurning_44 rfl ?_
  refine g_get (v := .int (R 5 0)) cx fk_X3_34 dX3_takeTimesOfTurning_45 0 rfl rfl ?_
  refine g_iload_n (v := nI (sB R n)) cx dX3_takeTimesOfTurning_48 rfl ?_
  refine g_isub cx dX3_takeTimesOfTurning_49 ?_
  refine g_callsi (r0 := rTTB (rLen R (sB R n + 1) (n - sB R n)) ((R 5 0) - (nI (sB R n)))) (ws' := wRing V ad (u2 R 4 0 (rTTB (rLen R 0 (eA R n)) (nI (eA R n))))) (As := [.int (rLen R (sB R n + 1) (n - sB R n)), .int ((R 5 0) - (nI (sB R n)))]) (rest := [.int 1, .ref (ad 5)]) cx (c_X3_timeThereAndBack V (rLen R (sB R n + 1) (n - sB R n)) ((R 5 0) - (nI (sB R n)))) ml_X3_143 dX3_takeTimesOfTurning_50 [] rfl rfl rfl rfl rfl rfl (Nat.le_of_ble_eq_true rfl) ⟨Nat.le_of_ble_eq_true rfl, Nat.le_of_ble_eq_true rfl⟩ ⟨Nat.le_refl _, Nat.le_refl _⟩ ?_
  refine g_iast (ws' := wRing V ad (u2 (u2 R 4 0 (rTTB (rLen R 0 (eA R n)) (nI (eA R n)))) 4 1 (rTTB (rLen R (sB R n + 1) (n - sB R n)) ((R 5 0) - (nI (sB R n)))))) cx dX3_takeTimesOfTurning_53 5 1 rfl (rfl) (by decide) (by first | decide | omega) rfl ?_
  exact hret _ _ _ dX3_takeTimesOfTurning_54 (rfl)
def rm_X3_look : Room := { frames := 1, cells := 0, slots := 0, locals := 22 }
set_option maxRecDepth 100000 in
set_option maxHeartbeats 4000000 in
theorem c_X3_look (V : VT) (ad : Nat → Nat) (R : S2) (x : Int32) (w o : Nat) (hx : x = nI w) (hw : w < 6) (ho : R 5 1 = nI o) (ho4 : o ≤ 4) : CI V yX3_look cX3_look 2 .int rm_X3_look [.ref (ad 0), .int x] (wRing V ad R) (fun r_ w_ => r_ = rLook R o w ∧ w_ = wRing V ad R) := by
  refine CI_intro (by decide) (Nat.le_of_ble_eq_true rfl) (fun K cx hret => ?_)
  show G V K 2 0 0 (wRing V ad R) 0 [(0, .ref (ad 0)), (1, .int x)] []
  refine g_iload_n (v := x) cx dX3_look_0 rfl ?_
  refine g_iconst (v := 4) cx dX3_look_1 (by decide) ?_
  refine g_icmp_lt cx 14 dX3_look_2 (by decide) (fun hw1 => ?_) (fun hw1 => ?_)
  · have hw1 := rf_ltP hx (nl 4) (by omega) (by omega) hw1
    refine g_iload_n (v := x) cx dX3_look_14 rfl ?_
    refine g_aload_n (v := ad 0) cx dX3_look_15 rfl ?_
    refine g_get (v := .int (R 5 1)) cx fk_X3_54 dX3_look_16 0 rfl rfl ?_
    refine g_icmp_ge cx 31 dX3_look_19 (by decide) (fun hw2 => ?_) (fun hw2 => ?_)
    · have hw2 := rf_geP hx ho (by omega) (by omega) hw2
      refine g_iconst (v := 0) cx dX3_look_31 (by decide) ?_
      exact hret _ _ _ _ dX3_look_32 (rfl) (⟨by rw [rLook]; simp only [hw1, hw2, not_true_eq_false, not_false_eq_true, and_true, true_and, and_false, false_and, or_true, true_or, or_false, false_or, if_true, if_false], rfl⟩)
    · have hw2 := rf_geN hx ho (by omega) (by omega) hw2
      refine g_aload_n (v := ad 0) cx dX3_look_22 rfl ?_
      refine g_iload_n (v := x) cx dX3_look_23 rfl ?_
      refine g_iconst (v := 0) cx dX3_look_24 (by decide) ?_
      refine g_calli (r0 := R 3 (w * 2 + 0)) (ws' := wRing V ad R) (As := [.int x, .int 0]) (rest := []) cx (c_X3_ofResult V ad R x 0 (w * 2 + 0) (rf_add (rf_mul hx rfl) (nl 0)) (by omega)) ml_X3_146 dX3_look_25 [0, 1, 2, 3, 4, 5] rfl rfl rfl rfl 0 3 rfl rfl rfl rfl rfl (Nat.le_of_ble_eq_true rfl) ⟨Nat.le_of_ble_eq_true rfl, Nat.le_of_ble_eq_true rfl⟩ ⟨Nat.le_refl _, Nat.le_refl _⟩ ?_
      refine g_goto cx 32 dX3_look_28 (by decide) ?_
      exact hret _ _ _ _ dX3_look_32 (rfl) (⟨by rw [rLook]; simp only [hw1, hw2, not_true_eq_false, not_false_eq_true, and_true, true_and, and_false, false_and, or_true, true_or, or_false, false_or, if_true, if_false], rfl⟩)
  · have hw1 := rf_ltN hx (nl 4) (by omega) (by omega) hw1
    refine g_aload_n (v := ad 0) cx dX3_look_5 rfl ?_
    refine g_get (v := .ref (ad 5)) cx fk_X3_24 dX3_look_6 0 rfl rfl ?_
    refine g_iload_n (v := x) cx dX3_look_9 rfl ?_
    refine g_iconst (v := 4) cx dX3_look_10 (by decide) ?_
    refine g_isub cx dX3_look_11 ?_
    refine g_iald cx dX3_look_12 5 (w - 4) rfl (rf_sub hx (nl 4) (by omega)) (by omega) (by first | decide | omega) ?_
    exact hret _ _ _ _ dX3_look_13 (rfl) (⟨by rw [rLook]; simp only [hw1, not_true_eq_false, not_false_eq_true, and_true, true_and, and_false, false_and, or_true, true_or, or_false, false_or, if_true, if_false], rfl⟩)
def rm_X3_learn : Room := { frames := 1, cells := 0, slots := 0, locals := 23 }
set_option maxRecDepth 100000 in
set_option maxHeartbeats 4000000 in
theorem c_X3_learn (V : VT) (ad : Nat → Nat) (R : S2) (b : Int32) (n : Nat) (hn : R 5 0 = nI n) (hn6 : n ≤ 6) : CV V yX3_learn cX3_learn 3 rm_X3_learn [.ref (ad 0), .int b] (wRing V ad R) (fun w_ => w_ = wRing V ad (rLearn R b n)) := by
  refine CV_intro (by decide) (Nat.le_of_ble_eq_true rfl) (fun K cx hci hret => ?_)
  show G V K 3 0 0 (wRing V ad R) 0 [(0, .ref (ad 0)), (1, .int b)] []
  refine g_iconst (v := 0) cx dX3_learn_0 (by decide) ?_
  refine g_istore_n (lv' := [(0, .ref (ad 0)), (1, .int b), (2, .int 0)]) cx dX3_learn_1 (by decide) rfl ?_
  refine rf_dn (P := fun i1 => G V K 3 0 0 (wRing V ad (rLearn R b i1)) 2 [(0, .ref (ad 0)), (1, .int b), (2, .int (nI i1))] []) (n) (fun i1 hi1 ihi1 => ?_) ?_
  · skip
    refine g_iload_n (v := nI i1) cx dX3_learn_2 rfl ?_
    refine g_aload_n (v := ad 0) cx dX3_learn_3 rfl ?_
    refine g_get (v := .int ((rLearn R b i1) 5 0)) cx fk_X3_34 dX3_learn_4 0 rfl rfl ?_
    refine g_icmp_ge cx 39 dX3_learn_7 (by decide) (fun hw1 => absurd hw1 (rf_geMN rfl ((congrFun (rLearn_5 R b _) 0).trans hn) (by omega) (by omega) (by omega))) (fun hw1 => ?_)
    refine g_iload_n (v := b) cx dX3_learn_10 rfl ?_
    refine g_iload_n (v := nI i1) cx dX3_learn_11 rfl ?_
    refine g_ishr cx dX3_learn_12 ?_
    refine g_iconst (v := 1) cx dX3_learn_13 (by decide) ?_
    refine g_iand cx dX3_learn_14 ?_
    refine g_iconst (v := 1) cx dX3_learn_15 (by decide) ?_
    refine g_icmp_ne cx 33 dX3_learn_16 (by decide) (fun hw2 => ?_) (fun hw2 => ?_)
    · skip
      refine g_iinc (x := nI i1) (v := nI (i1 + 1)) (lv' := [(0, .ref (ad 0)), (1, .int b), (2, .int (nI (i1 + 1)))]) cx dX3_learn_33 rfl (by decide) (nI_add _ _) rfl ?_
      refine g_goto cx 2 dX3_learn_36 (by decide) ?_
      rw [rLearn_s, if_neg hw2] at ihi1
      exact ihi1
    · skip
      refine g_aload_n (v := ad 0) cx dX3_learn_19 rfl ?_
      refine g_iload_n (v := nI i1) cx dX3_learn_20 rfl ?_
      refine g_bipush (v := 8) cx dX3_learn_21 (by decide) ?_
      refine g_aload_n (v := ad 0) cx dX3_learn_23 rfl ?_
      refine g_iload_n (v := nI i1) cx dX3_learn_24 rfl ?_
      refine g_bipush (v := 7) cx dX3_learn_25 (by decide) ?_
      refine g_calli (r0 := (rLearn R b i1) 0 (i1 * 9 + 7)) (ws' := wRing V ad (rLearn R b i1)) (As := [.int (nI i1), .int 7]) (rest := [.int 8, .int (nI i1), .ref (ad 0)]) cx (c_X3_ofDrive V ad (rLearn R b i1) (nI i1) 7 (i1 * 9 + 7) (rf_add (rf_mul rfl rfl) (nl 7)) (by omega)) ml_X3_96 dX3_learn_27 [0, 1, 2, 3, 4, 5] rfl rfl rfl rfl 0 3 rfl rfl rfl rfl rfl (Nat.le_of_ble_eq_true rfl) ⟨Nat.le_of_ble_eq_true rfl, Nat.le_of_ble_eq_true rfl⟩ ⟨Nat.le_refl _, Nat.le_refl _⟩ ?_
      refine g_callv (ws' := wRing V ad (u2 (rLearn R b i1) 0 (i1 * 9 + 8) ((rLearn R b i1) 0 (i1 * 9 + 7)))) (As := [.int (nI i1), .int 8, .int ((rLearn R b i1) 0 (i1 * 9 + 7))]) (rest := []) cx (c_X3_putDrive V ad (rLearn R b i1) (nI i1) 8 ((rLearn R b i1) 0 (i1 * 9 + 7)) (i1 * 9 + 8) (rf_add (rf_mul rfl rfl) (nl 8)) (by omega)) ml_X3_125 dX3_learn_30 [0, 1, 2, 3, 4, 5] rfl rfl rfl rfl 0 3 rfl rfl rfl rfl rfl (Nat.le_of_ble_eq_true rfl) ⟨Nat.le_of_ble_eq_true rfl, Nat.le_of_ble_eq_true rfl⟩ ⟨Nat.le_refl _, Nat.le_refl _⟩ ?_
      refine g_iinc (x := nI i1) (v := nI (i1 + 1)) (lv' := [(0, .ref (ad 0)), (1, .int b), (2, .int (nI (i1 + 1)))]) cx dX3_learn_33 rfl (by decide) (nI_add _ _) rfl ?_
      refine g_goto cx 2 dX3_learn_36 (by decide) ?_
      rw [rLearn_s, if_pos hw2] at ihi1
      exact ihi1
  · skip
    refine g_iload_n (v := nI n) cx dX3_learn_2 rfl ?_
    refine g_aload_n (v := ad 0) cx dX3_learn_3 rfl ?_
    refine g_get (v := .int ((rLearn R b n) 5 0)) cx fk_X3_34 dX3_learn_4 0 rfl rfl ?_
    refine g_icmp_ge cx 39 dX3_learn_7 (by decide) (fun hw3 => ?_) (fun hw3 => absurd (rf_geMP rfl ((congrFun (rLearn_5 R b _) 0).trans hn) (by omega) (by omega) (by omega)) hw3)
    exact hret _ _ _ dX3_learn_39 (rfl)
def rm_X3_countMiss : Room := { frames := 1, cells := 0, slots := 0, locals := 23 }
set_option maxRecDepth 100000 in
set_option maxHeartbeats 4000000 in
theorem c_X3_countMiss (V : VT) (ad : Nat → Nat) (R : S2) (x : Int32) (d : Nat) (hx : x = nI d) (hd : d < 6) : CV V yX3_countMiss cX3_countMiss 4 rm_X3_countMiss [.ref (ad 0), .int x] (wRing V ad R) (fun w_ => w_ = wRing V ad (rMiss R d)) := by
  refine CV_intro (by decide) (Nat.le_of_ble_eq_true rfl) (fun K cx hci hret => ?_)
  show G V K 4 0 0 (wRing V ad R) 0 [(0, .ref (ad 0)), (1, .int x)] []
  refine g_aload_n (v := ad 0) cx dX3_countMiss_0 rfl ?_
  refine g_iload_n (v := x) cx dX3_countMiss_1 rfl ?_
  refine g_iconst (v := 5) cx dX3_countMiss_2 (by decide) ?_
  refine g_calli (r0 := R 0 (d * 9 + 5)) (ws' := wRing V ad R) (As := [.int x, .int 5]) (rest := []) cx (c_X3_ofDrive V ad R x 5 (d * 9 + 5) (rf_add (rf_mul hx rfl) (nl 5)) (by omega)) ml_X3_96 dX3_countMiss_3 [0, 1, 2, 3, 4, 5] rfl rfl rfl rfl 0 3 rfl rfl rfl rfl rfl (Nat.le_of_ble_eq_true rfl) ⟨Nat.le_of_ble_eq_true rfl, Nat.le_of_ble_eq_true rfl⟩ ⟨Nat.le_refl _, Nat.le_refl _⟩ ?_
  refine g_iconst (v := 1) cx dX3_countMiss_6 (by decide) ?_
  refine g_iadd cx dX3_countMiss_7 ?_
  refine g_istore_n (lv' := [(0, .ref (ad 0)), (1, .int x), (2, .int ((R 0 (d * 9 + 5)) + 1))]) cx dX3_countMiss_8 (by decide) rfl ?_
  refine g_aload_n (v := ad 0) cx dX3_countMiss_9 rfl ?_
  refine g_iload_n (v := x) cx dX3_countMiss_10 rfl ?_
  refine g_iconst (v := 5) cx dX3_countMiss_11 (by decide) ?_
  refine g_iload_n (v := (R 0 (d * 9 + 5)) + 1) cx dX3_countMiss_12 rfl ?_
  refine g_callv (ws' := wRing V ad (u2 R 0 (d * 9 + 5) ((R 0 (d * 9 + 5)) + 1))) (As := [.int x, .int 5, .int ((R 0 (d * 9 + 5)) + 1)]) (rest := []) cx (c_X3_putDrive V ad R x 5 ((R 0 (d * 9 + 5)) + 1) (d * 9 + 5) (rf_add (rf_mul hx rfl) (nl 5)) (by omega)) ml_X3_125 dX3_countMiss_13 [0, 1, 2, 3, 4, 5] rfl rfl rfl rfl 0 3 rfl rfl rfl rfl rfl (Nat.le_of_ble_eq_true rfl) ⟨Nat.le_of_ble_eq_true rfl, Nat.le_of_ble_eq_true rfl⟩ ⟨Nat.le_refl _, Nat.le_refl _⟩ ?_
  refine g_iload_n (v := (R 0 (d * 9 + 5)) + 1) cx dX3_countMiss_16 rfl ?_
  refine g_aload_n (v := ad 0) cx dX3_countMiss_17 rfl ?_
  refine g_get (v := .int (R 5 2)) cx fk_X3_42 dX3_countMiss_18 0 rfl rfl ?_
  refine g_icmp_lt cx 62 dX3_countMiss_21 (by decide) (fun hw1 => ?_) (fun hw1 => ?_)
  · skip
    exact hret _ _ _ dX3_countMiss_62 (by rw [rMiss]; simp only [rM1, hw1, not_true_eq_false, not_false_eq_true, and_true, true_and, and_false, false_and, or_true, true_or, or_false, false_or, if_true, if_false])
  · skip
    refine g_aload_n (v := ad 0) cx dX3_countMiss_24 rfl ?_
    refine g_iload_n (v := x) cx dX3_countMiss_25 rfl ?_
    refine g_calli (r0 := bI ((u2 R 0 (d * 9 + 5) ((R 0 (d * 9 + 5)) + 1)) 0 (d * 9 + 6) = 1)) (ws' := wRing V ad (u2 R 0 (d * 9 + 5) ((R 0 (d * 9 + 5)) + 1))) (As := [.int x]) (rest := []) cx (c_X3_isSafe V ad (u2 R 0 (d * 9 + 5) ((R 0 (d * 9 + 5)) + 1)) x (d * 9 + 6) (rf_add (rf_mul hx rfl) rfl) (by omega)) ml_X3_149 dX3_countMiss_26 [0, 1, 2, 3, 4, 5] rfl rfl rfl rfl 0 3 rfl rfl rfl rfl rfl (Nat.le_of_ble_eq_true rfl) ⟨Nat.le_of_ble_eq_true rfl, Nat.le_of_ble_eq_true rfl⟩ ⟨Nat.le_refl _, Nat.le_refl _⟩ ?_
    refine g_if_ne_b cx 62 dX3_countMiss_29 (by decide) (fun hw2 => ?_) (fun hw2 => ?_)
    · skip
      exact hret _ _ _ dX3_countMiss_62 (by rw [rMiss]; simp only [rM1, hw1, hw2, not_true_eq_false, not_false_eq_true, and_true, true_and, and_false, false_and, or_true, true_or, or_false, false_or, if_true, if_false])
    · skip
      refine g_aload_n (v := ad 0) cx dX3_countMiss_32 rfl ?_
      refine g_iload_n (v := x) cx dX3_countMiss_33 rfl ?_
      refine g_bipush (v := 6) cx dX3_countMiss_34 (by decide) ?_
      refine g_iconst (v := 1) cx dX3_countMiss_36 (by decide) ?_
      refine g_callv (ws' := wRing V ad (u2 (u2 R 0 (d * 9 + 5) ((R 0 (d * 9 + 5)) + 1)) 0 (d * 9 + 6) 1)) (As := [.int x, .int 6, .int 1]) (rest := []) cx (c_X3_putDrive V ad (u2 R 0 (d * 9 + 5) ((R 0 (d * 9 + 5)) + 1)) x 6 1 (d * 9 + 6) (rf_add (rf_mul hx rfl) (nl 6)) (by omega)) ml_X3_125 dX3_countMiss_37 [0, 1, 2, 3, 4, 5] rfl rfl rfl rfl 0 3 rfl rfl rfl rfl rfl (Nat.le_of_ble_eq_true rfl) ⟨Nat.le_of_ble_eq_true rfl, Nat.le_of_ble_eq_true rfl⟩ ⟨Nat.le_refl _, Nat.le_refl _⟩ ?_
      refine g_iconst (v := 0) cx dX3_countMiss_40 (by decide) ?_
      refine g_istore_n (lv' := [(0, .ref (ad 0)), (1, .int x), (2, .int ((R 0 (d * 9 + 5)) + 1)), (3, .int 0)]) cx dX3_countMiss_41 (by decide) rfl ?_
      refine g_lvk (lv' := [(0, .ref (ad 0)), (1, .int x), (3, .int 0)]) [0, 1, 3] rfl ?_
      refine rf_dn (P := fun i1 => G V K 4 0 0 (wRing V ad (rMz R d i1)) 42 [(0, .ref (ad 0)), (1, .int x), (3, .int (nI i1))] []) (4) (fun i1 hi1 ihi1 => ?_) ?_
      · skip
        have hi4 : i1 < 4 := hi1
        refine g_iload_n (v := nI i1) cx dX3_countMiss_42 rfl ?_
        refine g_iconst (v := 4) cx dX3_countMiss_43 (by decide) ?_
        refine g_icmp_ge cx 62 dX3_countMiss_44 (by decide) (fun hw3 => absurd hw3 (rf_geMN rfl (nl 4) (by omega) (by omega) (by omega))) (fun hw3 => ?_)
        refine g_aload_n (v := ad 0) cx dX3_countMiss_47 rfl ?_
        refine g_iload_n (v := x) cx dX3_countMiss_48 rfl ?_
        refine g_iconst (v := 1) cx dX3_countMiss_49 (by decide) ?_
        refine g_iload_n (v := nI i1) cx dX3_countMiss_50 rfl ?_
        refine g_iadd cx dX3_countMiss_51 ?_
        refine g_iconst (v := 0) cx dX3_countMiss_52 (by decide) ?_
        refine g_callv (ws' := wRing V ad (u2 (rMz R d i1) 0 (d * 9 + (1 + i1)) 0)) (As := [.int x, .int (1 + (nI i1)), .int 0]) (rest := []) cx (c_X3_putDrive V ad (rMz R d i1) x (1 + (nI i1)) 0 (d * 9 + (1 + i1)) (rf_add (rf_mul hx rfl) (rf_add (nl 1) rfl)) (by omega)) ml_X3_125 dX3_countMiss_53 [0, 1, 2, 3, 4, 5] rfl rfl rfl rfl 0 3 rfl rfl rfl rfl rfl (Nat.le_of_ble_eq_true rfl) ⟨Nat.le_of_ble_eq_true rfl, Nat.le_of_ble_eq_true rfl⟩ ⟨Nat.le_refl _, Nat.le_refl _⟩ ?_
        refine g_iinc (x := nI i1) (v := nI (i1 + 1)) (lv' := [(0, .ref (ad 0)), (1, .int x), (3, .int (nI (i1 + 1)))]) cx dX3_countMiss_56 rfl (by decide) (nI_add _ _) rfl ?_
        refine g_goto cx 42 dX3_countMiss_59 (by decide) ?_
        exact ihi1
      · skip
        refine g_iload_n (v := nI 4) cx dX3_countMiss_42 rfl ?_
        refine g_iconst (v := 4) cx dX3_countMiss_43 (by decide) ?_
        refine g_icmp_ge cx 62 dX3_countMiss_44 (by decide) (fun hw4 => ?_) (fun hw4 => absurd (rf_geMP rfl (nl 4) (by omega) (by omega) (by omega)) hw4)
        exact hret _ _ _ dX3_countMiss_62 (by rw [rMiss]; simp only [rM1, hw1, hw2, not_true_eq_false, not_false_eq_true, and_true, true_and, and_false, false_and, or_true, true_or, or_false, false_or, if_true, if_false])
end
section
/-- a figure -/
abbrev tFg (c : Int32) : Prop := ¬ c < 48 ∧ ¬ 57 < c
/-- the place of the next token, from x on, in a text of z letters -/
def tQ (L : Nat → Int32) (z x : Nat) : Nat := ff (fun j => decide (¬ L (x + j) = 32)) (z - x)
def tP (L : Nat → Int32) (z x : Nat) : Nat := x + tQ L z x
/-- how many figures from p on -/
def tC (L : Nat → Int32) (z p : Nat) : Nat := ff (fun j => decide (¬ tFg (L (p + j)))) (z - p)
def tN (L : Nat → Int32) (p n : Nat) : Int32 := fl (fun i a => if 256 < 10 * a + L (p + i) - 48 then 256 else 10 * a + L (p + i) - 48) n 0
def tKd (L : Nat → Int32) (z p : Nat) : Int32 := if L p = 48 ∧ ¬ tC L z p ≤ 1 then 258 else if tN L p (tC L z p) ≤ 255 then 256 else 258
def tX (L : Nat → Int32) (z x : Nat) : Nat := if tP L z x < z then (if tFg (L (tP L z x)) then tP L z x + tC L z (tP L z x) else tP L z x + 1) else tP L z x
def tK (L : Nat → Int32) (z x : Nat) : Int32 := if tP L z x < z then (if tFg (L (tP L z x)) then tKd L z (tP L z x) else L (tP L z x)) else 257
def tV (L : Nat → Int32) (z x : Nat) (u : Int32) : Int32 := if tP L z x < z then (if tFg (L (tP L z x)) then tN L (tP L z x) (tC L z (tP L z x)) else u) else u
theorem tQ_le (L : Nat → Int32) (z x : Nat) : tQ L z x ≤ z - x := ff_le _ _
theorem tP_le {L : Nat → Int32} {z x : Nat} (h : x ≤ z) : tP L z x ≤ z := by have := tQ_le L z x; unfold tP; omega
theorem tC_le (L : Nat → Int32) (z p : Nat) : tC L z p ≤ z - p := ff_le _ _
theorem tX_le {L : Nat → Int32} {z x : Nat} (h : x ≤ z) : tX L z x ≤ z := by
  have h1 := tP_le (L := L) h
  have h2 := tC_le L z (tP L z x)
  unfold tX
  split
  · split <;> omega
  · exact h1
def rm_X7_append : Room := { frames := 0, cells := 0, slots := 0, locals := 0 }
set_option maxRecDepth 100000 in
set_option maxHeartbeats 4000000 in
theorem c_X7_append (V : VT) (td : Nat → Nat) (L : Nat → Int32) (z : Nat) (b c d u l : Int32) (hz : z < 120) : CV V yX7_append cX7_append 2 rm_X7_append [.ref (td 0), .int l] (wTx V td L (nI z) b c d u) (fun w_ => w_ = wTx V td (upd L z l) (nI (z + 1)) b c d u) := by
  refine CV_intro (by decide) (Nat.le_of_ble_eq_true rfl) (fun K cx hci hret => ?_)
  show G V K 2 0 0 (wTx V td L (nI z) b c d u) 0 [(0, .ref (td 0)), (1, .int l)] []
  refine g_aload_n (v := td 0) cx dX7_append_0 rfl ?_
  refine g_get (v := .int (nI z)) cx fk_X7_15 dX7_append_1 0 rfl rfl ?_
  refine g_bipush (v := 120) cx dX7_append_4 (by decide) ?_
  refine g_icmp_ge cx 29 dX7_append_6 (by decide) (fun hw1 => absurd hw1 (rf_geMN rfl (nl 120) (by omega) (by omega) (by omega))) (fun hw1 => ?_)
  refine g_aload_n (v := td 0) cx dX7_append_9 rfl ?_
  refine g_get (v := .ref (td 1)) cx fk_X7_9 dX7_append_10 0 rfl rfl ?_
  refine g_aload_n (v := td 0) cx dX7_append_13 rfl ?_
  refine g_get (v := .int (nI z)) cx fk_X7_15 dX7_append_14 0 rfl rfl ?_
  refine g_iload_n (v := l) cx dX7_append_17 rfl ?_
  refine g_iast (ws' := wTx V td (upd L z l) (nI z) b c d u) cx dX7_append_18 1 z rfl (rfl) (by omega) (by first | decide | omega) rfl ?_
  refine g_aload_n (v := td 0) cx dX7_append_19 rfl ?_
  refine g_dup cx dX7_append_20 rfl ?_
  refine g_get (v := .int (nI z)) cx fk_X7_15 dX7_append_21 0 rfl rfl ?_
  refine g_iconst (v := 1) cx dX7_append_24 (by decide) ?_
  refine g_iadd cx dX7_append_25 ?_
  refine g_top (y := nI (z + 1)) (rf_add rfl (nl 1)) ?_
  refine g_put (ws' := wTx V td (upd L z l) (nI (z + 1)) b c d u) cx fk_X7_15 dX7_append_26 0 rfl (rfl) (rfl) (Nat.le_of_ble_eq_true rfl) rfl ?_
  exact hret _ _ _ dX7_append_29 (rfl)
def rm_X7_isFigure : Room := { frames := 0, cells := 0, slots := 0, locals := 0 }
set_option maxRecDepth 100000 in
set_option maxHeartbeats 4000000 in
theorem c_X7_isFigure (V : VT) (v : Int32) : CI V yX7_isFigure cX7_isFigure 1 .boolean rm_X7_isFigure [.int v] (([] : va_W)) (fun r_ w_ => r_ = bI (tFg v) ∧ w_ = ([] : va_W)) := by
  refine CI_intro (by decide) (Nat.le_of_ble_eq_true rfl) (fun K cx hret => ?_)
  show G V K 1 0 0 (([] : va_W)) 0 [(0, .int v)] []
  refine g_iload_n (v := v) cx dX7_isFigure_0 rfl ?_
  refine g_bipush (v := 48) cx dX7_isFigure_1 (by decide) ?_
  refine g_icmp_lt cx 16 dX7_isFigure_3 (by decide) (fun hw1 => ?_) (fun hw1 => ?_)
  · skip
    refine g_iconst (v := 0) cx dX7_isFigure_16 (by decide) ?_
    exact hret _ _ _ _ dX7_isFigure_17 (by first | rfl | exact rf_bnar _) (⟨by simp only [bI, tFg, hw1, not_true_eq_false, not_false_eq_true, and_true, true_and, and_false, false_and, or_true, true_or, or_false, false_or, if_true, if_false], rfl⟩)
  · skip
    refine g_iload_n (v := v) cx dX7_isFigure_6 rfl ?_
    refine g_bipush (v := 57) cx dX7_isFigure_7 (by decide) ?_
    refine g_icmp_gt cx 16 dX7_isFigure_9 (by decide) (fun hw2 => ?_) (fun hw2 => ?_)
    · skip
      refine g_iconst (v := 0) cx dX7_isFigure_16 (by decide) ?_
      exact hret _ _ _ _ dX7_isFigure_17 (by first | rfl | exact rf_bnar _) (⟨by simp only [bI, tFg, hw1, hw2, not_true_eq_false, not_false_eq_true, and_true, true_and, and_false, false_and, or_true, true_or, or_false, false_or, if_true, if_false], rfl⟩)
    · skip
      refine g_iconst (v := 1) cx dX7_isFigure_12 (by decide) ?_
      refine g_goto cx 17 dX7_isFigure_13 (by decide) ?_
      exact hret _ _ _ _ dX7_isFigure_17 (by first | rfl | exact rf_bnar _) (⟨by simp only [bI, tFg, hw1, hw2, not_true_eq_false, not_false_eq_true, and_true, true_and, and_false, false_and, or_true, true_or, or_false, false_or, if_true, if_false], rfl⟩)
def rm_X7_stepOverFigures : Room := { frames := 1, cells := 0, slots := 0, locals := 21 }
set_option maxRecDepth 100000 in
set_option maxHeartbeats 4000000 in
theorem c_X7_stepOverFigures (V : VT) (td : Nat → Nat) (L : Nat → Int32) (z p : Nat) (d u : Int32) (hz : z ≤ 120) (hp : p < z) : CV V yX7_stepOverFigures cX7_stepOverFigures 2 rm_X7_stepOverFigures [.ref (td 0)] (wTx V td L (nI z) (nI p) (nI p) d u) (fun w_ => w_ = wTx V td L (nI z) (nI (p + tC L z p)) (nI p) (tKd L z p) (tN L p (tC L z p))) := by
  refine CV_intro (by decide) (Nat.le_of_ble_eq_true rfl) (fun K cx hci hret => ?_)
  show G V K 2 0 0 (wTx V td L (nI z) (nI p) (nI p) d u) 0 [(0, .ref (td 0))] []
  refine g_aload_n (v := td 0) cx dX7_stepOverFigures_0 rfl ?_
  refine g_iconst (v := 0) cx dX7_stepOverFigures_1 (by decide) ?_
  refine g_put (ws' := wTx V td L (nI z) (nI p) (nI p) d 0) cx fk_X7_38 dX7_stepOverFigures_2 0 rfl (rfl) (rfl) (Nat.le_of_ble_eq_true rfl) rfl ?_
  refine rf_dn (P := fun i1 => G V K 2 0 0 (wTx V td L (nI z) (nI (p + i1)) (nI p) d (tN L p i1)) 5 [(0, .ref (td 0))] []) (tC L z p) (fun i1 hi1 ihi1 => ?_) ?_
  · skip
    have hle := tC_le L z p
    have hno : tFg (L (p + i1)) := Decidable.of_not_not (of_decide_eq_false (ff_no (fun j => decide (¬ tFg (L (p + j)))) (z - p) i1 hi1))
    refine g_aload_n (v := td 0) cx dX7_stepOverFigures_5 rfl ?_
    refine g_get (v := .int (nI (p + i1))) cx fk_X7_19 dX7_stepOverFigures_6 0 rfl rfl ?_
    refine g_aload_n (v := td 0) cx dX7_stepOverFigures_9 rfl ?_
    refine g_get (v := .int (nI z)) cx fk_X7_15 dX7_stepOverFigures_10 0 rfl rfl ?_
    refine g_icmp_ge cx 74 dX7_stepOverFigures_13 (by decide) (fun hw1 => absurd hw1 (rf_geMN rfl rfl (by omega) (by omega) (by omega))) (fun hw1 => ?_)
    refine g_aload_n (v := td 0) cx dX7_stepOverFigures_16 rfl ?_
    refine g_get (v := .ref (td 1)) cx fk_X7_9 dX7_stepOverFigures_17 0 rfl rfl ?_
    refine g_aload_n (v := td 0) cx dX7_stepOverFigures_20 rfl ?_
    refine g_get (v := .int (nI (p + i1))) cx fk_X7_19 dX7_stepOverFigures_21 0 rfl rfl ?_
    refine g_iald cx dX7_stepOverFigures_24 1 (p + i1) rfl (rfl) (by omega) (by first | decide | omega) ?_
    refine g_top (y := L (p + i1)) (rfl) ?_
    refine g_callsi (r0 := bI (tFg (L (p + i1)))) (ws' := wTx V td L (nI z) (nI (p + i1)) (nI p) d (tN L p i1)) (As := [.int (L (p + i1))]) (rest := []) cx (c_X7_isFigure V (L (p + i1))) ml_X7_31 dX7_stepOverFigures_25 [] rfl rfl rfl rfl rfl rfl (Nat.le_of_ble_eq_true rfl) ⟨Nat.le_of_ble_eq_true rfl, Nat.le_of_ble_eq_true rfl⟩ ⟨Nat.le_refl _, Nat.le_refl _⟩ ?_
    refine g_if_eq_b cx 74 dX7_stepOverFigures_28 (by decide) (fun hw2 => absurd (hno) hw2) (fun hw2 => ?_)
    refine g_aload_n (v := td 0) cx dX7_stepOverFigures_31 rfl ?_
    refine g_bipush (v := 10) cx dX7_stepOverFigures_32 (by decide) ?_
    refine g_aload_n (v := td 0) cx dX7_stepOverFigures_34 rfl ?_
    refine g_get (v := .int (tN L p i1)) cx fk_X7_38 dX7_stepOverFigures_35 0 rfl rfl ?_
    refine g_imul cx dX7_stepOverFigures_38 ?_
    refine g_aload_n (v := td 0) cx dX7_stepOverFigures_39 rfl ?_
    refine g_get (v := .ref (td 1)) cx fk_X7_9 dX7_stepOverFigures_40 0 rfl rfl ?_
    refine g_aload_n (v := td 0) cx dX7_stepOverFigures_43 rfl ?_
    refine g_get (v := .int (nI (p + i1))) cx fk_X7_19 dX7_stepOverFigures_44 0 rfl rfl ?_
    refine g_iald cx dX7_stepOverFigures_47 1 (p + i1) rfl (rfl) (by omega) (by first | decide | omega) ?_
    refine g_top (y := L (p + i1)) (rfl) ?_
    refine g_iadd cx dX7_stepOverFigures_48 ?_
    refine g_bipush (v := 48) cx dX7_stepOverFigures_49 (by decide) ?_
    refine g_isub cx dX7_stepOverFigures_51 ?_
    refine g_sipush (v := 256) cx dX7_stepOverFigures_52 (by decide) ?_
    refine g_mmin cx ml_X7_41 dX7_stepOverFigures_55 (Nat.le_of_ble_eq_true rfl) (Nat.le_of_ble_eq_true rfl) (Nat.zero_le _) (Nat.zero_le _) ?_
    refine g_top (y := tN L p (i1 + 1)) (rfl) ?_
    refine g_put (ws' := wTx V td L (nI z) (nI (p + i1)) (nI p) d (tN L p (i1 + 1))) cx fk_X7_38 dX7_stepOverFigures_58 0 rfl (rfl) (rfl) (Nat.le_of_ble_eq_true rfl) rfl ?_
    refine g_aload_n (v := td 0) cx dX7_stepOverFigures_61 rfl ?_
    refine g_dup cx dX7_stepOverFigures_62 rfl ?_
    refine g_get (v := .int (nI (p + i1))) cx fk_X7_19 dX7_stepOverFigures_63 0 rfl rfl ?_
    refine g_iconst (v := 1) cx dX7_stepOverFigures_66 (by decide) ?_
    refine g_iadd cx dX7_stepOverFigures_67 ?_
    refine g_top (y := nI ((p + i1) + 1)) (rf_add rfl (nl 1)) ?_
    refine g_put (ws' := wTx V td L (nI z) (nI ((p + i1) + 1)) (nI p) d (tN L p (i1 + 1))) cx fk_X7_19 dX7_stepOverFigures_68 0 rfl (rfl) (rfl) (Nat.le_of_ble_eq_true rfl) rfl ?_
    refine g_goto cx 5 dX7_stepOverFigures_71 (by decide) ?_
    exact ihi1
  · skip
    have hle := tC_le L z p
    rcases Nat.lt_or_ge (tC L z p) (z - p) with he | he
    · have hy : ¬ tFg (L (p + tC L z p)) := of_decide_eq_true (ff_yes (fun j => decide (¬ tFg (L (p + j)))) (z - p) he)
      refine g_aload_n (v := td 0) cx dX7_stepOverFigures_5 rfl ?_
      refine g_get (v := .int (nI (p + tC L z p))) cx fk_X7_19 dX7_stepOverFigures_6 0 rfl rfl ?_
      refine g_aload_n (v := td 0) cx dX7_stepOverFigures_9 rfl ?_
      refine g_get (v := .int (nI z)) cx fk_X7_15 dX7_stepOverFigures_10 0 rfl rfl ?_
      refine g_icmp_ge cx 74 dX7_stepOverFigures_13 (by decide) (fun hw3 => absurd hw3 (rf_geMN rfl rfl (by omega) (by omega) (by omega))) (fun hw3 => ?_)
      refine g_aload_n (v := td 0) cx dX7_stepOverFigures_16 rfl ?_
      refine g_get (v := .ref (td 1)) cx fk_X7_9 dX7_stepOverFigures_17 0 rfl rfl ?_
      refine g_aload_n (v := td 0) cx dX7_stepOverFigures_20 rfl ?_
      refine g_get (v := .int (nI (p + tC L z p))) cx fk_X7_19 dX7_stepOverFigures_21 0 rfl rfl ?_
      refine g_iald cx dX7_stepOverFigures_24 1 (p + tC L z p) rfl (rfl) (by omega) (by first | decide | omega) ?_
      refine g_top (y := L (p + tC L z p)) (rfl) ?_
      refine g_callsi (r0 := bI (tFg (L (p + tC L z p)))) (ws' := wTx V td L (nI z) (nI (p + tC L z p)) (nI p) d (tN L p (tC L z p))) (As := [.int (L (p + tC L z p))]) (rest := []) cx (c_X7_isFigure V (L (p + tC L z p))) ml_X7_31 dX7_stepOverFigures_25 [] rfl rfl rfl rfl rfl rfl (Nat.le_of_ble_eq_true rfl) ⟨Nat.le_of_ble_eq_true rfl, Nat.le_of_ble_eq_true rfl⟩ ⟨Nat.le_refl _, Nat.le_refl _⟩ ?_
      refine g_if_eq_b cx 74 dX7_stepOverFigures_28 (by decide) (fun hw4 => ?_) (fun hw4 => absurd hw4 (hy))
      refine g_aload_n (v := td 0) cx dX7_stepOverFigures_74 rfl ?_
      refine g_get (v := .ref (td 1)) cx fk_X7_9 dX7_stepOverFigures_75 0 rfl rfl ?_
      refine g_aload_n (v := td 0) cx dX7_stepOverFigures_78 rfl ?_
      refine g_get (v := .int (nI p)) cx fk_X7_25 dX7_stepOverFigures_79 0 rfl rfl ?_
      refine g_iald cx dX7_stepOverFigures_82 1 p rfl (rfl) (by omega) (by first | decide | omega) ?_
      refine g_top (y := L p) (rfl) ?_
      refine g_bipush (v := 48) cx dX7_stepOverFigures_83 (by decide) ?_
      refine g_icmp_ne cx 105 dX7_stepOverFigures_85 (by decide) (fun hw5 => ?_) (fun hw5 => ?_)
      · skip
        refine g_iconst (v := 0) cx dX7_stepOverFigures_105 (by decide) ?_
        refine g_istore_n (lv' := [(0, .ref (td 0)), (1, .int 0)]) cx dX7_stepOverFigures_106 (by decide) rfl ?_
        refine g_aload_n (v := td 0) cx dX7_stepOverFigures_107 rfl ?_
        refine g_iload_n (v := 0) cx dX7_stepOverFigures_108 rfl ?_
        refine g_if_ne cx 122 dX7_stepOverFigures_109 (by decide) (fun hw6 => absurd (by decide) hw6) (fun hw6 => ?_)
        refine g_aload_n (v := td 0) cx dX7_stepOverFigures_112 rfl ?_
        refine g_get (v := .int (tN L p (tC L z p))) cx fk_X7_38 dX7_stepOverFigures_113 0 rfl rfl ?_
        refine g_sipush (v := 255) cx dX7_stepOverFigures_116 (by decide) ?_
        refine g_icmp_le cx 128 dX7_stepOverFigures_119 (by decide) (fun hw7 => ?_) (fun hw7 => ?_)
        · skip
          refine g_sipush (v := 256) cx dX7_stepOverFigures_128 (by decide) ?_
          refine g_put (ws' := wTx V td L (nI z) (nI (p + tC L z p)) (nI p) 256 (tN L p (tC L z p))) cx fk_X7_28 dX7_stepOverFigures_131 0 rfl (rfl) (rfl) (Nat.le_of_ble_eq_true rfl) rfl ?_
          exact hret _ _ _ dX7_stepOverFigures_134 (by simp only [tKd, hw5, hw7, not_true_eq_false, not_false_eq_true, and_true, true_and, and_false, false_and, or_true, true_or, or_false, false_or, if_true, if_false])
        · skip
          refine g_sipush (v := 258) cx dX7_stepOverFigures_122 (by decide) ?_
          refine g_goto cx 131 dX7_stepOverFigures_125 (by decide) ?_
          refine g_put (ws' := wTx V td L (nI z) (nI (p + tC L z p)) (nI p) 258 (tN L p (tC L z p))) cx fk_X7_28 dX7_stepOverFigures_131 0 rfl (rfl) (rfl) (Nat.le_of_ble_eq_true rfl) rfl ?_
          exact hret _ _ _ dX7_stepOverFigures_134 (by simp only [tKd, hw5, hw7, not_true_eq_false, not_false_eq_true, and_true, true_and, and_false, false_and, or_true, true_or, or_false, false_or, if_true, if_false])
      · skip
        refine g_aload_n (v := td 0) cx dX7_stepOverFigures_88 rfl ?_
        refine g_get (v := .int (nI (p + tC L z p))) cx fk_X7_19 dX7_stepOverFigures_89 0 rfl rfl ?_
        refine g_aload_n (v := td 0) cx dX7_stepOverFigures_92 rfl ?_
        refine g_get (v := .int (nI p)) cx fk_X7_25 dX7_stepOverFigures_93 0 rfl rfl ?_
        refine g_isub cx dX7_stepOverFigures_96 ?_
        refine g_top (y := nI ((p + tC L z p) - p)) (rf_sub rfl rfl (by omega)) ?_
        refine g_top (y := nI (tC L z p)) (by rw [Nat.add_sub_cancel_left]) ?_
        refine g_iconst (v := 1) cx dX7_stepOverFigures_97 (by decide) ?_
        refine g_icmp_le cx 105 dX7_stepOverFigures_98 (by decide) (fun hw8 => ?_) (fun hw8 => ?_)
        · have hw8 := rf_leP rfl (nl 1) (by omega) (by omega) hw8
          refine g_iconst (v := 0) cx dX7_stepOverFigures_105 (by decide) ?_
          refine g_istore_n (lv' := [(0, .ref (td 0)), (1, .int 0)]) cx dX7_stepOverFigures_106 (by decide) rfl ?_
          refine g_aload_n (v := td 0) cx dX7_stepOverFigures_107 rfl ?_
          refine g_iload_n (v := 0) cx dX7_stepOverFigures_108 rfl ?_
          refine g_if_ne cx 122 dX7_stepOverFigures_109 (by decide) (fun hw9 => absurd (by decide) hw9) (fun hw9 => ?_)
          refine g_aload_n (v := td 0) cx dX7_stepOverFigures_112 rfl ?_
          refine g_get (v := .int (tN L p (tC L z p))) cx fk_X7_38 dX7_stepOverFigures_113 0 rfl rfl ?_
          refine g_sipush (v := 255) cx dX7_stepOverFigures_116 (by decide) ?_
          refine g_icmp_le cx 128 dX7_stepOverFigures_119 (by decide) (fun hw10 => ?_) (fun hw10 => ?_)
          · skip
            refine g_sipush (v := 256) cx dX7_stepOverFigures_128 (by decide) ?_
            refine g_put (ws' := wTx V td L (nI z) (nI (p + tC L z p)) (nI p) 256 (tN L p (tC L z p))) cx fk_X7_28 dX7_stepOverFigures_131 0 rfl (rfl) (rfl) (Nat.le_of_ble_eq_true rfl) rfl ?_
            exact hret _ _ _ dX7_stepOverFigures_134 (by simp only [tKd, hw5, hw8, hw10, not_true_eq_false, not_false_eq_true, and_true, true_and, and_false, false_and, or_true, true_or, or_false, false_or, if_true, if_false])
          · skip
            refine g_sipush (v := 258) cx dX7_stepOverFigures_122 (by decide) ?_
            refine g_goto cx 131 dX7_stepOverFigures_125 (by decide) ?_
            refine g_put (ws' := wTx V td L (nI z) (nI (p + tC L z p)) (nI p) 258 (tN L p (tC L z p))) cx fk_X7_28 dX7_stepOverFigures_131 0 rfl (rfl) (rfl) (Nat.le_of_ble_eq_true rfl) rfl ?_
            exact hret _ _ _ dX7_stepOverFigures_134 (by simp only [tKd, hw5, hw8, hw10, not_true_eq_false, not_false_eq_true, and_true, true_and, and_false, false_and, or_true, true_or, or_false, false_or, if_true, if_false])
        · have hw8 := rf_leN rfl (nl 1) (by omega) (by omega) hw8
          refine g_iconst (v := 1) cx dX7_stepOverFigures_101 (by decide) ?_
          refine g_goto cx 106 dX7_stepOverFigures_102 (by decide) ?_
          refine g_istore_n (lv' := [(0, .ref (td 0)), (1, .int 1)]) cx dX7_stepOverFigures_106 (by decide) rfl ?_
          refine g_aload_n (v := td 0) cx dX7_stepOverFigures_107 rfl ?_
          refine g_iload_n (v := 1) cx dX7_stepOverFigures_108 rfl ?_
          refine g_if_ne cx 122 dX7_stepOverFigures_109 (by decide) (fun hw11 => ?_) (fun hw11 => absurd hw11 (by decide))
          refine g_sipush (v := 258) cx dX7_stepOverFigures_122 (by decide) ?_
          refine g_goto cx 131 dX7_stepOverFigures_125 (by decide) ?_
          refine g_put (ws' := wTx V td L (nI z) (nI (p + tC L z p)) (nI p) 258 (tN L p (tC L z p))) cx fk_X7_28 dX7_stepOverFigures_131 0 rfl (rfl) (rfl) (Nat.le_of_ble_eq_true rfl) rfl ?_
          exact hret _ _ _ dX7_stepOverFigures_134 (by simp only [tKd, hw5, hw8, not_true_eq_false, not_false_eq_true, and_true, true_and, and_false, false_and, or_true, true_or, or_false, false_or, if_true, if_false])
    · have he2 : tC L z p = z - p := Nat.le_antisymm (tC_le L z p) he
      refine g_aload_n (v := td 0) cx dX7_stepOverFigures_5 rfl ?_
      refine g_get (v := .int (nI (p + tC L z p))) cx fk_X7_19 dX7_stepOverFigures_6 0 rfl rfl ?_
      refine g_aload_n (v := td 0) cx dX7_stepOverFigures_9 rfl ?_
      refine g_get (v := .int (nI z)) cx fk_X7_15 dX7_stepOverFigures_10 0 rfl rfl ?_
      refine g_icmp_ge cx 74 dX7_stepOverFigures_13 (by decide) (fun hw12 => ?_) (fun hw12 => absurd (rf_geMP rfl rfl (by omega) (by omega) (by omega)) hw12)
      refine g_aload_n (v := td 0) cx dX7_stepOverFigures_74 rfl ?_
      refine g_get (v := .ref (td 1)) cx fk_X7_9 dX7_stepOverFigures_75 0 rfl rfl ?_
      refine g_aload_n (v := td 0) cx dX7_stepOverFigures_78 rfl ?_
      refine g_get (v := .int (nI p)) cx fk_X7_25 dX7_stepOverFigures_79 0 rfl rfl ?_
      refine g_iald cx dX7_stepOverFigures_82 1 p rfl (rfl) (by omega) (by first | decide | omega) ?_
      refine g_top (y := L p) (rfl) ?_
      refine g_bipush (v := 48) cx dX7_stepOverFigures_83 (by decide) ?_
      refine g_icmp_ne cx 105 dX7_stepOverFigures_85 (by decide) (fun hw13 => ?_) (fun hw13 => ?_)
      · skip
        refine g_iconst (v := 0) cx dX7_stepOverFigures_105 (by decide) ?_
        refine g_istore_n (lv' := [(0, .ref (td 0)), (1, .int 0)]) cx dX7_stepOverFigures_106 (by decide) rfl ?_
        refine g_aload_n (v := td 0) cx dX7_stepOverFigures_107 rfl ?_
        refine g_iload_n (v := 0) cx dX7_stepOverFigures_108 rfl ?_
        refine g_if_ne cx 122 dX7_stepOverFigures_109 (by decide) (fun hw14 => absurd (by decide) hw14) (fun hw14 => ?_)
        refine g_aload_n (v := td 0) cx dX7_stepOverFigures_112 rfl ?_
        refine g_get (v := .int (tN L p (tC L z p))) cx fk_X7_38 dX7_stepOverFigures_113 0 rfl rfl ?_
        refine g_sipush (v := 255) cx dX7_stepOverFigures_116 (by decide) ?_
        refine g_icmp_le cx 128 dX7_stepOverFigures_119 (by decide) (fun hw15 => ?_) (fun hw15 => ?_)
        · skip
          refine g_sipush (v := 256) cx dX7_stepOverFigures_128 (by decide) ?_
          refine g_put (ws' := wTx V td L (nI z) (nI (p + tC L z p)) (nI p) 256 (tN L p (tC L z p))) cx fk_X7_28 dX7_stepOverFigures_131 0 rfl (rfl) (rfl) (Nat.le_of_ble_eq_true rfl) rfl ?_
          exact hret _ _ _ dX7_stepOverFigures_134 (by simp only [tKd, hw13, hw15, not_true_eq_false, not_false_eq_true, and_true, true_and, and_false, false_and, or_true, true_or, or_false, false_or, if_true, if_false])
        · skip
          refine g_sipush (v := 258) cx dX7_stepOverFigures_122 (by decide) ?_
          refine g_goto cx 131 dX7_stepOverFigures_125 (by decide) ?_
          refine g_put (ws' := wTx V td L (nI z) (nI (p + tC L z p)) (nI p) 258 (tN L p (tC L z p))) cx fk_X7_28 dX7_stepOverFigures_131 0 rfl (rfl) (rfl) (Nat.le_of_ble_eq_true rfl) rfl ?_
          exact hret _ _ _ dX7_stepOverFigures_134 (by simp only [tKd, hw13, hw15, not_true_eq_false, not_false_eq_true, and_true, true_and, and_false, false_and, or_true, true_or, or_false, false_or, if_true, if_false])
      · skip
        refine g_aload_n (v := td 0) cx dX7_stepOverFigures_88 rfl ?_
        refine g_get (v := .int (nI (p + tC L z p))) cx fk_X7_19 dX7_stepOverFigures_89 0 rfl rfl ?_
        refine g_aload_n (v := td 0) cx dX7_stepOverFigures_92 rfl ?_
        refine g_get (v := .int (nI p)) cx fk_X7_25 dX7_stepOverFigures_93 0 rfl rfl ?_
        refine g_isub cx dX7_stepOverFigures_96 ?_
        refine g_top (y := nI ((p + tC L z p) - p)) (rf_sub rfl rfl (by omega)) ?_
        refine g_top (y := nI (tC L z p)) (by rw [Nat.add_sub_cancel_left]) ?_
        refine g_iconst (v := 1) cx dX7_stepOverFigures_97 (by decide) ?_
        refine g_icmp_le cx 105 dX7_stepOverFigures_98 (by decide) (fun hw16 => ?_) (fun hw16 => ?_)
        · have hw16 := rf_leP rfl (nl 1) (by omega) (by omega) hw16
          refine g_iconst (v := 0) cx dX7_stepOverFigures_105 (by decide) ?_
          refine g_istore_n (lv' := [(0, .ref (td 0)), (1, .int 0)]) cx dX7_stepOverFigures_106 (by decide) rfl ?_
          refine g_aload_n (v := td 0) cx dX7_stepOverFigures_107 rfl ?_
          refine g_iload_n (v := 0) cx dX7_stepOverFigures_108 rfl ?_
          refine g_if_ne cx 122 dX7_stepOverFigures_109 (by decide) (fun hw17 => absurd (by decide) hw17) (fun hw17 => ?_)
          refine g_aload_n (v := td 0) cx dX7_stepOverFigures_112 rfl ?_
          refine g_get (v := .int (tN L p (tC L z p))) cx fk_X7_38 dX7_stepOverFigures_113 0 rfl rfl ?_
          refine g_sipush (v := 255) cx dX7_stepOverFigures_116 (by decide) ?_
          refine g_icmp_le cx 128 dX7_stepOverFigures_119 (by decide) (fun hw18 => ?_) (fun hw18 => ?_)
          · skip
            refine g_sipush (v := 256) cx dX7_stepOverFigures_128 (by decide) ?_
            refine g_put (ws' := wTx V td L (nI z) (nI (p + tC L z p)) (nI p) 256 (tN L p (tC L z p))) cx fk_X7_28 dX7_stepOverFigures_131 0 rfl (rfl) (rfl) (Nat.le_of_ble_eq_true rfl) rfl ?_
            exact hret _ _ _ dX7_stepOverFigures_134 (by simp only [tKd, hw13, hw16, hw18, not_true_eq_false, not_false_eq_true, and_true, true_and, and_false, false_and, or_true, true_or, or_false, false_or, if_true, if_false])
          · skip
            refine g_sipush (v := 258) cx dX7_stepOverFigures_122 (by decide) ?_
            refine g_goto cx 131 dX7_stepOverFigures_125 (by decide) ?_
            refine g_put (ws' := wTx V td L (nI z) (nI (p + tC L z p)) (nI p) 258 (tN L p (tC L z p))) cx fk_X7_28 dX7_stepOverFigures_131 0 rfl (rfl) (rfl) (Nat.le_of_ble_eq_true rfl) rfl ?_
            exact hret _ _ _ dX7_stepOverFigures_134 (by simp only [tKd, hw13, hw16, hw18, not_true_eq_false, not_false_eq_true, and_true, true_and, and_false, false_and, or_true, true_or, or_false, false_or, if_true, if_false])
        · have hw16 := rf_leN rfl (nl 1) (by omega) (by omega) hw16
          refine g_iconst (v := 1) cx dX7_stepOverFigures_101 (by decide) ?_
          refine g_goto cx 106 dX7_stepOverFigures_102 (by decide) ?_
          refine g_istore_n (lv' := [(0, .ref (td 0)), (1, .int 1)]) cx dX7_stepOverFigures_106 (by decide) rfl ?_
          refine g_aload_n (v := td 0) cx dX7_stepOverFigures_107 rfl ?_
          refine g_iload_n (v := 1) cx dX7_stepOverFigures_108 rfl ?_
          refine g_if_ne cx 122 dX7_stepOverFigures_109 (by decide) (fun hw19 => ?_) (fun hw19 => absurd hw19 (by decide))
          refine g_sipush (v := 258) cx dX7_stepOverFigures_122 (by decide) ?_
          refine g_goto cx 131 dX7_stepOverFigures_125 (by decide) ?_
          refine g_put (ws' := wTx V td L (nI z) (nI (p + tC L z p)) (nI p) 258 (tN L p (tC L z p))) cx fk_X7_28 dX7_stepOverFigures_131 0 rfl (rfl) (rfl) (Nat.le_of_ble_eq_true rfl) rfl ?_
          exact hret _ _ _ dX7_stepOverFigures_134 (by simp only [tKd, hw13, hw16, not_true_eq_false, not_false_eq_true, and_true, true_and, and_false, false_and, or_true, true_or, or_false, false_or, if_true, if_false])
def rm_X7_step : Room := { frames := 2, cells := 0, slots := 0, locals := 42 }
set_option maxRecDepth 100000 in
set_option maxHeartbeats 4000000 in
theorem c_X7_step (V : VT) (td : Nat → Nat) (L : Nat → Int32) (z x : Nat) (c d u : Int32) (hz : z ≤ 120) (hx : x ≤ z) : CV V yX7_step cX7_step 1 rm_X7_step [.ref (td 0)] (wTx V td L (nI z) (nI x) c d u) (fun w_ => w_ = wTx V td L (nI z) (nI (tX L z x)) (nI (tP L z x)) (tK L z x) (tV L z x u)) := by
  refine CV_intro (by decide) (Nat.le_of_ble_eq_true rfl) (fun K cx hci hret => ?_)
  show G V K 1 0 0 (wTx V td L (nI z) (nI x) c d u) 0 [(0, .ref (td 0))] []
  refine rf_dn (P := fun i1 => G V K 1 0 0 (wTx V td L (nI z) (nI (x + i1)) c d u) 0 [(0, .ref (td 0))] []) (tQ L z x) (fun i1 hi1 ihi1 => ?_) ?_
  · skip
    have hle := tQ_le L z x
    have hno : L (x + i1) = 32 := Decidable.of_not_not (of_decide_eq_false (ff_no (fun j => decide (¬ L (x + j) = 32)) (z - x) i1 hi1))
    refine g_aload_n (v := td 0) cx dX7_step_0 rfl ?_
    refine g_get (v := .int (nI (x + i1))) cx fk_X7_19 dX7_step_1 0 rfl rfl ?_
    refine g_aload_n (v := td 0) cx dX7_step_4 rfl ?_
    refine g_get (v := .int (nI z)) cx fk_X7_15 dX7_step_5 0 rfl rfl ?_
    refine g_icmp_ge cx 38 dX7_step_8 (by decide) (fun hw1 => absurd hw1 (rf_geMN rfl rfl (by omega) (by omega) (by omega))) (fun hw1 => ?_)
    refine g_aload_n (v := td 0) cx dX7_step_11 rfl ?_
    refine g_get (v := .ref (td 1)) cx fk_X7_9 dX7_step_12 0 rfl rfl ?_
    refine g_aload_n (v := td 0) cx dX7_step_15 rfl ?_
    refine g_get (v := .int (nI (x + i1))) cx fk_X7_19 dX7_step_16 0 rfl rfl ?_
    refine g_iald cx dX7_step_19 1 (x + i1) rfl (rfl) (by omega) (by first | decide | omega) ?_
    refine g_top (y := L (x + i1)) (rfl) ?_
    refine g_bipush (v := 32) cx dX7_step_20 (by decide) ?_
    refine g_icmp_ne cx 38 dX7_step_22 (by decide) (fun hw2 => absurd (hno) hw2) (fun hw2 => ?_)
    refine g_aload_n (v := td 0) cx dX7_step_25 rfl ?_
    refine g_dup cx dX7_step_26 rfl ?_
    refine g_get (v := .int (nI (x + i1))) cx fk_X7_19 dX7_step_27 0 rfl rfl ?_
    refine g_iconst (v := 1) cx dX7_step_30 (by decide) ?_
    refine g_iadd cx dX7_step_31 ?_
    refine g_top (y := nI ((x + i1) + 1)) (rf_add rfl (nl 1)) ?_
    refine g_put (ws' := wTx V td L (nI z) (nI ((x + i1) + 1)) c d u) cx fk_X7_19 dX7_step_32 0 rfl (rfl) (rfl) (Nat.le_of_ble_eq_true rfl) rfl ?_
    refine g_goto cx 0 dX7_step_35 (by decide) ?_
    exact ihi1
  · skip
    have hpz : tP L z x ≤ z := tP_le hx
    rcases Nat.lt_or_ge (tQ L z x) (z - x) with he | he
    · have hy : ¬ L (tP L z x) = 32 := of_decide_eq_true (ff_yes (fun j => decide (¬ L (x + j) = 32)) (z - x) he)
      have hlt : tP L z x < z := by unfold tP; omega
      refine g_aload_n (v := td 0) cx dX7_step_0 rfl ?_
      refine g_get (v := .int (nI (tP L z x))) cx fk_X7_19 dX7_step_1 0 rfl rfl ?_
      refine g_aload_n (v := td 0) cx dX7_step_4 rfl ?_
      refine g_get (v := .int (nI z)) cx fk_X7_15 dX7_step_5 0 rfl rfl ?_
      refine g_icmp_ge cx 38 dX7_step_8 (by decide) (fun hw3 => absurd hw3 (rf_geMN rfl rfl (by omega) (by omega) (by omega))) (fun hw3 => ?_)
      refine g_aload_n (v := td 0) cx dX7_step_11 rfl ?_
      refine g_get (v := .ref (td 1)) cx fk_X7_9 dX7_step_12 0 rfl rfl ?_
      refine g_aload_n (v := td 0) cx dX7_step_15 rfl ?_
      refine g_get (v := .int (nI (tP L z x))) cx fk_X7_19 dX7_step_16 0 rfl rfl ?_
      refine g_iald cx dX7_step_19 1 (tP L z x) rfl (rfl) (by omega) (by first | decide | omega) ?_
      refine g_top (y := L (tP L z x)) (rfl) ?_
      refine g_bipush (v := 32) cx dX7_step_20 (by decide) ?_
      refine g_icmp_ne cx 38 dX7_step_22 (by decide) (fun hw4 => ?_) (fun hw4 => absurd hw4 (hy))
      refine g_aload_n (v := td 0) cx dX7_step_38 rfl ?_
      refine g_aload_n (v := td 0) cx dX7_step_39 rfl ?_
      refine g_get (v := .int (nI (tP L z x))) cx fk_X7_19 dX7_step_40 0 rfl rfl ?_
      refine g_put (ws' := wTx V td L (nI z) (nI (tP L z x)) (nI (tP L z x)) d u) cx fk_X7_25 dX7_step_43 0 rfl (rfl) (rfl) (Nat.le_of_ble_eq_true rfl) rfl ?_
      refine g_aload_n (v := td 0) cx dX7_step_46 rfl ?_
      refine g_get (v := .int (nI (tP L z x))) cx fk_X7_19 dX7_step_47 0 rfl rfl ?_
      refine g_aload_n (v := td 0) cx dX7_step_50 rfl ?_
      refine g_get (v := .int (nI z)) cx fk_X7_15 dX7_step_51 0 rfl rfl ?_
      refine g_icmp_lt cx 67 dX7_step_54 (by decide) (fun hw5 => ?_) (fun hw5 => absurd (rf_ltMP rfl rfl (by omega) (by omega) (by omega)) hw5)
      refine g_aload_n (v := td 0) cx dX7_step_67 rfl ?_
      refine g_get (v := .ref (td 1)) cx fk_X7_9 dX7_step_68 0 rfl rfl ?_
      refine g_aload_n (v := td 0) cx dX7_step_71 rfl ?_
      refine g_get (v := .int (nI (tP L z x))) cx fk_X7_19 dX7_step_72 0 rfl rfl ?_
      refine g_iald cx dX7_step_75 1 (tP L z x) rfl (rfl) (by omega) (by first | decide | omega) ?_
      refine g_top (y := L (tP L z x)) (rfl) ?_
      refine g_callsi (r0 := bI (tFg (L (tP L z x)))) (ws' := wTx V td L (nI z) (nI (tP L z x)) (nI (tP L z x)) d u) (As := [.int (L (tP L z x))]) (rest := []) cx (c_X7_isFigure V (L (tP L z x))) ml_X7_31 dX7_step_76 [] rfl rfl rfl rfl rfl rfl (Nat.le_of_ble_eq_true rfl) ⟨Nat.le_of_ble_eq_true rfl, Nat.le_of_ble_eq_true rfl⟩ ⟨Nat.le_refl _, Nat.le_refl _⟩ ?_
      refine g_if_eq_b cx 89 dX7_step_79 (by decide) (fun hw6 => ?_) (fun hw6 => ?_)
      · skip
        refine g_aload_n (v := td 0) cx dX7_step_89 rfl ?_
        refine g_aload_n (v := td 0) cx dX7_step_90 rfl ?_
        refine g_get (v := .ref (td 1)) cx fk_X7_9 dX7_step_91 0 rfl rfl ?_
        refine g_aload_n (v := td 0) cx dX7_step_94 rfl ?_
        refine g_get (v := .int (nI (tP L z x))) cx fk_X7_19 dX7_step_95 0 rfl rfl ?_
        refine g_iald cx dX7_step_98 1 (tP L z x) rfl (rfl) (by omega) (by first | decide | omega) ?_
        refine g_top (y := L (tP L z x)) (rfl) ?_
        refine g_put (ws' := wTx V td L (nI z) (nI (tP L z x)) (nI (tP L z x)) (L (tP L z x)) u) cx fk_X7_28 dX7_step_99 0 rfl (rfl) (rfl) (Nat.le_of_ble_eq_true rfl) rfl ?_
        refine g_aload_n (v := td 0) cx dX7_step_102 rfl ?_
        refine g_dup cx dX7_step_103 rfl ?_
        refine g_get (v := .int (nI (tP L z x))) cx fk_X7_19 dX7_step_104 0 rfl rfl ?_
        refine g_iconst (v := 1) cx dX7_step_107 (by decide) ?_
        refine g_iadd cx dX7_step_108 ?_
        refine g_top (y := nI ((tP L z x) + 1)) (rf_add rfl (nl 1)) ?_
        refine g_put (ws' := wTx V td L (nI z) (nI ((tP L z x) + 1)) (nI (tP L z x)) (L (tP L z x)) u) cx fk_X7_19 dX7_step_109 0 rfl (rfl) (rfl) (Nat.le_of_ble_eq_true rfl) rfl ?_
        exact hret _ _ _ dX7_step_112 (by simp only [tX, tK, tV, tFg, hlt, hw6, not_true_eq_false, not_false_eq_true, and_true, true_and, and_false, false_and, or_true, true_or, or_false, false_or, if_true, if_false])
      · skip
        refine g_aload_n (v := td 0) cx dX7_step_82 rfl ?_
        refine g_callv (ws' := wTx V td L (nI z) (nI (tP L z x + tC L z (tP L z x))) (nI (tP L z x)) (tKd L z (tP L z x)) (tN L (tP L z x) (tC L z (tP L z x)))) (As := []) (rest := []) cx (c_X7_stepOverFigures V td L z (tP L z x) d u hz hlt) ml_X7_35 dX7_step_83 [0, 1] rfl rfl rfl rfl 0 7 rfl rfl rfl rfl rfl (Nat.le_of_ble_eq_true rfl) ⟨Nat.le_of_ble_eq_true rfl, Nat.le_of_ble_eq_true rfl⟩ ⟨Nat.le_refl _, Nat.le_refl _⟩ ?_
        refine g_goto cx 112 dX7_step_86 (by decide) ?_
        exact hret _ _ _ dX7_step_112 (by simp only [tX, tK, tV, tFg, hlt, hw6, not_true_eq_false, not_false_eq_true, and_true, true_and, and_false, false_and, or_true, true_or, or_false, false_or, if_true, if_false])
    · have he2 : tP L z x = z := by have := tQ_le L z x; unfold tP; omega
      have hlt : ¬ tP L z x < z := by omega
      refine g_aload_n (v := td 0) cx dX7_step_0 rfl ?_
      refine g_get (v := .int (nI (tP L z x))) cx fk_X7_19 dX7_step_1 0 rfl rfl ?_
      refine g_aload_n (v := td 0) cx dX7_step_4 rfl ?_
      refine g_get (v := .int (nI z)) cx fk_X7_15 dX7_step_5 0 rfl rfl ?_
      refine g_icmp_ge cx 38 dX7_step_8 (by decide) (fun hw7 => ?_) (fun hw7 => absurd (rf_geMP rfl rfl (by omega) (by omega) (by omega)) hw7)
      refine g_aload_n (v := td 0) cx dX7_step_38 rfl ?_
      refine g_aload_n (v := td 0) cx dX7_step_39 rfl ?_
      refine g_get (v := .int (nI (tP L z x))) cx fk_X7_19 dX7_step_40 0 rfl rfl ?_
      refine g_put (ws' := wTx V td L (nI z) (nI (tP L z x)) (nI (tP L z x)) d u) cx fk_X7_25 dX7_step_43 0 rfl (rfl) (rfl) (Nat.le_of_ble_eq_true rfl) rfl ?_
      refine g_aload_n (v := td 0) cx dX7_step_46 rfl ?_
      refine g_get (v := .int (nI (tP L z x))) cx fk_X7_19 dX7_step_47 0 rfl rfl ?_
      refine g_aload_n (v := td 0) cx dX7_step_50 rfl ?_
      refine g_get (v := .int (nI z)) cx fk_X7_15 dX7_step_51 0 rfl rfl ?_
      refine g_icmp_lt cx 67 dX7_step_54 (by decide) (fun hw8 => absurd hw8 (rf_ltMN rfl rfl (by omega) (by omega) (by omega))) (fun hw8 => ?_)
      refine g_aload_n (v := td 0) cx dX7_step_57 rfl ?_
      refine g_sipush (v := 257) cx dX7_step_58 (by decide) ?_
      refine g_put (ws' := wTx V td L (nI z) (nI (tP L z x)) (nI (tP L z x)) 257 u) cx fk_X7_28 dX7_step_61 0 rfl (rfl) (rfl) (Nat.le_of_ble_eq_true rfl) rfl ?_
      refine g_goto cx 112 dX7_step_64 (by decide) ?_
      exact hret _ _ _ dX7_step_112 (by simp only [tX, tK, tV, tFg, hlt, not_true_eq_false, not_false_eq_true, and_true, true_and, and_false, false_and, or_true, true_or, or_false, false_or, if_true, if_false])
def rm_X7_begin : Room := { frames := 3, cells := 0, slots := 0, locals := 62 }
set_option maxRecDepth 100000 in
set_option maxHeartbeats 4000000 in
theorem c_X7_begin (V : VT) (td : Nat → Nat) (L : Nat → Int32) (z : Nat) (b c d u : Int32) (hz : z ≤ 120) : CV V yX7_begin cX7_begin 1 rm_X7_begin [.ref (td 0)] (wTx V td L (nI z) b c d u) (fun w_ => w_ = wTx V td L (nI z) (nI (tX L z 0)) (nI (tP L z 0)) (tK L z 0) (tV L z 0 u)) := by
  refine CV_intro (by decide) (Nat.le_of_ble_eq_true rfl) (fun K cx hci hret => ?_)
  show G V K 1 0 0 (wTx V td L (nI z) b c d u) 0 [(0, .ref (td 0))] []
  refine g_aload_n (v := td 0) cx dX7_begin_0 rfl ?_
  refine g_iconst (v := 0) cx dX7_begin_1 (by decide) ?_
  refine g_top (y := nI 0) (rfl) ?_
  refine g_put (ws' := wTx V td L (nI z) (nI 0) c d u) cx fk_X7_19 dX7_begin_2 0 rfl (rfl) (rfl) (Nat.le_of_ble_eq_true rfl) rfl ?_
  refine g_aload_n (v := td 0) cx dX7_begin_5 rfl ?_
  refine g_callv (ws' := wTx V td L (nI z) (nI (tX L z 0)) (nI (tP L z 0)) (tK L z 0) (tV L z 0 u)) (As := []) (rest := []) cx (c_X7_step V td L z 0 c d u hz (Nat.zero_le _)) ml_X7_22 dX7_begin_6 [0, 1] rfl rfl rfl rfl 0 7 rfl rfl rfl rfl rfl (Nat.le_of_ble_eq_true rfl) ⟨Nat.le_of_ble_eq_true rfl, Nat.le_of_ble_eq_true rfl⟩ ⟨Nat.le_refl _, Nat.le_refl _⟩ ?_
  exact hret _ _ _ dX7_begin_9 (rfl)
end
