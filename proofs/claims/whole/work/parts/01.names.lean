-- ===== PART A: goes FIRST, ahead of the names: the tables' words, and 'selects' of the private methods out of them =====
/-- a private method of a class that the tables say can be made, by its rows of tables_1 -/
def lw_okq (q : MethodName × Nat) : Prop := (q.1.cls ≠ "java/lang/invoke/MethodHandle" ∧ q.1.cls ≠ "java/lang/invoke/VarHandle") ∧ Cond.instantiable q.1.cls q.2 ∈ tables_1 ∧ Cond.privateMethod q.1 ∈ tables_1 ∧ Cond.instanceMethod q.1 ∈ tables_1
theorem lw_p0 : lw_okq (⟨"ImageLoader$Image", "forget", "()V"⟩, 13) := ⟨⟨by decide +kernel, by decide +kernel⟩, List.mem_of_getElem? (i := 58) (by decide +kernel), List.mem_of_getElem? (i := 97) (by decide +kernel), List.mem_of_getElem? (i := 98) (by decide +kernel)⟩
theorem lw_p1 : lw_okq (⟨"ImageLoader$Image", "headerFault", "(LImageLoader$Tape;)I"⟩, 13) := ⟨⟨by decide +kernel, by decide +kernel⟩, List.mem_of_getElem? (i := 58) (by decide +kernel), List.mem_of_getElem? (i := 225) (by decide +kernel), List.mem_of_getElem? (i := 226) (by decide +kernel)⟩
theorem lw_p2 : lw_okq (⟨"ImageLoader$Image", "fault", "(II)I"⟩, 13) := ⟨⟨by decide +kernel, by decide +kernel⟩, List.mem_of_getElem? (i := 58) (by decide +kernel), List.mem_of_getElem? (i := 230) (by decide +kernel), List.mem_of_getElem? (i := 231) (by decide +kernel)⟩
theorem lw_p3 : lw_okq (⟨"ImageLoader$Image", "headsFault", "(LImageLoader$Tape;LImageLoader$Space;)I"⟩, 13) := ⟨⟨by decide +kernel, by decide +kernel⟩, List.mem_of_getElem? (i := 58) (by decide +kernel), List.mem_of_getElem? (i := 248) (by decide +kernel), List.mem_of_getElem? (i := 249) (by decide +kernel)⟩
theorem lw_p4 : lw_okq (⟨"ImageLoader$Image", "segmentFault", "(LImageLoader$Tape;LImageLoader$Space;I)I"⟩, 13) := ⟨⟨by decide +kernel, by decide +kernel⟩, List.mem_of_getElem? (i := 58) (by decide +kernel), List.mem_of_getElem? (i := 253) (by decide +kernel), List.mem_of_getElem? (i := 254) (by decide +kernel)⟩
theorem lw_p5 : lw_okq (⟨"ImageLoader$Image", "meetsEarlier", "(LImageLoader$Segment;)Z"⟩, 13) := ⟨⟨by decide +kernel, by decide +kernel⟩, List.mem_of_getElem? (i := 58) (by decide +kernel), List.mem_of_getElem? (i := 302) (by decide +kernel), List.mem_of_getElem? (i := 303) (by decide +kernel)⟩
theorem lw_p6 : lw_okq (⟨"ImageLoader$Image", "dynamicHeadFault", "(LImageLoader$Tape;I)I"⟩, 13) := ⟨⟨by decide +kernel, by decide +kernel⟩, List.mem_of_getElem? (i := 58) (by decide +kernel), List.mem_of_getElem? (i := 321) (by decide +kernel), List.mem_of_getElem? (i := 322) (by decide +kernel)⟩
theorem lw_p7 : lw_okq (⟨"ImageLoader$Image", "entryFault", "(LImageLoader$Tape;)I"⟩, 13) := ⟨⟨by decide +kernel, by decide +kernel⟩, List.mem_of_getElem? (i := 58) (by decide +kernel), List.mem_of_getElem? (i := 326) (by decide +kernel), List.mem_of_getElem? (i := 327) (by decide +kernel)⟩
theorem lw_p8 : lw_okq (⟨"ImageLoader$Image", "dynamicFault", "(LImageLoader$Tape;)I"⟩, 13) := ⟨⟨by decide +kernel, by decide +kernel⟩, List.mem_of_getElem? (i := 58) (by decide +kernel), List.mem_of_getElem? (i := 334) (by decide +kernel), List.mem_of_getElem? (i := 335) (by decide +kernel)⟩
theorem lw_p9 : lw_okq (⟨"ImageLoader$Image", "takeDynamicPairs", "(LImageLoader$Tape;)V"⟩, 13) := ⟨⟨by decide +kernel, by decide +kernel⟩, List.mem_of_getElem? (i := 58) (by decide +kernel), List.mem_of_getElem? (i := 338) (by decide +kernel), List.mem_of_getElem? (i := 339) (by decide +kernel)⟩
theorem lw_p10 : lw_okq (⟨"ImageLoader$Image", "takeDynamicPair", "(JJ)V"⟩, 13) := ⟨⟨by decide +kernel, by decide +kernel⟩, List.mem_of_getElem? (i := 58) (by decide +kernel), List.mem_of_getElem? (i := 342) (by decide +kernel), List.mem_of_getElem? (i := 343) (by decide +kernel)⟩
theorem lw_p11 : lw_okq (⟨"ImageLoader$Image", "lay", "(LImageLoader$Tape;LImageLoader$Space;)V"⟩, 13) := ⟨⟨by decide +kernel, by decide +kernel⟩, List.mem_of_getElem? (i := 58) (by decide +kernel), List.mem_of_getElem? (i := 352) (by decide +kernel), List.mem_of_getElem? (i := 353) (by decide +kernel)⟩
theorem lw_p12 : lw_okq (⟨"ImageLoader$Space", "clear", "(I)V"⟩, 4) := ⟨⟨by decide +kernel, by decide +kernel⟩, List.mem_of_getElem? (i := 32) (by decide +kernel), List.mem_of_getElem? (i := 368) (by decide +kernel), List.mem_of_getElem? (i := 369) (by decide +kernel)⟩
theorem lw_p13 : lw_okq (⟨"ImageLoader$Image", "relocationsFault", "(LImageLoader$Space;)I"⟩, 13) := ⟨⟨by decide +kernel, by decide +kernel⟩, List.mem_of_getElem? (i := 58) (by decide +kernel), List.mem_of_getElem? (i := 382) (by decide +kernel), List.mem_of_getElem? (i := 383) (by decide +kernel)⟩
theorem lw_p14 : lw_okq (⟨"ImageLoader$Image", "relocationFault", "(LImageLoader$Space;I)I"⟩, 13) := ⟨⟨by decide +kernel, by decide +kernel⟩, List.mem_of_getElem? (i := 58) (by decide +kernel), List.mem_of_getElem? (i := 386) (by decide +kernel), List.mem_of_getElem? (i := 387) (by decide +kernel)⟩
theorem lw_p15 : lw_okq (⟨"ImageLoader$Image", "areHeld", "(II)Z"⟩, 13) := ⟨⟨by decide +kernel, by decide +kernel⟩, List.mem_of_getElem? (i := 58) (by decide +kernel), List.mem_of_getElem? (i := 390) (by decide +kernel), List.mem_of_getElem? (i := 391) (by decide +kernel)⟩
def lw_privs_1 : List (MethodName × Nat) := [(⟨"ImageLoader$Image", "forget", "()V"⟩, 13), (⟨"ImageLoader$Image", "headerFault", "(LImageLoader$Tape;)I"⟩, 13), (⟨"ImageLoader$Image", "fault", "(II)I"⟩, 13), (⟨"ImageLoader$Image", "headsFault", "(LImageLoader$Tape;LImageLoader$Space;)I"⟩, 13), (⟨"ImageLoader$Image", "segmentFault", "(LImageLoader$Tape;LImageLoader$Space;I)I"⟩, 13), (⟨"ImageLoader$Image", "meetsEarlier", "(LImageLoader$Segment;)Z"⟩, 13), (⟨"ImageLoader$Image", "dynamicHeadFault", "(LImageLoader$Tape;I)I"⟩, 13), (⟨"ImageLoader$Image", "entryFault", "(LImageLoader$Tape;)I"⟩, 13), (⟨"ImageLoader$Image", "dynamicFault", "(LImageLoader$Tape;)I"⟩, 13), (⟨"ImageLoader$Image", "takeDynamicPairs", "(LImageLoader$Tape;)V"⟩, 13), (⟨"ImageLoader$Image", "takeDynamicPair", "(JJ)V"⟩, 13), (⟨"ImageLoader$Image", "lay", "(LImageLoader$Tape;LImageLoader$Space;)V"⟩, 13), (⟨"ImageLoader$Space", "clear", "(I)V"⟩, 4), (⟨"ImageLoader$Image", "relocationsFault", "(LImageLoader$Space;)I"⟩, 13), (⟨"ImageLoader$Image", "relocationFault", "(LImageLoader$Space;I)I"⟩, 13), (⟨"ImageLoader$Image", "areHeld", "(II)Z"⟩, 13)]
theorem lw_r1 : ∀ q ∈ lw_privs_1, lw_okq q := List.forall_mem_cons.mpr ⟨lw_p0, List.forall_mem_cons.mpr ⟨lw_p1, List.forall_mem_cons.mpr ⟨lw_p2, List.forall_mem_cons.mpr ⟨lw_p3, List.forall_mem_cons.mpr ⟨lw_p4, List.forall_mem_cons.mpr ⟨lw_p5, List.forall_mem_cons.mpr ⟨lw_p6, List.forall_mem_cons.mpr ⟨lw_p7, List.forall_mem_cons.mpr ⟨lw_p8, List.forall_mem_cons.mpr ⟨lw_p9, List.forall_mem_cons.mpr ⟨lw_p10, List.forall_mem_cons.mpr ⟨lw_p11, List.forall_mem_cons.mpr ⟨lw_p12, List.forall_mem_cons.mpr ⟨lw_p13, List.forall_mem_cons.mpr ⟨lw_p14, List.forall_mem_cons.mpr ⟨lw_p15, fun _ h => absurd h List.not_mem_nil⟩⟩⟩⟩⟩⟩⟩⟩⟩⟩⟩⟩⟩⟩⟩⟩
theorem lw_p16 : lw_okq (⟨"ImageLoader$Image", "symbolFault", "(LImageLoader$Space;III)I"⟩, 13) := ⟨⟨by decide +kernel, by decide +kernel⟩, List.mem_of_getElem? (i := 58) (by decide +kernel), List.mem_of_getElem? (i := 402) (by decide +kernel), List.mem_of_getElem? (i := 403) (by decide +kernel)⟩
theorem lw_p17 : lw_okq (⟨"ImageLoader$Image", "takeBack", "(LImageLoader$Space;)V"⟩, 13) := ⟨⟨by decide +kernel, by decide +kernel⟩, List.mem_of_getElem? (i := 58) (by decide +kernel), List.mem_of_getElem? (i := 411) (by decide +kernel), List.mem_of_getElem? (i := 412) (by decide +kernel)⟩
theorem lw_p18 : lw_okq (⟨"ImageLoader", "stackPointer", "()I"⟩, 8) := ⟨⟨by decide +kernel, by decide +kernel⟩, List.mem_of_getElem? (i := 10) (by decide +kernel), List.mem_of_getElem? (i := 449) (by decide +kernel), List.mem_of_getElem? (i := 450) (by decide +kernel)⟩
theorem lw_p19 : lw_okq (⟨"ImageLoader", "argumentCount", "()I"⟩, 8) := ⟨⟨by decide +kernel, by decide +kernel⟩, List.mem_of_getElem? (i := 10) (by decide +kernel), List.mem_of_getElem? (i := 453) (by decide +kernel), List.mem_of_getElem? (i := 454) (by decide +kernel)⟩
theorem lw_p20 : lw_okq (⟨"ImageLoader", "argumentBytes", "()I"⟩, 8) := ⟨⟨by decide +kernel, by decide +kernel⟩, List.mem_of_getElem? (i := 10) (by decide +kernel), List.mem_of_getElem? (i := 461) (by decide +kernel), List.mem_of_getElem? (i := 462) (by decide +kernel)⟩
theorem lw_p21 : lw_okq (⟨"ImageLoader", "layArguments", "(I)V"⟩, 8) := ⟨⟨by decide +kernel, by decide +kernel⟩, List.mem_of_getElem? (i := 10) (by decide +kernel), List.mem_of_getElem? (i := 469) (by decide +kernel), List.mem_of_getElem? (i := 470) (by decide +kernel)⟩
theorem lw_p22 : lw_okq (⟨"ImageLoaderModel", "isHeader", "()Z"⟩, 24) := ⟨⟨by decide +kernel, by decide +kernel⟩, List.mem_of_getElem? (i := 542) (by decide +kernel), List.mem_of_getElem? (i := 654) (by decide +kernel), List.mem_of_getElem? (i := 655) (by decide +kernel)⟩
theorem lw_p23 : lw_okq (⟨"ImageLoaderModel", "fail", "(II)Z"⟩, 24) := ⟨⟨by decide +kernel, by decide +kernel⟩, List.mem_of_getElem? (i := 542) (by decide +kernel), List.mem_of_getElem? (i := 658) (by decide +kernel), List.mem_of_getElem? (i := 659) (by decide +kernel)⟩
theorem lw_p24 : lw_okq (⟨"ImageLoaderModel", "half", "(I)I"⟩, 24) := ⟨⟨by decide +kernel, by decide +kernel⟩, List.mem_of_getElem? (i := 542) (by decide +kernel), List.mem_of_getElem? (i := 662) (by decide +kernel), List.mem_of_getElem? (i := 663) (by decide +kernel)⟩
theorem lw_p25 : lw_okq (⟨"ImageLoaderModel", "word", "(I)J"⟩, 24) := ⟨⟨by decide +kernel, by decide +kernel⟩, List.mem_of_getElem? (i := 542) (by decide +kernel), List.mem_of_getElem? (i := 666) (by decide +kernel), List.mem_of_getElem? (i := 667) (by decide +kernel)⟩
theorem lw_p26 : lw_okq (⟨"ImageLoaderModel", "areHeads", "()Z"⟩, 24) := ⟨⟨by decide +kernel, by decide +kernel⟩, List.mem_of_getElem? (i := 542) (by decide +kernel), List.mem_of_getElem? (i := 671) (by decide +kernel), List.mem_of_getElem? (i := 672) (by decide +kernel)⟩
theorem lw_p27 : lw_okq (⟨"ImageLoaderModel", "isSegment", "(I)Z"⟩, 24) := ⟨⟨by decide +kernel, by decide +kernel⟩, List.mem_of_getElem? (i := 542) (by decide +kernel), List.mem_of_getElem? (i := 675) (by decide +kernel), List.mem_of_getElem? (i := 676) (by decide +kernel)⟩
theorem lw_p28 : lw_okq (⟨"ImageLoaderModel", "mappedPages", "()I"⟩, 24) := ⟨⟨by decide +kernel, by decide +kernel⟩, List.mem_of_getElem? (i := 542) (by decide +kernel), List.mem_of_getElem? (i := 681) (by decide +kernel), List.mem_of_getElem? (i := 682) (by decide +kernel)⟩
theorem lw_p29 : lw_okq (⟨"ImageLoaderModel", "isDynamic", "(I)Z"⟩, 24) := ⟨⟨by decide +kernel, by decide +kernel⟩, List.mem_of_getElem? (i := 542) (by decide +kernel), List.mem_of_getElem? (i := 687) (by decide +kernel), List.mem_of_getElem? (i := 688) (by decide +kernel)⟩
theorem lw_p30 : lw_okq (⟨"ImageLoaderModel", "arePairs", "()Z"⟩, 24) := ⟨⟨by decide +kernel, by decide +kernel⟩, List.mem_of_getElem? (i := 542) (by decide +kernel), List.mem_of_getElem? (i := 692) (by decide +kernel), List.mem_of_getElem? (i := 693) (by decide +kernel)⟩
theorem lw_p31 : lw_okq (⟨"ImageLoaderModel", "lay", "()V"⟩, 24) := ⟨⟨by decide +kernel, by decide +kernel⟩, List.mem_of_getElem? (i := 542) (by decide +kernel), List.mem_of_getElem? (i := 698) (by decide +kernel), List.mem_of_getElem? (i := 699) (by decide +kernel)⟩
def lw_privs_2 : List (MethodName × Nat) := [(⟨"ImageLoader$Image", "symbolFault", "(LImageLoader$Space;III)I"⟩, 13), (⟨"ImageLoader$Image", "takeBack", "(LImageLoader$Space;)V"⟩, 13), (⟨"ImageLoader", "stackPointer", "()I"⟩, 8), (⟨"ImageLoader", "argumentCount", "()I"⟩, 8), (⟨"ImageLoader", "argumentBytes", "()I"⟩, 8), (⟨"ImageLoader", "layArguments", "(I)V"⟩, 8), (⟨"ImageLoaderModel", "isHeader", "()Z"⟩, 24), (⟨"ImageLoaderModel", "fail", "(II)Z"⟩, 24), (⟨"ImageLoaderModel", "half", "(I)I"⟩, 24), (⟨"ImageLoaderModel", "word", "(I)J"⟩, 24), (⟨"ImageLoaderModel", "areHeads", "()Z"⟩, 24), (⟨"ImageLoaderModel", "isSegment", "(I)Z"⟩, 24), (⟨"ImageLoaderModel", "mappedPages", "()I"⟩, 24), (⟨"ImageLoaderModel", "isDynamic", "(I)Z"⟩, 24), (⟨"ImageLoaderModel", "arePairs", "()Z"⟩, 24), (⟨"ImageLoaderModel", "lay", "()V"⟩, 24)]
theorem lw_r2 : ∀ q ∈ lw_privs_2, lw_okq q := List.forall_mem_cons.mpr ⟨lw_p16, List.forall_mem_cons.mpr ⟨lw_p17, List.forall_mem_cons.mpr ⟨lw_p18, List.forall_mem_cons.mpr ⟨lw_p19, List.forall_mem_cons.mpr ⟨lw_p20, List.forall_mem_cons.mpr ⟨lw_p21, List.forall_mem_cons.mpr ⟨lw_p22, List.forall_mem_cons.mpr ⟨lw_p23, List.forall_mem_cons.mpr ⟨lw_p24, List.forall_mem_cons.mpr ⟨lw_p25, List.forall_mem_cons.mpr ⟨lw_p26, List.forall_mem_cons.mpr ⟨lw_p27, List.forall_mem_cons.mpr ⟨lw_p28, List.forall_mem_cons.mpr ⟨lw_p29, List.forall_mem_cons.mpr ⟨lw_p30, List.forall_mem_cons.mpr ⟨lw_p31, fun _ h => absurd h List.not_mem_nil⟩⟩⟩⟩⟩⟩⟩⟩⟩⟩⟩⟩⟩⟩⟩⟩
theorem lw_p32 : lw_okq (⟨"ImageLoaderModel", "relocations", "()Z"⟩, 24) := ⟨⟨by decide +kernel, by decide +kernel⟩, List.mem_of_getElem? (i := 542) (by decide +kernel), List.mem_of_getElem? (i := 702) (by decide +kernel), List.mem_of_getElem? (i := 703) (by decide +kernel)⟩
theorem lw_p33 : lw_okq (⟨"ImageLoaderModel", "relocate", "(I)Z"⟩, 24) := ⟨⟨by decide +kernel, by decide +kernel⟩, List.mem_of_getElem? (i := 542) (by decide +kernel), List.mem_of_getElem? (i := 706) (by decide +kernel), List.mem_of_getElem? (i := 707) (by decide +kernel)⟩
theorem lw_p34 : lw_okq (⟨"ImageLoaderModel", "areHeld", "(JI)Z"⟩, 24) := ⟨⟨by decide +kernel, by decide +kernel⟩, List.mem_of_getElem? (i := 542) (by decide +kernel), List.mem_of_getElem? (i := 711) (by decide +kernel), List.mem_of_getElem? (i := 712) (by decide +kernel)⟩
theorem lw_p35 : lw_okq (⟨"ImageLoaderModel", "wordIn", "(J)J"⟩, 24) := ⟨⟨by decide +kernel, by decide +kernel⟩, List.mem_of_getElem? (i := 542) (by decide +kernel), List.mem_of_getElem? (i := 715) (by decide +kernel), List.mem_of_getElem? (i := 716) (by decide +kernel)⟩
theorem lw_p36 : lw_okq (⟨"ImageLoaderModel", "put", "(JJ)V"⟩, 24) := ⟨⟨by decide +kernel, by decide +kernel⟩, List.mem_of_getElem? (i := 542) (by decide +kernel), List.mem_of_getElem? (i := 720) (by decide +kernel), List.mem_of_getElem? (i := 721) (by decide +kernel)⟩
theorem lw_p37 : lw_okq (⟨"ImageLoaderModel", "unlay", "()V"⟩, 24) := ⟨⟨by decide +kernel, by decide +kernel⟩, List.mem_of_getElem? (i := 542) (by decide +kernel), List.mem_of_getElem? (i := 725) (by decide +kernel), List.mem_of_getElem? (i := 726) (by decide +kernel)⟩
theorem lw_p38 : lw_okq (⟨"ImageLoaderModel", "have", "(III)J"⟩, 24) := ⟨⟨by decide +kernel, by decide +kernel⟩, List.mem_of_getElem? (i := 542) (by decide +kernel), List.mem_of_getElem? (i := 741) (by decide +kernel), List.mem_of_getElem? (i := 742) (by decide +kernel)⟩
theorem lw_p39 : lw_okq (⟨"ImageLoaderModel", "refusal", "(III)I"⟩, 24) := ⟨⟨by decide +kernel, by decide +kernel⟩, List.mem_of_getElem? (i := 542) (by decide +kernel), List.mem_of_getElem? (i := 745) (by decide +kernel), List.mem_of_getElem? (i := 746) (by decide +kernel)⟩
theorem lw_p40 : lw_okq (⟨"ImageLoaderModel", "with", "(I)I"⟩, 24) := ⟨⟨by decide +kernel, by decide +kernel⟩, List.mem_of_getElem? (i := 542) (by decide +kernel), List.mem_of_getElem? (i := 776) (by decide +kernel), List.mem_of_getElem? (i := 777) (by decide +kernel)⟩
def lw_privs_3 : List (MethodName × Nat) := [(⟨"ImageLoaderModel", "relocations", "()Z"⟩, 24), (⟨"ImageLoaderModel", "relocate", "(I)Z"⟩, 24), (⟨"ImageLoaderModel", "areHeld", "(JI)Z"⟩, 24), (⟨"ImageLoaderModel", "wordIn", "(J)J"⟩, 24), (⟨"ImageLoaderModel", "put", "(JJ)V"⟩, 24), (⟨"ImageLoaderModel", "unlay", "()V"⟩, 24), (⟨"ImageLoaderModel", "have", "(III)J"⟩, 24), (⟨"ImageLoaderModel", "refusal", "(III)I"⟩, 24), (⟨"ImageLoaderModel", "with", "(I)I"⟩, 24)]
theorem lw_r3 : ∀ q ∈ lw_privs_3, lw_okq q := List.forall_mem_cons.mpr ⟨lw_p32, List.forall_mem_cons.mpr ⟨lw_p33, List.forall_mem_cons.mpr ⟨lw_p34, List.forall_mem_cons.mpr ⟨lw_p35, List.forall_mem_cons.mpr ⟨lw_p36, List.forall_mem_cons.mpr ⟨lw_p37, List.forall_mem_cons.mpr ⟨lw_p38, List.forall_mem_cons.mpr ⟨lw_p39, List.forall_mem_cons.mpr ⟨lw_p40, fun _ h => absurd h List.not_mem_nil⟩⟩⟩⟩⟩⟩⟩⟩⟩
def lw_privs : List (MethodName × Nat) := lw_privs_1 ++ (lw_privs_2 ++ (lw_privs_3))
def lw_tbl : List Cond := k2_sels lw_privs ++ tables_1
theorem lw_privs_ok : ∀ q ∈ lw_privs, lw_okq q := by
  show ∀ q ∈ lw_privs_1 ++ (lw_privs_2 ++ (lw_privs_3)), lw_okq q
  exact List.forall_mem_append.mpr ⟨lw_r1, List.forall_mem_append.mpr ⟨lw_r2, lw_r3⟩⟩
def RX0 : String := "ImageLoader$Image"
def TX0 : u_T := fun k => match k with
  | 0 => ("ImageLoader$Image", "segments", "[LImageLoader$Segment;", true)
  | 1 => ("ImageLoader$Image", "segmentCount", "I", false)
  | 2 => ("ImageLoader$Image", "faultPlace", "I", false)
  | 3 => ("ImageLoader$Image", "base", "I", false)
  | 4 => ("ImageLoader$Image", "entry", "I", false)
  | 5 => ("ImageLoader$Image", "pagesWanted", "I", false)
  | 6 => ("ImageLoader$Image", "dynamicHead", "I", false)
  | 7 => ("ImageLoader$Image", "relocations", "J", false)
  | 8 => ("ImageLoader$Image", "relocationsBytes", "J", false)
  | 9 => ("ImageLoader$Image", "relocationBytes", "J", false)
  | 10 => ("ImageLoader$Image", "symbols", "J", false)
  | 11 => ("ImageLoader$Image", "symbolBytes", "J", false)
  | _ => ("ImageLoader$Image", "relocationCount", "I", false)
def tyX0 : Nat → FieldType := fun k => match k with
  | 0 => .array (.object "ImageLoader$Segment")
  | 1 => .int
  | 2 => .int
  | 3 => .int
  | 4 => .int
  | 5 => .int
  | 6 => .int
  | 7 => .long
  | 8 => .long
  | 9 => .long
  | 10 => .long
  | 11 => .long
  | _ => .int
abbrev wsX00 : List Cond := u_ws RX0 TX0 13
theorem nmX0 : ∀ a, a < 13 → ∀ b, b < 13 → a ≠ b → (TX0 a).2.1 ≠ (TX0 b).2.1 := by decide +kernel
theorem tyX0_ok : ∀ k, k < 13 → parseFieldDescriptor (TX0 k).2.2.1 = some (tyX0 k) := by decide +kernel
abbrev cX0_init : ByteArray := prog_2_method_1_code
def yX0_init : MethodName := ⟨RX0, "<init>", "()V"⟩
abbrev cX0_faultPlace : ByteArray := prog_2_method_2_code
def yX0_faultPlace : MethodName := ⟨RX0, "faultPlace", "()I"⟩
abbrev cX0_base : ByteArray := prog_2_method_3_code
def yX0_base : MethodName := ⟨RX0, "base", "()I"⟩
abbrev cX0_entry : ByteArray := prog_2_method_4_code
def yX0_entry : MethodName := ⟨RX0, "entry", "()I"⟩
abbrev cX0_pagesWanted : ByteArray := prog_2_method_5_code
def yX0_pagesWanted : MethodName := ⟨RX0, "pagesWanted", "()I"⟩
abbrev cX0_relocationCount : ByteArray := prog_2_method_6_code
def yX0_relocationCount : MethodName := ⟨RX0, "relocationCount", "()I"⟩
abbrev cX0_bring : ByteArray := prog_2_method_7_code
def yX0_bring : MethodName := ⟨RX0, "bring", "(LImageLoader$Tape;LImageLoader$Space;I)I"⟩
abbrev cX0_forget : ByteArray := prog_2_method_8_code
def yX0_forget : MethodName := ⟨RX0, "forget", "()V"⟩
abbrev cX0_fault : ByteArray := prog_2_method_9_code
def yX0_fault : MethodName := ⟨RX0, "fault", "(II)I"⟩
abbrev cX0_headerFault : ByteArray := prog_2_method_10_code
def yX0_headerFault : MethodName := ⟨RX0, "headerFault", "(LImageLoader$Tape;)I"⟩
abbrev cX0_headsFault : ByteArray := prog_2_method_11_code
def yX0_headsFault : MethodName := ⟨RX0, "headsFault", "(LImageLoader$Tape;LImageLoader$Space;)I"⟩
abbrev cX0_segmentFault : ByteArray := prog_2_method_12_code
def yX0_segmentFault : MethodName := ⟨RX0, "segmentFault", "(LImageLoader$Tape;LImageLoader$Space;I)I"⟩
abbrev cX0_meetsEarlier : ByteArray := prog_2_method_13_code
def yX0_meetsEarlier : MethodName := ⟨RX0, "meetsEarlier", "(LImageLoader$Segment;)Z"⟩
abbrev cX0_dynamicHeadFault : ByteArray := prog_2_method_14_code
def yX0_dynamicHeadFault : MethodName := ⟨RX0, "dynamicHeadFault", "(LImageLoader$Tape;I)I"⟩
abbrev cX0_entryFault : ByteArray := prog_2_method_15_code
def yX0_entryFault : MethodName := ⟨RX0, "entryFault", "(LImageLoader$Tape;)I"⟩
abbrev cX0_dynamicFault : ByteArray := prog_2_method_16_code
def yX0_dynamicFault : MethodName := ⟨RX0, "dynamicFault", "(LImageLoader$Tape;)I"⟩
abbrev cX0_takeDynamicPairs : ByteArray := prog_2_method_17_code
def yX0_takeDynamicPairs : MethodName := ⟨RX0, "takeDynamicPairs", "(LImageLoader$Tape;)V"⟩
abbrev cX0_takeDynamicPair : ByteArray := prog_2_method_18_code
def yX0_takeDynamicPair : MethodName := ⟨RX0, "takeDynamicPair", "(JJ)V"⟩
abbrev cX0_lay : ByteArray := prog_2_method_19_code
def yX0_lay : MethodName := ⟨RX0, "lay", "(LImageLoader$Tape;LImageLoader$Space;)V"⟩
abbrev cX0_takeBack : ByteArray := prog_2_method_20_code
def yX0_takeBack : MethodName := ⟨RX0, "takeBack", "(LImageLoader$Space;)V"⟩
abbrev cX0_relocationsFault : ByteArray := prog_2_method_21_code
def yX0_relocationsFault : MethodName := ⟨RX0, "relocationsFault", "(LImageLoader$Space;)I"⟩
abbrev cX0_relocationFault : ByteArray := prog_2_method_22_code
def yX0_relocationFault : MethodName := ⟨RX0, "relocationFault", "(LImageLoader$Space;I)I"⟩
abbrev cX0_symbolFault : ByteArray := prog_2_method_23_code
def yX0_symbolFault : MethodName := ⟨RX0, "symbolFault", "(LImageLoader$Space;III)I"⟩
abbrev cX0_areHeld : ByteArray := prog_2_method_24_code
def yX0_areHeld : MethodName := ⟨RX0, "areHeld", "(II)Z"⟩
def RX1 : String := "ImageLoader$Segment"
def TX1 : u_T := fun k => match k with
  | 0 => ("ImageLoader$Segment", "offset", "J", false)
  | 1 => ("ImageLoader$Segment", "address", "J", false)
  | 2 => ("ImageLoader$Segment", "start", "J", false)
  | 3 => ("ImageLoader$Segment", "filed", "J", false)
  | 4 => ("ImageLoader$Segment", "held", "J", false)
  | 5 => ("ImageLoader$Segment", "align", "J", false)
  | _ => ("ImageLoader$Segment", "flags", "I", false)
def tyX1 : Nat → FieldType := fun k => match k with
  | 0 => .long
  | 1 => .long
  | 2 => .long
  | 3 => .long
  | 4 => .long
  | 5 => .long
  | _ => .int
abbrev wsX10 : List Cond := u_ws RX1 TX1 7
theorem nmX1 : ∀ a, a < 7 → ∀ b, b < 7 → a ≠ b → (TX1 a).2.1 ≠ (TX1 b).2.1 := by decide +kernel
theorem tyX1_ok : ∀ k, k < 7 → parseFieldDescriptor (TX1 k).2.2.1 = some (tyX1 k) := by decide +kernel
abbrev cX1_init : ByteArray := prog_3_method_1_code
def yX1_init : MethodName := ⟨RX1, "<init>", "()V"⟩
abbrev cX1_take : ByteArray := prog_3_method_2_code
def yX1_take : MethodName := ⟨RX1, "take", "(LImageLoader$Tape;II)V"⟩
abbrev cX1_isAlignSound : ByteArray := prog_3_method_3_code
def yX1_isAlignSound : MethodName := ⟨RX1, "isAlignSound", "()Z"⟩
abbrev cX1_isAligned : ByteArray := prog_3_method_4_code
def yX1_isAligned : MethodName := ⟨RX1, "isAligned", "()Z"⟩
abbrev cX1_isInSpace : ByteArray := prog_3_method_5_code
def yX1_isInSpace : MethodName := ⟨RX1, "isInSpace", "()Z"⟩
abbrev cX1_holds : ByteArray := prog_3_method_6_code
def yX1_holds : MethodName := ⟨RX1, "holds", "(J)Z"⟩
abbrev cX1_firstPage : ByteArray := prog_3_method_7_code
def yX1_firstPage : MethodName := ⟨RX1, "firstPage", "()I"⟩
abbrev cX1_lastPage : ByteArray := prog_3_method_8_code
def yX1_lastPage : MethodName := ⟨RX1, "lastPage", "()I"⟩
abbrev cX1_pages : ByteArray := prog_3_method_9_code
def yX1_pages : MethodName := ⟨RX1, "pages", "()I"⟩
abbrev cX1_sharesPageWith : ByteArray := prog_3_method_10_code
def yX1_sharesPageWith : MethodName := ⟨RX1, "sharesPageWith", "(LImageLoader$Segment;)Z"⟩
abbrev cX1_lay : ByteArray := prog_3_method_11_code
def yX1_lay : MethodName := ⟨RX1, "lay", "(LImageLoader$Tape;LImageLoader$Space;)V"⟩
def RX2 : String := "ImageLoader$Space"
def TX2 : u_T := fun k => match k with
  | 0 => ("ImageLoader$Space", "bytes", "[B", true)
  | 1 => ("ImageLoader$Space", "pageRights", "[I", true)
  | 2 => ("ImageLoader$Space", "frames", "I", true)
  | _ => ("ImageLoader$Space", "mapped", "I", false)
def tyX2 : Nat → FieldType := fun k => match k with
  | 0 => .array .byte
  | 1 => .array .int
  | 2 => .int
  | _ => .int
abbrev wsX20 : List Cond := u_ws RX2 TX2 4
theorem nmX2 : ∀ a, a < 4 → ∀ b, b < 4 → a ≠ b → (TX2 a).2.1 ≠ (TX2 b).2.1 := by decide +kernel
theorem tyX2_ok : ∀ k, k < 4 → parseFieldDescriptor (TX2 k).2.2.1 = some (tyX2 k) := by decide +kernel
abbrev cX2_init : ByteArray := prog_4_method_1_code
def yX2_init : MethodName := ⟨RX2, "<init>", "(I)V"⟩
abbrev cX2_frames : ByteArray := prog_4_method_2_code
def yX2_frames : MethodName := ⟨RX2, "frames", "()I"⟩
abbrev cX2_mappedPages : ByteArray := prog_4_method_3_code
def yX2_mappedPages : MethodName := ⟨RX2, "mappedPages", "()I"⟩
abbrev cX2_freeFrames : ByteArray := prog_4_method_4_code
def yX2_freeFrames : MethodName := ⟨RX2, "freeFrames", "()I"⟩
abbrev cX2_rightsOf : ByteArray := prog_4_method_5_code
def yX2_rightsOf : MethodName := ⟨RX2, "rightsOf", "(I)I"⟩
abbrev cX2_setRights : ByteArray := prog_4_method_6_code
def yX2_setRights : MethodName := ⟨RX2, "setRights", "(II)V"⟩
abbrev cX2_anyMapped : ByteArray := prog_4_method_7_code
def yX2_anyMapped : MethodName := ⟨RX2, "anyMapped", "(II)Z"⟩
abbrev cX2_pagesWith : ByteArray := prog_4_method_8_code
def yX2_pagesWith : MethodName := ⟨RX2, "pagesWith", "(I)I"⟩
abbrev cX2_mapAll : ByteArray := prog_4_method_9_code
def yX2_mapAll : MethodName := ⟨RX2, "mapAll", "(III)V"⟩
abbrev cX2_clear : ByteArray := prog_4_method_10_code
def yX2_clear : MethodName := ⟨RX2, "clear", "(I)V"⟩
abbrev cX2_releaseAll : ByteArray := prog_4_method_11_code
def yX2_releaseAll : MethodName := ⟨RX2, "releaseAll", "(II)V"⟩
abbrev cX2_refusal : ByteArray := prog_4_method_12_code
def yX2_refusal : MethodName := ⟨RX2, "refusal", "(III)I"⟩
abbrev cX2_byteAt : ByteArray := prog_4_method_13_code
def yX2_byteAt : MethodName := ⟨RX2, "byteAt", "(I)I"⟩
abbrev cX2_setByte : ByteArray := prog_4_method_14_code
def yX2_setByte : MethodName := ⟨RX2, "setByte", "(II)V"⟩
abbrev cX2_number : ByteArray := prog_4_method_15_code
def yX2_number : MethodName := ⟨RX2, "number", "(II)J"⟩
abbrev cX2_setNumber : ByteArray := prog_4_method_16_code
def yX2_setNumber : MethodName := ⟨RX2, "setNumber", "(III)V"⟩
abbrev cX2_sumOn : ByteArray := prog_4_method_17_code
def yX2_sumOn : MethodName := ⟨RX2, "sumOn", "(II)I"⟩
def RX3 : String := "ImageLoader$Tape"
def TX3 : u_T := fun k => match k with
  | 0 => ("ImageLoader$Tape", "bytes", "[B", true)
  | _ => ("ImageLoader$Tape", "size", "I", false)
def tyX3 : Nat → FieldType := fun k => match k with
  | 0 => .array .byte
  | _ => .int
abbrev wsX30 : List Cond := u_ws RX3 TX3 2
theorem nmX3 : ∀ a, a < 2 → ∀ b, b < 2 → a ≠ b → (TX3 a).2.1 ≠ (TX3 b).2.1 := by decide +kernel
theorem tyX3_ok : ∀ k, k < 2 → parseFieldDescriptor (TX3 k).2.2.1 = some (tyX3 k) := by decide +kernel
abbrev cX3_init : ByteArray := prog_5_method_1_code
def yX3_init : MethodName := ⟨RX3, "<init>", "()V"⟩
abbrev cX3_size : ByteArray := prog_5_method_2_code
def yX3_size : MethodName := ⟨RX3, "size", "()I"⟩
abbrev cX3_hasRoomFor : ByteArray := prog_5_method_3_code
def yX3_hasRoomFor : MethodName := ⟨RX3, "hasRoomFor", "(I)Z"⟩
abbrev cX3_has : ByteArray := prog_5_method_4_code
def yX3_has : MethodName := ⟨RX3, "has", "(JJ)Z"⟩
abbrev cX3_append : ByteArray := prog_5_method_5_code
def yX3_append : MethodName := ⟨RX3, "append", "(I)V"⟩
abbrev cX3_setByte : ByteArray := prog_5_method_6_code
def yX3_setByte : MethodName := ⟨RX3, "setByte", "(II)V"⟩
abbrev cX3_byteAt : ByteArray := prog_5_method_7_code
def yX3_byteAt : MethodName := ⟨RX3, "byteAt", "(I)I"⟩
abbrev cX3_half : ByteArray := prog_5_method_8_code
def yX3_half : MethodName := ⟨RX3, "half", "(I)I"⟩
abbrev cX3_word : ByteArray := prog_5_method_9_code
def yX3_word : MethodName := ⟨RX3, "word", "(I)J"⟩
abbrev cX3_lacksLastZero : ByteArray := prog_5_method_10_code
def yX3_lacksLastZero : MethodName := ⟨RX3, "lacksLastZero", "()Z"⟩
abbrev cX3_shorten : ByteArray := prog_5_method_11_code
def yX3_shorten : MethodName := ⟨RX3, "shorten", "(I)V"⟩
def RX4 : String := "ImageLoader"
def TX4 : u_T := fun k => match k with
  | 0 => ("ImageLoader", "tape", "LImageLoader$Tape;", true)
  | 1 => ("ImageLoader", "space", "LImageLoader$Space;", true)
  | 2 => ("ImageLoader", "image", "LImageLoader$Image;", true)
  | 3 => ("ImageLoader", "faultPlace", "I", false)
  | 4 => ("ImageLoader", "latestEntry", "I", false)
  | 5 => ("ImageLoader", "latestPages", "I", false)
  | 6 => ("ImageLoader", "latestBase", "I", false)
  | _ => ("ImageLoader", "imagesLoaded", "I", false)
def tyX4 : Nat → FieldType := fun k => match k with
  | 0 => .object "ImageLoader$Tape"
  | 1 => .object "ImageLoader$Space"
  | 2 => .object "ImageLoader$Image"
  | 3 => .int
  | 4 => .int
  | 5 => .int
  | 6 => .int
  | _ => .int
abbrev wsX40 : List Cond := u_ws RX4 TX4 8
theorem nmX4 : ∀ a, a < 8 → ∀ b, b < 8 → a ≠ b → (TX4 a).2.1 ≠ (TX4 b).2.1 := by decide +kernel
theorem tyX4_ok : ∀ k, k < 8 → parseFieldDescriptor (TX4 k).2.2.1 = some (tyX4 k) := by decide +kernel
abbrev cX4_init : ByteArray := prog_1_method_1_code
def yX4_init : MethodName := ⟨RX4, "<init>", "(I)V"⟩
abbrev cX4_add : ByteArray := prog_1_method_2_code
def yX4_add : MethodName := ⟨RX4, "add", "(JI)I"⟩
abbrev cX4_zeros : ByteArray := prog_1_method_3_code
def yX4_zeros : MethodName := ⟨RX4, "zeros", "(I)I"⟩
abbrev cX4_poke : ByteArray := prog_1_method_4_code
def yX4_poke : MethodName := ⟨RX4, "poke", "(III)I"⟩
abbrev cX4_peek : ByteArray := prog_1_method_5_code
def yX4_peek : MethodName := ⟨RX4, "peek", "(I)I"⟩
abbrev cX4_cut : ByteArray := prog_1_method_6_code
def yX4_cut : MethodName := ⟨RX4, "cut", "(I)I"⟩
abbrev cX4_load : ByteArray := prog_1_method_7_code
def yX4_load : MethodName := ⟨RX4, "load", "(I)I"⟩
abbrev cX4_told : ByteArray := prog_1_method_8_code
def yX4_told : MethodName := ⟨RX4, "told", "(I)I"⟩
abbrev cX4_stack : ByteArray := prog_1_method_9_code
def yX4_stack : MethodName := ⟨RX4, "stack", "(I)I"⟩
abbrev cX4_read : ByteArray := prog_1_method_10_code
def yX4_read : MethodName := ⟨RX4, "read", "(II)J"⟩
abbrev cX4_write : ByteArray := prog_1_method_11_code
def yX4_write : MethodName := ⟨RX4, "write", "(III)I"⟩
abbrev cX4_fetch : ByteArray := prog_1_method_12_code
def yX4_fetch : MethodName := ⟨RX4, "fetch", "(I)J"⟩
abbrev cX4_protect : ByteArray := prog_1_method_13_code
def yX4_protect : MethodName := ⟨RX4, "protect", "(II)I"⟩
abbrev cX4_unmap : ByteArray := prog_1_method_14_code
def yX4_unmap : MethodName := ⟨RX4, "unmap", "(II)I"⟩
abbrev cX4_rights : ByteArray := prog_1_method_15_code
def yX4_rights : MethodName := ⟨RX4, "rights", "(I)I"⟩
abbrev cX4_count : ByteArray := prog_1_method_16_code
def yX4_count : MethodName := ⟨RX4, "count", "(I)I"⟩
abbrev cX4_sum : ByteArray := prog_1_method_17_code
def yX4_sum : MethodName := ⟨RX4, "sum", "(II)I"⟩
abbrev cX4_stackPointer : ByteArray := prog_1_method_18_code
def yX4_stackPointer : MethodName := ⟨RX4, "stackPointer", "()I"⟩
abbrev cX4_argumentBytes : ByteArray := prog_1_method_19_code
def yX4_argumentBytes : MethodName := ⟨RX4, "argumentBytes", "()I"⟩
abbrev cX4_argumentCount : ByteArray := prog_1_method_20_code
def yX4_argumentCount : MethodName := ⟨RX4, "argumentCount", "()I"⟩
abbrev cX4_layArguments : ByteArray := prog_1_method_21_code
def yX4_layArguments : MethodName := ⟨RX4, "layArguments", "(I)V"⟩
abbrev cX4_isSize : ByteArray := prog_1_method_22_code
def yX4_isSize : MethodName := ⟨RX4, "isSize", "(I)Z"⟩
abbrev cX4_isPage : ByteArray := prog_1_method_23_code
def yX4_isPage : MethodName := ⟨RX4, "isPage", "(I)Z"⟩
abbrev cX4_arePages : ByteArray := prog_1_method_24_code
def yX4_arePages : MethodName := ⟨RX4, "arePages", "(II)Z"⟩
def RX5 : String := "ImageLoaderModel"
def TX5 : u_T := fun k => match k with
  | 0 => ("ImageLoaderModel", "thrown", "I", false)
  | 1 => ("ImageLoaderModel", "frames", "I", true)
  | 2 => ("ImageLoaderModel", "size", "I", false)
  | 3 => ("ImageLoaderModel", "tape", "[I", true)
  | 4 => ("ImageLoaderModel", "mapped", "[Z", true)
  | 5 => ("ImageLoaderModel", "rights", "[I", true)
  | 6 => ("ImageLoaderModel", "memory", "[I", true)
  | 7 => ("ImageLoaderModel", "segments", "I", false)
  | 8 => ("ImageLoaderModel", "begins", "[J", true)
  | 9 => ("ImageLoaderModel", "held", "[J", true)
  | 10 => ("ImageLoaderModel", "offsets", "[I", true)
  | 11 => ("ImageLoaderModel", "filed", "[I", true)
  | 12 => ("ImageLoaderModel", "may", "[I", true)
  | 13 => ("ImageLoaderModel", "wanted", "[Z", true)
  | 14 => ("ImageLoaderModel", "wants", "I", false)
  | 15 => ("ImageLoaderModel", "base", "I", false)
  | 16 => ("ImageLoaderModel", "dynamic", "I", false)
  | 17 => ("ImageLoaderModel", "known", "[J", true)
  | 18 => ("ImageLoaderModel", "fault", "I", false)
  | 19 => ("ImageLoaderModel", "place", "I", false)
  | 20 => ("ImageLoaderModel", "entry", "I", false)
  | 21 => ("ImageLoaderModel", "pages", "I", false)
  | 22 => ("ImageLoaderModel", "counted", "I", false)
  | _ => ("ImageLoaderModel", "images", "I", false)
def tyX5 : Nat → FieldType := fun k => match k with
  | 0 => .int
  | 1 => .int
  | 2 => .int
  | 3 => .array .int
  | 4 => .array .boolean
  | 5 => .array .int
  | 6 => .array .int
  | 7 => .int
  | 8 => .array .long
  | 9 => .array .long
  | 10 => .array .int
  | 11 => .array .int
  | 12 => .array .int
  | 13 => .array .boolean
  | 14 => .int
  | 15 => .int
  | 16 => .int
  | 17 => .array .long
  | 18 => .int
  | 19 => .int
  | 20 => .int
  | 21 => .int
  | 22 => .int
  | _ => .int
abbrev wsX50 : List Cond := u_ws RX5 TX5 24
theorem nmX5 : ∀ a, a < 24 → ∀ b, b < 24 → a ≠ b → (TX5 a).2.1 ≠ (TX5 b).2.1 := by decide +kernel
theorem tyX5_ok : ∀ k, k < 24 → parseFieldDescriptor (TX5 k).2.2.1 = some (tyX5 k) := by decide +kernel
abbrev cX5_init : ByteArray := prog_7_method_1_code
def yX5_init : MethodName := ⟨RX5, "<init>", "(I)V"⟩
abbrev cX5_in : ByteArray := prog_7_method_3_code
def yX5_in : MethodName := ⟨RX5, "in", "(III)Z"⟩
abbrev cX5_add : ByteArray := prog_7_method_4_code
def yX5_add : MethodName := ⟨RX5, "add", "(JI)I"⟩
abbrev cX5_zeros : ByteArray := prog_7_method_5_code
def yX5_zeros : MethodName := ⟨RX5, "zeros", "(I)I"⟩
abbrev cX5_isWide : ByteArray := prog_7_method_6_code
def yX5_isWide : MethodName := ⟨RX5, "isWide", "(I)Z"⟩
abbrev cX5_poke : ByteArray := prog_7_method_7_code
def yX5_poke : MethodName := ⟨RX5, "poke", "(III)I"⟩
abbrev cX5_peek : ByteArray := prog_7_method_8_code
def yX5_peek : MethodName := ⟨RX5, "peek", "(I)I"⟩
abbrev cX5_cut : ByteArray := prog_7_method_9_code
def yX5_cut : MethodName := ⟨RX5, "cut", "(I)I"⟩
abbrev cX5_half : ByteArray := prog_7_method_10_code
def yX5_half : MethodName := ⟨RX5, "half", "(I)I"⟩
abbrev cX5_word : ByteArray := prog_7_method_11_code
def yX5_word : MethodName := ⟨RX5, "word", "(I)J"⟩
abbrev cX5_fail : ByteArray := prog_7_method_12_code
def yX5_fail : MethodName := ⟨RX5, "fail", "(II)Z"⟩
abbrev cX5_isHeader : ByteArray := prog_7_method_13_code
def yX5_isHeader : MethodName := ⟨RX5, "isHeader", "()Z"⟩
abbrev cX5_mappedPages : ByteArray := prog_7_method_14_code
def yX5_mappedPages : MethodName := ⟨RX5, "mappedPages", "()I"⟩
abbrev cX5_isSegment : ByteArray := prog_7_method_15_code
def yX5_isSegment : MethodName := ⟨RX5, "isSegment", "(I)Z"⟩
abbrev cX5_isDynamic : ByteArray := prog_7_method_16_code
def yX5_isDynamic : MethodName := ⟨RX5, "isDynamic", "(I)Z"⟩
abbrev cX5_areHeads : ByteArray := prog_7_method_17_code
def yX5_areHeads : MethodName := ⟨RX5, "areHeads", "()Z"⟩
abbrev cX5_arePairs : ByteArray := prog_7_method_18_code
def yX5_arePairs : MethodName := ⟨RX5, "arePairs", "()Z"⟩
abbrev cX5_lay : ByteArray := prog_7_method_19_code
def yX5_lay : MethodName := ⟨RX5, "lay", "()V"⟩
abbrev cX5_unlay : ByteArray := prog_7_method_20_code
def yX5_unlay : MethodName := ⟨RX5, "unlay", "()V"⟩
abbrev cX5_areHeld : ByteArray := prog_7_method_21_code
def yX5_areHeld : MethodName := ⟨RX5, "areHeld", "(JI)Z"⟩
abbrev cX5_wordIn : ByteArray := prog_7_method_22_code
def yX5_wordIn : MethodName := ⟨RX5, "wordIn", "(J)J"⟩
abbrev cX5_put : ByteArray := prog_7_method_23_code
def yX5_put : MethodName := ⟨RX5, "put", "(JJ)V"⟩
abbrev cX5_relocate : ByteArray := prog_7_method_24_code
def yX5_relocate : MethodName := ⟨RX5, "relocate", "(I)Z"⟩
abbrev cX5_relocations : ByteArray := prog_7_method_25_code
def yX5_relocations : MethodName := ⟨RX5, "relocations", "()Z"⟩
abbrev cX5_load : ByteArray := prog_7_method_26_code
def yX5_load : MethodName := ⟨RX5, "load", "(I)I"⟩
abbrev cX5_told : ByteArray := prog_7_method_27_code
def yX5_told : MethodName := ⟨RX5, "told", "(I)I"⟩
abbrev cX5_stack : ByteArray := prog_7_method_28_code
def yX5_stack : MethodName := ⟨RX5, "stack", "(I)I"⟩
abbrev cX5_refusal : ByteArray := prog_7_method_29_code
def yX5_refusal : MethodName := ⟨RX5, "refusal", "(III)I"⟩
abbrev cX5_have : ByteArray := prog_7_method_30_code
def yX5_have : MethodName := ⟨RX5, "have", "(III)J"⟩
abbrev cX5_read : ByteArray := prog_7_method_31_code
def yX5_read : MethodName := ⟨RX5, "read", "(II)J"⟩
abbrev cX5_write : ByteArray := prog_7_method_32_code
def yX5_write : MethodName := ⟨RX5, "write", "(III)I"⟩
abbrev cX5_fetch : ByteArray := prog_7_method_33_code
def yX5_fetch : MethodName := ⟨RX5, "fetch", "(I)J"⟩
abbrev cX5_isPage : ByteArray := prog_7_method_34_code
def yX5_isPage : MethodName := ⟨RX5, "isPage", "(I)Z"⟩
abbrev cX5_protect : ByteArray := prog_7_method_35_code
def yX5_protect : MethodName := ⟨RX5, "protect", "(II)I"⟩
abbrev cX5_unmap : ByteArray := prog_7_method_36_code
def yX5_unmap : MethodName := ⟨RX5, "unmap", "(II)I"⟩
abbrev cX5_rights : ByteArray := prog_7_method_37_code
def yX5_rights : MethodName := ⟨RX5, "rights", "(I)I"⟩
abbrev cX5_with : ByteArray := prog_7_method_38_code
def yX5_with : MethodName := ⟨RX5, "with", "(I)I"⟩
abbrev cX5_count : ByteArray := prog_7_method_39_code
def yX5_count : MethodName := ⟨RX5, "count", "(I)I"⟩
abbrev cX5_sum : ByteArray := prog_7_method_40_code
def yX5_sum : MethodName := ⟨RX5, "sum", "(II)I"⟩
def RJ13 : String := "java/lang/Long"
def TJ13 : u_T := fun k => match k with
  | _ => ("", "", "", false)
def tyJ13 : Nat → FieldType := fun k => match k with
  | _ => .int
abbrev wsJ130 : List Cond := u_ws RJ13 TJ13 0
theorem nmJ13 : ∀ a, a < 0 → ∀ b, b < 0 → a ≠ b → (TJ13 a).2.1 ≠ (TJ13 b).2.1 := by decide +kernel
theorem tyJ13_ok : ∀ k, k < 0 → parseFieldDescriptor (TJ13 k).2.2.1 = some (tyJ13 k) := by decide +kernel
abbrev cJ13_bitCount_95d88 : ByteArray := prog_8_method_50_code
def yJ13_bitCount_95d88 : MethodName := ⟨RJ13, "bitCount", "(J)I"⟩
def RJ9 : String := "java/lang/Math"
def TJ9 : u_T := fun k => match k with
  | _ => ("", "", "", false)
def tyJ9 : Nat → FieldType := fun k => match k with
  | _ => .int
abbrev wsJ90 : List Cond := u_ws RJ9 TJ9 0
theorem nmJ9 : ∀ a, a < 0 → ∀ b, b < 0 → a ≠ b → (TJ9 a).2.1 ≠ (TJ9 b).2.1 := by decide +kernel
theorem tyJ9_ok : ∀ k, k < 0 → parseFieldDescriptor (TJ9 k).2.2.1 = some (tyJ9 k) := by decide +kernel
abbrev cJ9_floorDiv_7cf53 : ByteArray := prog_9_method_47_code
def yJ9_floorDiv_7cf53 : MethodName := ⟨RJ9, "floorDiv", "(II)I"⟩
abbrev cJ9_floorMod_7cf53 : ByteArray := prog_9_method_50_code
def yJ9_floorMod_7cf53 : MethodName := ⟨RJ9, "floorMod", "(II)I"⟩
abbrev cJ9_max_7cf53 : ByteArray := prog_9_method_65_code
def yJ9_max_7cf53 : MethodName := ⟨RJ9, "max", "(II)I"⟩
abbrev cJ9_min_7cf53 : ByteArray := prog_9_method_69_code
def yJ9_min_7cf53 : MethodName := ⟨RJ9, "min", "(II)I"⟩
abbrev cJ9_min_f86c9 : ByteArray := prog_9_method_70_code
def yJ9_min_f86c9 : MethodName := ⟨RJ9, "min", "(JJ)J"⟩
def RL : String := "ImageLoaderLaw"
abbrev cL_cell : ByteArray := method_2_code
def yL_cell : MethodName := ⟨RL, "cell", "([II)I"⟩
abbrev cL_law : ByteArray := code
def yL_law : MethodName := ⟨RL, "law", "([I)Z"⟩
abbrev vwCl : List vw_C := [(RX0, TX0, 13), (RX1, TX1, 7), (RX2, TX2, 4), (RX3, TX3, 2), (RX4, TX4, 8), (RX5, TX5, 24)]
