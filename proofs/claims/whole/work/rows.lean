section
-- ===== PART A: goes FIRST, ahead of the names: the tables' words, and 'selects' of the private methods out of them =====
/-- a private method of a class that the tables say can be made, by its rows of tables_1 -/
def lw_okq (q : MethodName × Nat) : Prop := (q.1.cls ≠ "java/lang/invoke/MethodHandle" ∧ q.1.cls ≠ "java/lang/invoke/VarHandle") ∧ Cond.instantiable q.1.cls q.2 ∈ tables_1 ∧ Cond.privateMethod q.1 ∈ tables_1 ∧ Cond.instanceMethod q.1 ∈ tables_1
theorem lw_p0 : lw_okq (⟨"ImageLoader$Image", "forget", "()V"⟩, 13) := ⟨⟨by decide +kernel, by decide +kernel⟩, List.mem_of_getElem? (i := 58) (by decide +kernel), List.mem_of_getElem? (i := 97) (by decide +kernel), List.mem_of_getElem? (i := 98) (by decide +kernel)⟩
theorem lw_p1 : lw_okq (⟨"ImageLoader$Image", "headerFault", "(LImageLoader$Tape;)I"⟩, 13) := ⟨⟨by decide +kernel, by decide +kernel⟩, List.mem_of_getElem? (i := 58) (by decide +kernel), List.mem_of_getElem? (i := 225) (by decide +kernel), List.mem_of_getElem? (i := 226) (by decide +kernel)⟩
theorem lw_p2 : lw_okq (⟨"ImageLoader$Image", "fault", "(II)I"⟩, 13) := ⟨⟨by decide +kernel, by decide +kernel⟩, List.mem_of_getElem? (i := 58) (by decide +kernel), List.mem_of_getElem? (i := 230) (by decide +kernel), List.mem_of_getElem? (i := 231) (by decide +kernel)⟩
theorem lw_p3 : lw_okq (⟨"ImageLoader$Image", "headsFault", "(LImageLoader$Tape;LImageLoader$Space;)I"⟩, 13) := ⟨⟨by decide +kernel, by decide +kernel⟩, List.mem_of_getElem? (i := 58) (by decide +kernel), List.mem_of_getElem? (i := 248) (by decide +kernel), List.mem_of_getElem? (i := 249) (by decide +kernel)⟩
theorem lw_p4 : lw_okq (⟨"ImageLoader$Image", "segmentFault", "(LImageLoader$Tape;LImageLoader$Space;I)I"⟩, 13) := ⟨⟨by decide +kernel, by decide +kernel⟩, List.mem_of_getElem? (i := 58) (by decide +kernel), List.mem_of_getElem? (i := 253) (by decide +kernel), List.mem_of_getElem? (i := 254) (by decide +kernel)⟩
theorem lw_p5 : lw_okq (⟨"ImageLoader$Image", "meetsEarlier", "(LImageLoader$Segment;)Z"⟩, 13) := ⟨⟨by decide +kernel, by decide +kernel⟩, List.mem_of_getElem? (i := 58) (by decide +kernel), List.mem_of_getElem? (i := 302) (by decide +kernel), List.mem_of_getElem? (i := 303) (by decide +kernel)⟩
theorem lw_p6 : lw_okq (⟨"ImageLoader$Image", "dynamicHeadFault", "(LImageLoader$Tape;I)I"⟩, 13) := ⟨⟨by decide +kernel, by decide +kernel⟩, List.mem_of_getElem? (i := 58) (by decide +kernel), List.mem_of_getElem? (i := 321) (by decide +kernel), List.mem_of_getElem? (i := 322) (by decide +kernel)⟩
theorem lw_p7 : lw_okq (⟨"ImageLoader$Image", "entryFault", "(LImageLoader$Tape;)I"⟩, 13) := ⟨⟨by decide +kernel, by decide +kernel⟩, List.mem_of_getElem? (i := 58) (by decide +kernel), List.mem_of_getElem? (i := 326) (by decide +kernel), List.mem_of_getElem? (i := 327) (by decide +kernel)⟩
theorem lw_p8 : lw_okq (⟨"ImageLoader$Image", "dynamicFault", "(LImageLoader$Tape;)I"⟩, 13) := ⟨⟨by decide +kernel, by decide +kernel⟩, List.mem_of_getElem? (i := 58) (by decide +kernel), List.mem_of_getElem? (i := 334) (by decide +kernel), List.mem_of_getElem? (i := 335) (by decide +kernel)⟩
theorem lw_p9 : lw_okq (⟨"ImageLoader$Image", "takeDynamicPairs", "(LImageLoader$Tape;)V"⟩, 13) := ⟨⟨by decide +kernel, by decide +kernel⟩, List.mem_of_getElem? (i := 58) (by decide +kernel), List.mem_of_getElem? (i := 338) (by decide +kernel), List.mem_of_getElem? (i := 339) (by decide +kernel)⟩
theorem lw_p10 : lw_okq (⟨"ImageLoader$Image", "takeDynamicPair", "(JJ)V"⟩, 13) := ⟨⟨by decide +kernel, by decide +kernel⟩, List.mem_of_getElem? (i := 58) (by decide +kernel), List.mem_of_getElem? (i := 342) (by decide +kernel), List.mem_of_getElem? (i := 343) (by decide +kernel)⟩
theorem lw_p11 : lw_okq (⟨"ImageLoader$Image", "lay", "(LImageLoader$Tape;LImageLoader$Space;)V"⟩, 13) := ⟨⟨by decide +kernel, by decide +kernel⟩, List.mem_of_getElem? (i := 58) (by decide +kernel), List.mem_of_getElem? (i := 352) (by decide +kernel), List.mem_of_getElem? (i := 353) (by decide +kernel)⟩
theorem lw_p12 : lw_okq (⟨"ImageLoader$Space", "clear", "(I)V"⟩, 4) := ⟨⟨by decide +kernel, by decide +kernel⟩, List.mem_of_getElem? (i := 32) (by decide +kernel), List.mem_of_getElem? (i := 368) (by decide +kernel), List.mem_of_getElem? (i := 369) (by decide +kernel)⟩
theorem lw_p13 : lw_okq (⟨"ImageLoader$Image", "relocationsFault", "(LImageLoader$Space;)I"⟩, 13) := ⟨⟨by decide +kernel, by decide +kernel⟩, List.mem_of_getElem? (i := 58) (by decide +kernel), List.mem_of_getElem? (i := 382) (by decide +kernel), List.mem_of_getElem? (i := 383) (by decide +kernel)⟩
theorem lw_p14 : lw_okq (⟨"ImageLoader$Image", "relocationFault", "(LImageLoader$Space;I)I"⟩, 13) := ⟨⟨by decide +kernel, by decide +kernel⟩, List.mem_of_getElem? (i := 58) (by decide +kernel), List.mem_of_getElem? (i := 386) (by decide +kernel), List.mem_of_getElem? (i := 387) (by decide +kernel)⟩
theorem lw_p15 : lw_okq (⟨"ImageLoader$Image", "areHeld", "(II)Z"⟩, 13) := ⟨⟨by decide +kernel, by decide +kernel⟩, List.mem_of_getElem? (i := 58) (by decide +kernel), List.mem_of_getElem? (i := 390) (by decide +kernel), List.mem_of_getElem? (i := 391) (by decide +kernel)⟩
def lw_privs_1 : List (MethodName × Nat) := [(⟨"ImageLoader$Image", "forget", "()V"⟩, 13), (⟨"ImageLoader$Image", "headerFault", "(LImageLoader$Tape;)I"⟩, 13), (⟨"ImageLoader$Image", "fault", "(II)I"⟩, 13), (⟨"ImageLoader$Image", "headsFault", "(LImageLoader$Tape;LImageLoader$Space;)I"⟩, 13), (⟨"ImageLoader$Image", "segmentFault", "(LImageLoader$Tape;LImageLoader$Space;I)I"⟩, 13), (⟨"ImageLoader$Image", "meetsEarlier", "(LImageLoader$Segment;)Z"⟩, 13), (⟨"ImageLoader$Image", "dynamicHeadFault", "(LImageLoader$Tape;I)I"⟩, 13), (⟨"ImageLoader$Image", "entryFault", "(LImageLoader$Tape;)I"⟩, 13), (⟨"ImageLoader$Image", "dynamicFault", "(LImageLoader$Tape;)I"⟩, 13), (⟨"ImageLoader$Image", "takeDynamicPairs", "(LImageLoader$Tape;)V"⟩, 13), (⟨"ImageLoader$Image", "takeDynamicPair", "(JJ)V"⟩, 13), (⟨"ImageLoader$Image", "lay", "(LImageLoader$Tape;LImageLoader$Space;)V"⟩, 13), (⟨"ImageLoader$Space", "clear", "(I)V"⟩, 4), (⟨"ImageLoader$Image", "relocationsFault", "(LImageLoader$Space;)I"⟩, 13), (⟨"ImageLoader$Image", "relocationFault", "(LImageLoader$Space;I)I"⟩, 13), (⟨"ImageLoader$Image", "areHeld", "(II)Z"⟩, 13)]
theorem lw_r1 : ∀ q ∈ lw_privs_1, lw_okq q := List.forall_mem_cons.mpr ⟨lw_p0, List.forall_mem_cons.mpr ⟨lw_p1, List.forall_mem_cons.mpr ⟨lw_p2, List.forall_mem_cons.mpr ⟨lw_p3, List.forall_mem_cons.mpr ⟨lw_p4, List.forall_mem_cons.mpr ⟨lw_p5, List.forall_mem_cons.mpr ⟨lw_p6, List.forall_mem_cons.mpr ⟨lw_p7, List.forall_mem_cons.mpr ⟨lw_p8, List.forall_mem_cons.mpr ⟨lw_p9, List.forall_mem_cons.mpr ⟨lw_p10, List.forall_mem_cons.mpr ⟨lw_p11, List.forall_mem_cons.mpr ⟨lw_p12, List.forall_mem_cons.mpr ⟨lw_p13, List.forall_mem_cons.mpr ⟨lw_p14, List.forall_mem_cons.mpr ⟨lw_p15, fun _ h => absurd h List.not_mem_nil⟩⟩⟩⟩⟩⟩⟩⟩⟩⟩⟩⟩⟩⟩⟩⟩
theorem lw_p16 : lw_okq (⟨"ImageLoader$Image", "symbolFault", "(LImageLoader$Space;III)I"⟩, 13) := ⟨⟨by decide +kernel, by decide +kernel⟩, List.mem_of_getElem? (i := 58) (by decide +kernel), List.mem_of_getElem? (i := 402) (by decide +kernel), List.mem_of_getElem? (i := 403) (by decide +kernel)⟩
theorem lw_p17 : lw_okq (⟨"ImageLoader$Image", "takeBack", "(LImageLoader$Space;)V"⟩, 13) := ⟨⟨by decide +kernel, by decide +kernel⟩, List.mem_of_getElem? (i := 58) (by decide +kernel), List.mem_of_getElem? (i := 411) (by decide +kernel), List.mem_of_getElem? (i := 412) (by decide +kernel)⟩
theorem lw_p18 : lw_okq (⟨"ImageLoader", "stackPointer", "()I"⟩, 8) := ⟨⟨by decide +kernel, by decide +kernel⟩, List.mem_of_getElem? (i := 10) (by decide +kernel), List.mem_of_getElem? (i := 449) (by decide +kernel), List.mem_of_getElem? (i := 450) (by decide +kernel)⟩
theorem lw_p19 : lw_okq (⟨"ImageLoader", "argumentCount", "()I"⟩, 8) := ⟨⟨by decide +kernel, by decide +kernel⟩, List.mem_of_getElem? (i := 10) (by decide +kernel), List.mem_of_getElem? (i := 453) (by decide +kernel), List.mem_of_getElem? (i := 454) (by decide +kernel)⟩
theorem lw_p20 : lw_okq (⟨"ImageLoader", "argumentBytes", "()I"⟩, 8) := ⟨⟨by decide +kernel, by decide +kernel⟩, List.mem_of_getElem? (i := 10) (by decide +kernel), List.mem_of_getElem? (i := 461) (by decide +kernel), List.mem_of_getElem? (i := 462) (by decide +kernel)⟩
theorem lw_p21 : lw_okq (⟨"ImageLoader", "layArguments", "(I)V"⟩, 8) := ⟨⟨by decide +kernel, by decide +kernel⟩, List.mem_of_getElem? (i := 10) (by decide +kernel), List.mem_of_getElem? (i := 469) (by decide +kernel), List.mem_of_getElem? (i := 470) (by decide +kernel)⟩
theorem lw_p22 : lw_okq (⟨"ImageLoaderModel", "isHeader", "()Z"⟩, 24) := ⟨⟨by decide +kernel, by decide +kernel⟩, List.mem_of_getElem? (i := 542) (by decide +kernel), List.mem_of_getElem? (i := 654) (by decide +kernel), List.mem_of_getElem? (i := 655) (by decide +kernel)⟩
theorem lw_p23 : lw_okq (⟨"ImageLoaderModel", "fail", "(II)Z"⟩, 24) := ⟨⟨by decide +kernel, by decide +kernel⟩, List.mem_of_getElem? (i := 542) (by decide +kernel), List.mem_of_getElem? (i := 658) (by decide +kernel), List.mem_of_getElem? (i := 659) (by decide +kernel)⟩
theorem lw_p24 : lw_okq (⟨"ImageLoaderModel", "half", "(I)I"⟩, 24) := ⟨⟨by decide +kernel, by decide +kernel⟩, List.mem_of_getElem? (i := 542) (by decide +kernel), List.mem_of_getElem? (i := 662) (by decide +kernel), List.mem_of_getElem? (i := 663) (by decide +kernel)⟩
theorem lw_p25 : lw_okq (⟨"ImageLoaderModel", "word", "(I)J"⟩, 24) := ⟨⟨by decide +kernel, by decide +kernel⟩, List.mem_of_getElem? (i := 542) (by decide +kernel), List.mem_of_getElem? (i := 666) (by decide +kernel), List.mem_of_getElem? (i := 667) (by decide +kernel)⟩
theorem lw_p26 : lw_okq (⟨"ImageLoaderModel", "areHeads", "()Z"⟩, 24) := ⟨⟨by decide +kernel, by decide +kernel⟩, List.mem_of_getElem? (i := 542) (by decide +kernel), List.mem_of_getElem? (i := 671) (by decide +kernel), List.mem_of_getElem? (i := 672) (by decide +kernel)⟩
theorem lw_p27 : lw_okq (⟨"ImageLoaderModel", "isSegment", "(I)Z"⟩, 24) := ⟨⟨by decide +kernel, by decide +kernel⟩, List.mem_of_getElem? (i := 542) (by decide +kernel), List.mem_of_getElem? (i := 675) (by decide +kernel), List.mem_of_getElem? (i := 676) (by decide +kernel)⟩
theorem lw_p28 : lw_okq (⟨"ImageLoaderModel", "mappedPages", "()I"⟩, 24) := ⟨⟨by decide +kernel, by decide +kernel⟩, List.mem_of_getElem? (i := 542) (by decide +kernel), List.mem_of_getElem? (i := 681) (by decide +kernel), List.mem_of_getElem? (i := 682) (by decide +kernel)⟩
theorem lw_p29 : lw_okq (⟨"ImageLoaderModel", "isDynamic", "(I)Z"⟩, 24) := ⟨⟨by decide +kernel, by decide +kernel⟩, List.mem_of_getElem? (i := 542) (by decide +kernel), List.mem_of_getElem? (i := 687) (by decide +kernel), List.mem_of_getElem? (i := 688) (by decide +kernel)⟩
theorem lw_p30 : lw_okq (⟨"ImageLoaderModel", "arePairs", "()Z"⟩, 24) := ⟨⟨by decide +kernel, by decide +kernel⟩, List.mem_of_getElem? (i := 542) (by decide +kernel), List.mem_of_getElem? (i := 692) (by decide +kernel), List.mem_of_getElem? (i := 693) (by decide +kernel)⟩
theorem lw_p31 : lw_okq (⟨"ImageLoaderModel", "lay", "()V"⟩, 24) := ⟨⟨by decide +kernel, by decide +kernel⟩, List.mem_of_getElem? (i := 542) (by decide +kernel), List.mem_of_getElem? (i := 698) (by decide +kernel), List.mem_of_getElem? (i := 699) (by decide +kernel)⟩
def lw_privs_2 : List (MethodName × Nat) := [(⟨"ImageLoader$Image", "symbolFault", "(LImageLoader$Space;III)I"⟩, 13), (⟨"ImageLoader$Image", "takeBack", "(LImageLoader$Space;)V"⟩, 13), (⟨"ImageLoader", "stackPointer", "()I"⟩, 8), (⟨"ImageLoader", "argumentCount", "()I"⟩, 8), (⟨"ImageLoader", "argumentBytes", "()I"⟩, 8), (⟨"ImageLoader", "layArguments", "(I)V"⟩, 8), (⟨"ImageLoaderModel", "isHeader", "()Z"⟩, 24), (⟨"ImageLoaderModel", "fail", "(II)Z"⟩, 24), (⟨"ImageLoaderModel", "half", "(I)I"⟩, 24), (⟨"ImageLoaderModel", "word", "(I)J"⟩, 24), (⟨"ImageLoaderModel", "areHeads", "()Z"⟩, 24), (⟨"ImageLoaderModel", "isSegment", "(I)Z"⟩, 24), (⟨"ImageLoaderModel", "mappedPages", "()I"⟩, 24), (⟨"ImageLoaderModel", "isDynamic", "(I)Z"⟩, 24), (⟨"ImageLoaderModel", "arePairs", "()Z"⟩, 24), (⟨"ImageLoaderModel", "lay", "()V"⟩, 24)]
theorem lw_r2 : ∀ q ∈ lw_privs_2, lw_okq q := List.forall_mem_cons.mpr ⟨lw_p16, List.forall_mem_cons.mpr ⟨lw_p17, List.forall_mem_cons.mpr ⟨lw_p18, List.forall_mem_cons.mpr ⟨lw_p19, List.forall_mem_cons.mpr ⟨lw_p20, List.forall_mem_cons.mpr ⟨lw_p21, List.forall_mem_cons.mpr ⟨lw_p22, List.forall_mem_cons.mpr ⟨lw_p23, List.forall_mem_cons.mpr ⟨lw_p24, List.forall_mem_cons.mpr ⟨lw_p25, List.forall_mem_cons.mpr ⟨lw_p26, List.forall_mem_cons.mpr ⟨lw_p27, List.forall_mem_cons.mpr ⟨lw_p28, List.forall_mem_cons.mpr ⟨lw_p29, List.forall_mem_cons.mpr ⟨lw_p30, List.forall_mem_cons.mpr ⟨lw_p31, fun _ h => absurd h List.not_mem_nil⟩⟩⟩⟩⟩⟩⟩⟩⟩⟩⟩⟩⟩⟩⟩⟩
theorem lw_p32 : lw_okq (⟨"ImageLoaderModel", "relocations", "()Z"⟩, 24) := ⟨⟨by decide +kernel, by decide +kernel⟩, List.mem_of_getElem? (i := 542) (by decide +kernel), List.mem_of_getElem? (i := 702) (by decide +kernel), List.mem_of_getElem? (i := 703) (by decide +kernel)⟩
theorem lw_p33 : lw_okq (⟨"ImageLoaderModel", "relocate", "(I)Z"⟩, 24) := ⟨⟨by decide +kernel, by decide +kernel⟩, List.mem_of_getElem? (i := 542) (by decide +kernel), List.mem_of_getElem? (i := 706) (by decide +kernel), List.mem_of_getElem? (i := 707) (by decide +kernel)⟩
theorem lw_p34 : lw_okq (⟨"ImageLoaderModel", "areHeld", "(JI)Z"⟩, 24) := ⟨⟨by decide +kernel, by decide +kernel⟩, List.mem_of_getElem? (i := 542) (by decide +kernel), List.mem_of_getElem? (i := 711) (by decide +kernel), List.mem_of_getElem? (i := 712) (by decide +kernel)⟩
theorem lw_p35 : lw_okq (⟨"ImageLoaderModel", "wordIn", "(J)J"⟩, 24) := ⟨⟨by decide +kernel, by decide +kernel⟩, List.mem_of_getElem? (i := 542) (by decide +kernel), List.mem_of_getElem? (i := 715) (by decide +kernel), List.mem_of_getElem? (i := 716) (by decide +kernel)⟩
theorem lw_p36 : lw_okq (⟨"ImageLoaderModel", "put", "(JJ)V"⟩, 24) := ⟨⟨by decide +kernel, by decide +kernel⟩, List.mem_of_getElem? (i := 542) (by decide +kernel), List.mem_of_getElem? (i := 720) (by decide +kernel), List.mem_of_getElem? (i := 721) (by decide +kernel)⟩
theorem lw_p37 : lw_okq (⟨"ImageLoaderModel", "unlay", "()V"⟩, 24) := ⟨⟨by decide +kernel, by decide +kernel⟩, List.mem_of_getElem? (i := 542) (by decide +kernel), List.mem_of_getElem? (i := 725) (by decide +kernel), List.mem_of_getElem? (i := 726) (by decide +kernel)⟩
theorem lw_p38 : lw_okq (⟨"ImageLoaderModel", "have", "(III)J"⟩, 24) := ⟨⟨by decide +kernel, by decide +kernel⟩, List.mem_of_getElem? (i := 542) (by decide +kernel), List.mem_of_getElem? (i := 741) (by decide +kernel), List.mem_of_getElem? (i := 742) (by decide +kernel)⟩
theorem lw_p39 : lw_okq (⟨"ImageLoaderModel", "refusal", "(III)I"⟩, 24) := ⟨⟨by decide +kernel, by decide +kernel⟩, List.mem_of_getElem? (i := 542) (by decide +kernel), List.mem_of_getElem? (i := 745) (by decide +kernel), List.mem_of_getElem? (i := 746) (by decide +kernel)⟩
theorem lw_p40 : lw_okq (⟨"ImageLoaderModel", "with", "(I)I"⟩, 24) := ⟨⟨by decide +kernel, by decide +kernel⟩, List.mem_of_getElem? (i := 542) (by decide +kernel), List.mem_of_getElem? (i := 776) (by decide +kernel), List.mem_of_getElem? (i := 777) (by decide +kernel)⟩
def lw_privs_3 : List (MethodName × Nat) := [(⟨"ImageLoaderModel", "relocations", "()Z"⟩, 24), (⟨"ImageLoaderModel", "relocate", "(I)Z"⟩, 24), (⟨"ImageLoaderModel", "areHeld", "(JI)Z"⟩, 24), (⟨"ImageLoaderModel", "wordIn", "(J)J"⟩, 24), (⟨"ImageLoaderModel", "put", "(JJ)V"⟩, 24), (⟨"ImageLoaderModel", "unlay", "()V"⟩, 24), (⟨"ImageLoaderModel", "have", "(III)J"⟩, 24), (⟨"ImageLoaderModel", "refusal", "(III)I"⟩, 24), (⟨"ImageLoaderModel", "with", "(I)I"⟩, 24)]
theorem lw_r3 : ∀ q ∈ lw_privs_3, lw_okq q := List.forall_mem_cons.mpr ⟨lw_p32, List.forall_mem_cons.mpr ⟨lw_p33, List.forall_mem_cons.mpr ⟨lw_p34, List.forall_mem_cons.mpr ⟨lw_p35, List.forall_mem_cons.mpr ⟨lw_p36, List.forall_mem_cons.mpr ⟨lw_p37, List.forall_mem_cons.mpr ⟨lw_p38, List.forall_mem_cons.mpr ⟨lw_p39, List.forall_mem_cons.mpr ⟨lw_p40, fun _ h => absurd h List.not_mem_nil⟩⟩⟩⟩⟩⟩⟩⟩⟩
def lw_privs : List (MethodName × Nat) := lw_privs_1 ++ (lw_privs_2 ++ (lw_privs_3))
def lw_tbl : List Cond := k2_sels lw_privs ++ tables_1
theorem lw_privs_ok : ∀ q ∈ lw_privs, lw_okq q := by
  show ∀ q ∈ lw_privs_1 ++ (lw_privs_2 ++ (lw_privs_3)), lw_okq q
  exact List.forall_mem_append.mpr ⟨lw_r1, List.forall_mem_append.mpr ⟨lw_r2, lw_r3⟩⟩
def RX0 : String := "ImageLoader$Image"
def TX0 : u_T := fun k => match k with
  | 0 => ("ImageLoader$Image", "segments", "[LImageLoader$Segment;", true)
  | 1 => ("ImageLoader$Image", "segmentCount", "I", false)
  | 2 => ("ImageLoader$Image", "faultPlace", "I", false)
  | 3 => ("ImageLoader$Image", "base", "I", false)
  | 4 => ("ImageLoader$Image", "entry", "I", false)
  | 5 => ("ImageLoader$Image", "pagesWanted", "I", false)
  | 6 => ("ImageLoader$Image", "dynamicHead", "I", false)
  | 7 => ("ImageLoader$Image", "relocations", "J", false)
  | 8 => ("ImageLoader$Image", "relocationsBytes", "J", false)
  | 9 => ("ImageLoader$Image", "relocationBytes", "J", false)
  | 10 => ("ImageLoader$Image", "symbols", "J", false)
  | 11 => ("ImageLoader$Image", "symbolBytes", "J", false)
  | _ => ("ImageLoader$Image", "relocationCount", "I", false)
def tyX0 : Nat → FieldType := fun k => match k with
  | 0 => .array (.object "ImageLoader$Segment")
  | 1 => .int
  | 2 => .int
  | 3 => .int
  | 4 => .int
  | 5 => .int
  | 6 => .int
  | 7 => .long
  | 8 => .long
  | 9 => .long
  | 10 => .long
  | 11 => .long
  | _ => .int
abbrev wsX00 : List Cond := u_ws RX0 TX0 13
theorem nmX0 : ∀ a, a < 13 → ∀ b, b < 13 → a ≠ b → (TX0 a).2.1 ≠ (TX0 b).2.1 := by decide +kernel
theorem tyX0_ok : ∀ k, k < 13 → parseFieldDescriptor (TX0 k).2.2.1 = some (tyX0 k) := by decide +kernel
abbrev cX0_init : ByteArray := prog_2_method_1_code
def yX0_init : MethodName := ⟨RX0, "<init>", "()V"⟩
abbrev cX0_faultPlace : ByteArray := prog_2_method_2_code
def yX0_faultPlace : MethodName := ⟨RX0, "faultPlace", "()I"⟩
abbrev cX0_base : ByteArray := prog_2_method_3_code
def yX0_base : MethodName := ⟨RX0, "base", "()I"⟩
abbrev cX0_entry : ByteArray := prog_2_method_4_code
def yX0_entry : MethodName := ⟨RX0, "entry", "()I"⟩
abbrev cX0_pagesWanted : ByteArray := prog_2_method_5_code
def yX0_pagesWanted : MethodName := ⟨RX0, "pagesWanted", "()I"⟩
abbrev cX0_relocationCount : ByteArray := prog_2_method_6_code
def yX0_relocationCount : MethodName := ⟨RX0, "relocationCount", "()I"⟩
abbrev cX0_bring : ByteArray := prog_2_method_7_code
def yX0_bring : MethodName := ⟨RX0, "bring", "(LImageLoader$Tape;LImageLoader$Space;I)I"⟩
abbrev cX0_forget : ByteArray := prog_2_method_8_code
def yX0_forget : MethodName := ⟨RX0, "forget", "()V"⟩
abbrev cX0_fault : ByteArray := prog_2_method_9_code
def yX0_fault : MethodName := ⟨RX0, "fault", "(II)I"⟩
abbrev cX0_headerFault : ByteArray := prog_2_method_10_code
def yX0_headerFault : MethodName := ⟨RX0, "headerFault", "(LImageLoader$Tape;)I"⟩
abbrev cX0_headsFault : ByteArray := prog_2_method_11_code
def yX0_headsFault : MethodName := ⟨RX0, "headsFault", "(LImageLoader$Tape;LImageLoader$Space;)I"⟩
abbrev cX0_segmentFault : ByteArray := prog_2_method_12_code
def yX0_segmentFault : MethodName := ⟨RX0, "segmentFault", "(LImageLoader$Tape;LImageLoader$Space;I)I"⟩
abbrev cX0_meetsEarlier : ByteArray := prog_2_method_13_code
def yX0_meetsEarlier : MethodName := ⟨RX0, "meetsEarlier", "(LImageLoader$Segment;)Z"⟩
abbrev cX0_dynamicHeadFault : ByteArray := prog_2_method_14_code
def yX0_dynamicHeadFault : MethodName := ⟨RX0, "dynamicHeadFault", "(LImageLoader$Tape;I)I"⟩
abbrev cX0_entryFault : ByteArray := prog_2_method_15_code
def yX0_entryFault : MethodName := ⟨RX0, "entryFault", "(LImageLoader$Tape;)I"⟩
abbrev cX0_dynamicFault : ByteArray := prog_2_method_16_code
def yX0_dynamicFault : MethodName := ⟨RX0, "dynamicFault", "(LImageLoader$Tape;)I"⟩
abbrev cX0_takeDynamicPairs : ByteArray := prog_2_method_17_code
def yX0_takeDynamicPairs : MethodName := ⟨RX0, "takeDynamicPairs", "(LImageLoader$Tape;)V"⟩
abbrev cX0_takeDynamicPair : ByteArray := prog_2_method_18_code
def yX0_takeDynamicPair : MethodName := ⟨RX0, "takeDynamicPair", "(JJ)V"⟩
abbrev cX0_lay : ByteArray := prog_2_method_19_code
def yX0_lay : MethodName := ⟨RX0, "lay", "(LImageLoader$Tape;LImageLoader$Space;)V"⟩
abbrev cX0_takeBack : ByteArray := prog_2_method_20_code
def yX0_takeBack : MethodName := ⟨RX0, "takeBack", "(LImageLoader$Space;)V"⟩
abbrev cX0_relocationsFault : ByteArray := prog_2_method_21_code
def yX0_relocationsFault : MethodName := ⟨RX0, "relocationsFault", "(LImageLoader$Space;)I"⟩
abbrev cX0_relocationFault : ByteArray := prog_2_method_22_code
def yX0_relocationFault : MethodName := ⟨RX0, "relocationFault", "(LImageLoader$Space;I)I"⟩
abbrev cX0_symbolFault : ByteArray := prog_2_method_23_code
def yX0_symbolFault : MethodName := ⟨RX0, "symbolFault", "(LImageLoader$Space;III)I"⟩
abbrev cX0_areHeld : ByteArray := prog_2_method_24_code
def yX0_areHeld : MethodName := ⟨RX0, "areHeld", "(II)Z"⟩
def RX1 : String := "ImageLoader$Segment"
def TX1 : u_T := fun k => match k with
  | 0 => ("ImageLoader$Segment", "offset", "J", false)
  | 1 => ("ImageLoader$Segment", "address", "J", false)
  | 2 => ("ImageLoader$Segment", "start", "J", false)
  | 3 => ("ImageLoader$Segment", "filed", "J", false)
  | 4 => ("ImageLoader$Segment", "held", "J", false)
  | 5 => ("ImageLoader$Segment", "align", "J", false)
  | _ => ("ImageLoader$Segment", "flags", "I", false)
def tyX1 : Nat → FieldType := fun k => match k with
  | 0 => .long
  | 1 => .long
  | 2 => .long
  | 3 => .long
  | 4 => .long
  | 5 => .long
  | _ => .int
abbrev wsX10 : List Cond := u_ws RX1 TX1 7
theorem nmX1 : ∀ a, a < 7 → ∀ b, b < 7 → a ≠ b → (TX1 a).2.1 ≠ (TX1 b).2.1 := by decide +kernel
theorem tyX1_ok : ∀ k, k < 7 → parseFieldDescriptor (TX1 k).2.2.1 = some (tyX1 k) := by decide +kernel
abbrev cX1_init : ByteArray := prog_3_method_1_code
def yX1_init : MethodName := ⟨RX1, "<init>", "()V"⟩
abbrev cX1_take : ByteArray := prog_3_method_2_code
def yX1_take : MethodName := ⟨RX1, "take", "(LImageLoader$Tape;II)V"⟩
abbrev cX1_isAlignSound : ByteArray := prog_3_method_3_code
def yX1_isAlignSound : MethodName := ⟨RX1, "isAlignSound", "()Z"⟩
abbrev cX1_isAligned : ByteArray := prog_3_method_4_code
def yX1_isAligned : MethodName := ⟨RX1, "isAligned", "()Z"⟩
abbrev cX1_isInSpace : ByteArray := prog_3_method_5_code
def yX1_isInSpace : MethodName := ⟨RX1, "isInSpace", "()Z"⟩
abbrev cX1_holds : ByteArray := prog_3_method_6_code
def yX1_holds : MethodName := ⟨RX1, "holds", "(J)Z"⟩
abbrev cX1_firstPage : ByteArray := prog_3_method_7_code
def yX1_firstPage : MethodName := ⟨RX1, "firstPage", "()I"⟩
abbrev cX1_lastPage : ByteArray := prog_3_method_8_code
def yX1_lastPage : MethodName := ⟨RX1, "lastPage", "()I"⟩
abbrev cX1_pages : ByteArray := prog_3_method_9_code
def yX1_pages : MethodName := ⟨RX1, "pages", "()I"⟩
abbrev cX1_sharesPageWith : ByteArray := prog_3_method_10_code
def yX1_sharesPageWith : MethodName := ⟨RX1, "sharesPageWith", "(LImageLoader$Segment;)Z"⟩
abbrev cX1_lay : ByteArray := prog_3_method_11_code
def yX1_lay : MethodName := ⟨RX1, "lay", "(LImageLoader$Tape;LImageLoader$Space;)V"⟩
def RX2 : String := "ImageLoader$Space"
def TX2 : u_T := fun k => match k with
  | 0 => ("ImageLoader$Space", "bytes", "[B", true)
  | 1 => ("ImageLoader$Space", "pageRights", "[I", true)
  | 2 => ("ImageLoader$Space", "frames", "I", true)
  | _ => ("ImageLoader$Space", "mapped", "I", false)
def tyX2 : Nat → FieldType := fun k => match k with
  | 0 => .array .byte
  | 1 => .array .int
  | 2 => .int
  | _ => .int
abbrev wsX20 : List Cond := u_ws RX2 TX2 4
theorem nmX2 : ∀ a, a < 4 → ∀ b, b < 4 → a ≠ b → (TX2 a).2.1 ≠ (TX2 b).2.1 := by decide +kernel
theorem tyX2_ok : ∀ k, k < 4 → parseFieldDescriptor (TX2 k).2.2.1 = some (tyX2 k) := by decide +kernel
abbrev cX2_init : ByteArray := prog_4_method_1_code
def yX2_init : MethodName := ⟨RX2, "<init>", "(I)V"⟩
abbrev cX2_frames : ByteArray := prog_4_method_2_code
def yX2_frames : MethodName := ⟨RX2, "frames", "()I"⟩
abbrev cX2_mappedPages : ByteArray := prog_4_method_3_code
def yX2_mappedPages : MethodName := ⟨RX2, "mappedPages", "()I"⟩
abbrev cX2_freeFrames : ByteArray := prog_4_method_4_code
def yX2_freeFrames : MethodName := ⟨RX2, "freeFrames", "()I"⟩
abbrev cX2_rightsOf : ByteArray := prog_4_method_5_code
def yX2_rightsOf : MethodName := ⟨RX2, "rightsOf", "(I)I"⟩
abbrev cX2_setRights : ByteArray := prog_4_method_6_code
def yX2_setRights : MethodName := ⟨RX2, "setRights", "(II)V"⟩
abbrev cX2_anyMapped : ByteArray := prog_4_method_7_code
def yX2_anyMapped : MethodName := ⟨RX2, "anyMapped", "(II)Z"⟩
abbrev cX2_pagesWith : ByteArray := prog_4_method_8_code
def yX2_pagesWith : MethodName := ⟨RX2, "pagesWith", "(I)I"⟩
abbrev cX2_mapAll : ByteArray := prog_4_method_9_code
def yX2_mapAll : MethodName := ⟨RX2, "mapAll", "(III)V"⟩
abbrev cX2_clear : ByteArray := prog_4_method_10_code
def yX2_clear : MethodName := ⟨RX2, "clear", "(I)V"⟩
abbrev cX2_releaseAll : ByteArray := prog_4_method_11_code
def yX2_releaseAll : MethodName := ⟨RX2, "releaseAll", "(II)V"⟩
abbrev cX2_refusal : ByteArray := prog_4_method_12_code
def yX2_refusal : MethodName := ⟨RX2, "refusal", "(III)I"⟩
abbrev cX2_byteAt : ByteArray := prog_4_method_13_code
def yX2_byteAt : MethodName := ⟨RX2, "byteAt", "(I)I"⟩
abbrev cX2_setByte : ByteArray := prog_4_method_14_code
def yX2_setByte : MethodName := ⟨RX2, "setByte", "(II)V"⟩
abbrev cX2_number : ByteArray := prog_4_method_15_code
def yX2_number : MethodName := ⟨RX2, "number", "(II)J"⟩
abbrev cX2_setNumber : ByteArray := prog_4_method_16_code
def yX2_setNumber : MethodName := ⟨RX2, "setNumber", "(III)V"⟩
abbrev cX2_sumOn : ByteArray := prog_4_method_17_code
def yX2_sumOn : MethodName := ⟨RX2, "sumOn", "(II)I"⟩
def RX3 : String := "ImageLoader$Tape"
def TX3 : u_T := fun k => match k with
  | 0 => ("ImageLoader$Tape", "bytes", "[B", true)
  | _ => ("ImageLoader$Tape", "size", "I", false)
def tyX3 : Nat → FieldType := fun k => match k with
  | 0 => .array .byte
  | _ => .int
abbrev wsX30 : List Cond := u_ws RX3 TX3 2
theorem nmX3 : ∀ a, a < 2 → ∀ b, b < 2 → a ≠ b → (TX3 a).2.1 ≠ (TX3 b).2.1 := by decide +kernel
theorem tyX3_ok : ∀ k, k < 2 → parseFieldDescriptor (TX3 k).2.2.1 = some (tyX3 k) := by decide +kernel
abbrev cX3_init : ByteArray := prog_5_method_1_code
def yX3_init : MethodName := ⟨RX3, "<init>", "()V"⟩
abbrev cX3_size : ByteArray := prog_5_method_2_code
def yX3_size : MethodName := ⟨RX3, "size", "()I"⟩
abbrev cX3_hasRoomFor : ByteArray := prog_5_method_3_code
def yX3_hasRoomFor : MethodName := ⟨RX3, "hasRoomFor", "(I)Z"⟩
abbrev cX3_has : ByteArray := prog_5_method_4_code
def yX3_has : MethodName := ⟨RX3, "has", "(JJ)Z"⟩
abbrev cX3_append : ByteArray := prog_5_method_5_code
def yX3_append : MethodName := ⟨RX3, "append", "(I)V"⟩
abbrev cX3_setByte : ByteArray := prog_5_method_6_code
def yX3_setByte : MethodName := ⟨RX3, "setByte", "(II)V"⟩
abbrev cX3_byteAt : ByteArray := prog_5_method_7_code
def yX3_byteAt : MethodName := ⟨RX3, "byteAt", "(I)I"⟩
abbrev cX3_half : ByteArray := prog_5_method_8_code
def yX3_half : MethodName := ⟨RX3, "half", "(I)I"⟩
abbrev cX3_word : ByteArray := prog_5_method_9_code
def yX3_word : MethodName := ⟨RX3, "word", "(I)J"⟩
abbrev cX3_lacksLastZero : ByteArray := prog_5_method_10_code
def yX3_lacksLastZero : MethodName := ⟨RX3, "lacksLastZero", "()Z"⟩
abbrev cX3_shorten : ByteArray := prog_5_method_11_code
def yX3_shorten : MethodName := ⟨RX3, "shorten", "(I)V"⟩
def RX4 : String := "ImageLoader"
def TX4 : u_T := fun k => match k with
  | 0 => ("ImageLoader", "tape", "LImageLoader$Tape;", true)
  | 1 => ("ImageLoader", "space", "LImageLoader$Space;", true)
  | 2 => ("ImageLoader", "image", "LImageLoader$Image;", true)
  | 3 => ("ImageLoader", "faultPlace", "I", false)
  | 4 => ("ImageLoader", "latestEntry", "I", false)
  | 5 => ("ImageLoader", "latestPages", "I", false)
  | 6 => ("ImageLoader", "latestBase", "I", false)
  | _ => ("ImageLoader", "imagesLoaded", "I", false)
def tyX4 : Nat → FieldType := fun k => match k with
  | 0 => .object "ImageLoader$Tape"
  | 1 => .object "ImageLoader$Space"
  | 2 => .object "ImageLoader$Image"
  | 3 => .int
  | 4 => .int
  | 5 => .int
  | 6 => .int
  | _ => .int
abbrev wsX40 : List Cond := u_ws RX4 TX4 8
theorem nmX4 : ∀ a, a < 8 → ∀ b, b < 8 → a ≠ b → (TX4 a).2.1 ≠ (TX4 b).2.1 := by decide +kernel
theorem tyX4_ok : ∀ k, k < 8 → parseFieldDescriptor (TX4 k).2.2.1 = some (tyX4 k) := by decide +kernel
abbrev cX4_init : ByteArray := prog_1_method_1_code
def yX4_init : MethodName := ⟨RX4, "<init>", "(I)V"⟩
abbrev cX4_add : ByteArray := prog_1_method_2_code
def yX4_add : MethodName := ⟨RX4, "add", "(JI)I"⟩
abbrev cX4_zeros : ByteArray := prog_1_method_3_code
def yX4_zeros : MethodName := ⟨RX4, "zeros", "(I)I"⟩
abbrev cX4_poke : ByteArray := prog_1_method_4_code
def yX4_poke : MethodName := ⟨RX4, "poke", "(III)I"⟩
abbrev cX4_peek : ByteArray := prog_1_method_5_code
def yX4_peek : MethodName := ⟨RX4, "peek", "(I)I"⟩
abbrev cX4_cut : ByteArray := prog_1_method_6_code
def yX4_cut : MethodName := ⟨RX4, "cut", "(I)I"⟩
abbrev cX4_load : ByteArray := prog_1_method_7_code
def yX4_load : MethodName := ⟨RX4, "load", "(I)I"⟩
abbrev cX4_told : ByteArray := prog_1_method_8_code
def yX4_told : MethodName := ⟨RX4, "told", "(I)I"⟩
abbrev cX4_stack : ByteArray := prog_1_method_9_code
def yX4_stack : MethodName := ⟨RX4, "stack", "(I)I"⟩
abbrev cX4_read : ByteArray := prog_1_method_10_code
def yX4_read : MethodName := ⟨RX4, "read", "(II)J"⟩
abbrev cX4_write : ByteArray := prog_1_method_11_code
def yX4_write : MethodName := ⟨RX4, "write", "(III)I"⟩
abbrev cX4_fetch : ByteArray := prog_1_method_12_code
def yX4_fetch : MethodName := ⟨RX4, "fetch", "(I)J"⟩
abbrev cX4_protect : ByteArray := prog_1_method_13_code
def yX4_protect : MethodName := ⟨RX4, "protect", "(II)I"⟩
abbrev cX4_unmap : ByteArray := prog_1_method_14_code
def yX4_unmap : MethodName := ⟨RX4, "unmap", "(II)I"⟩
abbrev cX4_rights : ByteArray := prog_1_method_15_code
def yX4_rights : MethodName := ⟨RX4, "rights", "(I)I"⟩
abbrev cX4_count : ByteArray := prog_1_method_16_code
def yX4_count : MethodName := ⟨RX4, "count", "(I)I"⟩
abbrev cX4_sum : ByteArray := prog_1_method_17_code
def yX4_sum : MethodName := ⟨RX4, "sum", "(II)I"⟩
abbrev cX4_stackPointer : ByteArray := prog_1_method_18_code
def yX4_stackPointer : MethodName := ⟨RX4, "stackPointer", "()I"⟩
abbrev cX4_argumentBytes : ByteArray := prog_1_method_19_code
def yX4_argumentBytes : MethodName := ⟨RX4, "argumentBytes", "()I"⟩
abbrev cX4_argumentCount : ByteArray := prog_1_method_20_code
def yX4_argumentCount : MethodName := ⟨RX4, "argumentCount", "()I"⟩
abbrev cX4_layArguments : ByteArray := prog_1_method_21_code
def yX4_layArguments : MethodName := ⟨RX4, "layArguments", "(I)V"⟩
abbrev cX4_isSize : ByteArray := prog_1_method_22_code
def yX4_isSize : MethodName := ⟨RX4, "isSize", "(I)Z"⟩
abbrev cX4_isPage : ByteArray := prog_1_method_23_code
def yX4_isPage : MethodName := ⟨RX4, "isPage", "(I)Z"⟩
abbrev cX4_arePages : ByteArray := prog_1_method_24_code
def yX4_arePages : MethodName := ⟨RX4, "arePages", "(II)Z"⟩
def RX5 : String := "ImageLoaderModel"
def TX5 : u_T := fun k => match k with
  | 0 => ("ImageLoaderModel", "thrown", "I", false)
  | 1 => ("ImageLoaderModel", "frames", "I", true)
  | 2 => ("ImageLoaderModel", "size", "I", false)
  | 3 => ("ImageLoaderModel", "tape", "[I", true)
  | 4 => ("ImageLoaderModel", "mapped", "[Z", true)
  | 5 => ("ImageLoaderModel", "rights", "[I", true)
  | 6 => ("ImageLoaderModel", "memory", "[I", true)
  | 7 => ("ImageLoaderModel", "segments", "I", false)
  | 8 => ("ImageLoaderModel", "begins", "[J", true)
  | 9 => ("ImageLoaderModel", "held", "[J", true)
  | 10 => ("ImageLoaderModel", "offsets", "[I", true)
  | 11 => ("ImageLoaderModel", "filed", "[I", true)
  | 12 => ("ImageLoaderModel", "may", "[I", true)
  | 13 => ("ImageLoaderModel", "wanted", "[Z", true)
  | 14 => ("ImageLoaderModel", "wants", "I", false)
  | 15 => ("ImageLoaderModel", "base", "I", false)
  | 16 => ("ImageLoaderModel", "dynamic", "I", false)
  | 17 => ("ImageLoaderModel", "known", "[J", true)
  | 18 => ("ImageLoaderModel", "fault", "I", false)
  | 19 => ("ImageLoaderModel", "place", "I", false)
  | 20 => ("ImageLoaderModel", "entry", "I", false)
  | 21 => ("ImageLoaderModel", "pages", "I", false)
  | 22 => ("ImageLoaderModel", "counted", "I", false)
  | _ => ("ImageLoaderModel", "images", "I", false)
def tyX5 : Nat → FieldType := fun k => match k with
  | 0 => .int
  | 1 => .int
  | 2 => .int
  | 3 => .array .int
  | 4 => .array .boolean
  | 5 => .array .int
  | 6 => .array .int
  | 7 => .int
  | 8 => .array .long
  | 9 => .array .long
  | 10 => .array .int
  | 11 => .array .int
  | 12 => .array .int
  | 13 => .array .boolean
  | 14 => .int
  | 15 => .int
  | 16 => .int
  | 17 => .array .long
  | 18 => .int
  | 19 => .int
  | 20 => .int
  | 21 => .int
  | 22 => .int
  | _ => .int
abbrev wsX50 : List Cond := u_ws RX5 TX5 24
theorem nmX5 : ∀ a, a < 24 → ∀ b, b < 24 → a ≠ b → (TX5 a).2.1 ≠ (TX5 b).2.1 := by decide +kernel
theorem tyX5_ok : ∀ k, k < 24 → parseFieldDescriptor (TX5 k).2.2.1 = some (tyX5 k) := by decide +kernel
abbrev cX5_init : ByteArray := prog_7_method_1_code
def yX5_init : MethodName := ⟨RX5, "<init>", "(I)V"⟩
abbrev cX5_in : ByteArray := prog_7_method_3_code
def yX5_in : MethodName := ⟨RX5, "in", "(III)Z"⟩
abbrev cX5_add : ByteArray := prog_7_method_4_code
def yX5_add : MethodName := ⟨RX5, "add", "(JI)I"⟩
abbrev cX5_zeros : ByteArray := prog_7_method_5_code
def yX5_zeros : MethodName := ⟨RX5, "zeros", "(I)I"⟩
abbrev cX5_isWide : ByteArray := prog_7_method_6_code
def yX5_isWide : MethodName := ⟨RX5, "isWide", "(I)Z"⟩
abbrev cX5_poke : ByteArray := prog_7_method_7_code
def yX5_poke : MethodName := ⟨RX5, "poke", "(III)I"⟩
abbrev cX5_peek : ByteArray := prog_7_method_8_code
def yX5_peek : MethodName := ⟨RX5, "peek", "(I)I"⟩
abbrev cX5_cut : ByteArray := prog_7_method_9_code
def yX5_cut : MethodName := ⟨RX5, "cut", "(I)I"⟩
abbrev cX5_half : ByteArray := prog_7_method_10_code
def yX5_half : MethodName := ⟨RX5, "half", "(I)I"⟩
abbrev cX5_word : ByteArray := prog_7_method_11_code
def yX5_word : MethodName := ⟨RX5, "word", "(I)J"⟩
abbrev cX5_fail : ByteArray := prog_7_method_12_code
def yX5_fail : MethodName := ⟨RX5, "fail", "(II)Z"⟩
abbrev cX5_isHeader : ByteArray := prog_7_method_13_code
def yX5_isHeader : MethodName := ⟨RX5, "isHeader", "()Z"⟩
abbrev cX5_mappedPages : ByteArray := prog_7_method_14_code
def yX5_mappedPages : MethodName := ⟨RX5, "mappedPages", "()I"⟩
abbrev cX5_isSegment : ByteArray := prog_7_method_15_code
def yX5_isSegment : MethodName := ⟨RX5, "isSegment", "(I)Z"⟩
abbrev cX5_isDynamic : ByteArray := prog_7_method_16_code
def yX5_isDynamic : MethodName := ⟨RX5, "isDynamic", "(I)Z"⟩
abbrev cX5_areHeads : ByteArray := prog_7_method_17_code
def yX5_areHeads : MethodName := ⟨RX5, "areHeads", "()Z"⟩
abbrev cX5_arePairs : ByteArray := prog_7_method_18_code
def yX5_arePairs : MethodName := ⟨RX5, "arePairs", "()Z"⟩
abbrev cX5_lay : ByteArray := prog_7_method_19_code
def yX5_lay : MethodName := ⟨RX5, "lay", "()V"⟩
abbrev cX5_unlay : ByteArray := prog_7_method_20_code
def yX5_unlay : MethodName := ⟨RX5, "unlay", "()V"⟩
abbrev cX5_areHeld : ByteArray := prog_7_method_21_code
def yX5_areHeld : MethodName := ⟨RX5, "areHeld", "(JI)Z"⟩
abbrev cX5_wordIn : ByteArray := prog_7_method_22_code
def yX5_wordIn : MethodName := ⟨RX5, "wordIn", "(J)J"⟩
abbrev cX5_put : ByteArray := prog_7_method_23_code
def yX5_put : MethodName := ⟨RX5, "put", "(JJ)V"⟩
abbrev cX5_relocate : ByteArray := prog_7_method_24_code
def yX5_relocate : MethodName := ⟨RX5, "relocate", "(I)Z"⟩
abbrev cX5_relocations : ByteArray := prog_7_method_25_code
def yX5_relocations : MethodName := ⟨RX5, "relocations", "()Z"⟩
abbrev cX5_load : ByteArray := prog_7_method_26_code
def yX5_load : MethodName := ⟨RX5, "load", "(I)I"⟩
abbrev cX5_told : ByteArray := prog_7_method_27_code
def yX5_told : MethodName := ⟨RX5, "told", "(I)I"⟩
abbrev cX5_stack : ByteArray := prog_7_method_28_code
def yX5_stack : MethodName := ⟨RX5, "stack", "(I)I"⟩
abbrev cX5_refusal : ByteArray := prog_7_method_29_code
def yX5_refusal : MethodName := ⟨RX5, "refusal", "(III)I"⟩
abbrev cX5_have : ByteArray := prog_7_method_30_code
def yX5_have : MethodName := ⟨RX5, "have", "(III)J"⟩
abbrev cX5_read : ByteArray := prog_7_method_31_code
def yX5_read : MethodName := ⟨RX5, "read", "(II)J"⟩
abbrev cX5_write : ByteArray := prog_7_method_32_code
def yX5_write : MethodName := ⟨RX5, "write", "(III)I"⟩
abbrev cX5_fetch : ByteArray := prog_7_method_33_code
def yX5_fetch : MethodName := ⟨RX5, "fetch", "(I)J"⟩
abbrev cX5_isPage : ByteArray := prog_7_method_34_code
def yX5_isPage : MethodName := ⟨RX5, "isPage", "(I)Z"⟩
abbrev cX5_protect : ByteArray := prog_7_method_35_code
def yX5_protect : MethodName := ⟨RX5, "protect", "(II)I"⟩
abbrev cX5_unmap : ByteArray := prog_7_method_36_code
def yX5_unmap : MethodName := ⟨RX5, "unmap", "(II)I"⟩
abbrev cX5_rights : ByteArray := prog_7_method_37_code
def yX5_rights : MethodName := ⟨RX5, "rights", "(I)I"⟩
abbrev cX5_with : ByteArray := prog_7_method_38_code
def yX5_with : MethodName := ⟨RX5, "with", "(I)I"⟩
abbrev cX5_count : ByteArray := prog_7_method_39_code
def yX5_count : MethodName := ⟨RX5, "count", "(I)I"⟩
abbrev cX5_sum : ByteArray := prog_7_method_40_code
def yX5_sum : MethodName := ⟨RX5, "sum", "(II)I"⟩
def RJ13 : String := "java/lang/Long"
def TJ13 : u_T := fun k => match k with
  | _ => ("", "", "", false)
def tyJ13 : Nat → FieldType := fun k => match k with
  | _ => .int
abbrev wsJ130 : List Cond := u_ws RJ13 TJ13 0
theorem nmJ13 : ∀ a, a < 0 → ∀ b, b < 0 → a ≠ b → (TJ13 a).2.1 ≠ (TJ13 b).2.1 := by decide +kernel
theorem tyJ13_ok : ∀ k, k < 0 → parseFieldDescriptor (TJ13 k).2.2.1 = some (tyJ13 k) := by decide +kernel
abbrev cJ13_bitCount_95d88 : ByteArray := prog_8_method_50_code
def yJ13_bitCount_95d88 : MethodName := ⟨RJ13, "bitCount", "(J)I"⟩
def RJ9 : String := "java/lang/Math"
def TJ9 : u_T := fun k => match k with
  | _ => ("", "", "", false)
def tyJ9 : Nat → FieldType := fun k => match k with
  | _ => .int
abbrev wsJ90 : List Cond := u_ws RJ9 TJ9 0
theorem nmJ9 : ∀ a, a < 0 → ∀ b, b < 0 → a ≠ b → (TJ9 a).2.1 ≠ (TJ9 b).2.1 := by decide +kernel
theorem tyJ9_ok : ∀ k, k < 0 → parseFieldDescriptor (TJ9 k).2.2.1 = some (tyJ9 k) := by decide +kernel
abbrev cJ9_floorDiv_7cf53 : ByteArray := prog_9_method_47_code
def yJ9_floorDiv_7cf53 : MethodName := ⟨RJ9, "floorDiv", "(II)I"⟩
abbrev cJ9_floorMod_7cf53 : ByteArray := prog_9_method_50_code
def yJ9_floorMod_7cf53 : MethodName := ⟨RJ9, "floorMod", "(II)I"⟩
abbrev cJ9_max_7cf53 : ByteArray := prog_9_method_65_code
def yJ9_max_7cf53 : MethodName := ⟨RJ9, "max", "(II)I"⟩
abbrev cJ9_min_7cf53 : ByteArray := prog_9_method_69_code
def yJ9_min_7cf53 : MethodName := ⟨RJ9, "min", "(II)I"⟩
abbrev cJ9_min_f86c9 : ByteArray := prog_9_method_70_code
def yJ9_min_f86c9 : MethodName := ⟨RJ9, "min", "(JJ)J"⟩
def RL : String := "ImageLoaderLaw"
abbrev cL_cell : ByteArray := method_2_code
def yL_cell : MethodName := ⟨RL, "cell", "([II)I"⟩
abbrev cL_law : ByteArray := code
def yL_law : MethodName := ⟨RL, "law", "([I)Z"⟩
abbrev vwCl : List vw_C := [(RX0, TX0, 13), (RX1, TX1, 7), (RX2, TX2, 4), (RX3, TX3, 2), (RX4, TX4, 8), (RX5, TX5, 24)]
end
section
/-! pictures: a method is run over a list of cells; a reference in it is a place in that list (from 1000000 on: a static table) -/
abbrev vm_S : Type := List (Option Value) × List Value × List va_E
def vm_g {α : Type} : List α → Nat → Option α
  | [], _ => none
  | a :: _, 0 => some a
  | _ :: t, n + 1 => vm_g t n
theorem vm_g_eq {α : Type} : ∀ (l : List α) (n : Nat), vm_g l n = l[n]?
  | [], n => by simp [vm_g]
  | a :: t, 0 => by simp [vm_g]
  | a :: t, n + 1 => by simp [vm_g, vm_g_eq t n]
def vm_u {α : Type} : List α → Nat → α → List α
  | [], _, _ => []
  | _ :: t, 0, v => v :: t
  | a :: t, n + 1, v => a :: vm_u t n v
theorem vm_u_eq {α : Type} : ∀ (l : List α) (n : Nat) (v : α), vm_u l n v = l.set n v
  | [], n, v => by simp [vm_u]
  | a :: t, 0, v => by simp [vm_u]
  | a :: t, n + 1, v => by simp [vm_u, vm_u_eq t n v]
/-- a local that a store just behind it takes away -/
def vm_k : Option Value → Option Value
  | some (.long _) => none
  | some (.double _) => none
  | x => x
def vm_s1 : List (Option Value) → Nat → Value → List (Option Value)
  | [], _, _ => []
  | _ :: t, 0, v => some v :: t
  | a :: t, 1, v => vm_k a :: vm_s1 t 0 v
  | a :: t, n + 2, v => a :: vm_s1 t (n + 1) v
def vm_s2 (l : List (Option Value)) (i : Nat) (v : Value) : List (Option Value) := vm_s1 (vm_u l (i + 1) none) i v
theorem vm_s1_len : ∀ (l : List (Option Value)) (i : Nat) (v : Value), (vm_s1 l i v).length = l.length
  | [], _, _ => rfl
  | _ :: t, 0, v => rfl
  | a :: t, 1, v => by simp [vm_s1, vm_s1_len t 0 v]
  | a :: t, n + 2, v => by simp [vm_s1, vm_s1_len t (n + 1) v]
theorem vm_s2_len (l : List (Option Value)) (i : Nat) (v : Value) : (vm_s2 l i v).length = l.length := by
  rw [vm_s2, vm_s1_len, vm_u_eq, List.length_set]
theorem vm_k_some {a : Option Value} {w : Value} (h : vm_k a = some w) : a = some w ∧ ¬ w.category = 2 := by
  match a, h with
  | some (.int x), h => cases h; exact ⟨rfl, by simp [Value.category]⟩
  | some (.float x), h => cases h; exact ⟨rfl, by simp [Value.category]⟩
  | some .null, h => cases h; exact ⟨rfl, by simp [Value.category]⟩
  | some (.ref x), h => cases h; exact ⟨rfl, by simp [Value.category]⟩
  | some (.retAddr x), h => cases h; exact ⟨rfl, by simp [Value.category]⟩
  | some (.long x), h => cases h
  | some (.double x), h => cases h
  | none, h => cases h
theorem vm_s1_get : ∀ (l : List (Option Value)) (i : Nat) (v : Value) (j : Nat) (w : Value), (vm_s1 l i v)[j]? = some (some w) →
    (j = i ∧ w = v) ∨ (¬ j = i ∧ l[j]? = some (some w) ∧ ¬ (j + 1 = i ∧ w.category = 2))
  | [], i, v, j, w, h => by simp [vm_s1] at h
  | a :: t, 0, v, 0, w, h => by
    simp [vm_s1] at h
    exact Or.inl ⟨rfl, h.symm⟩
  | a :: t, 0, v, j + 1, w, h => by
    simp [vm_s1] at h
    exact Or.inr ⟨by omega, by simpa using h, by omega⟩
  | a :: t, 1, v, 0, w, h => by
    simp [vm_s1] at h
    obtain ⟨h1, h2⟩ := vm_k_some h
    exact Or.inr ⟨by omega, by simpa using h1, fun q => h2 q.2⟩
  | a :: t, 1, v, j + 1, w, h => by
    simp only [vm_s1, List.getElem?_cons_succ] at h
    rcases vm_s1_get t 0 v j w h with ⟨h1, h2⟩ | ⟨h1, h2, h3⟩
    · exact Or.inl ⟨by omega, h2⟩
    · exact Or.inr ⟨by omega, by simpa using h2, by omega⟩
  | a :: t, n + 2, v, 0, w, h => by
    simp [vm_s1] at h
    exact Or.inr ⟨by omega, by simpa using h, by omega⟩
  | a :: t, n + 2, v, j + 1, w, h => by
    simp only [vm_s1, List.getElem?_cons_succ] at h
    rcases vm_s1_get t (n + 1) v j w h with ⟨h1, h2⟩ | ⟨h1, h2, h3⟩
    · exact Or.inl ⟨by omega, h2⟩
    · exact Or.inr ⟨by omega, by simpa using h2, fun q => h3 ⟨by omega, q.2⟩⟩
theorem vm_s2_get (l : List (Option Value)) (i : Nat) (v : Value) (j : Nat) (w : Value) (h : (vm_s2 l i v)[j]? = some (some w)) :
    (j = i ∧ w = v) ∨ (¬ j = i ∧ ¬ j = i + 1 ∧ l[j]? = some (some w) ∧ ¬ (j + 1 = i ∧ w.category = 2)) := by
  rcases vm_s1_get _ _ _ _ _ h with h1 | ⟨h1, h2, h3⟩
  · exact Or.inl h1
  · rw [vm_u_eq] at h2
    by_cases hj : j = i + 1
    · subst hj
      rw [List.getElem?_set] at h2
      simp at h2
    · rw [List.getElem?_set_ne (Ne.symm hj)] at h2
      exact Or.inr ⟨h1, hj, h2, h3⟩
/-- from places to addresses -/
def vm_v (ad : Nat → Nat) : Value → Value
  | .ref i => .ref (ad i)
  | v => v
theorem vm_v_cat (ad : Nat → Nat) (v : Value) : (vm_v ad v).category = v.category := by cases v <;> rfl
def vm_e (ad tc : Nat → Nat) : va_E → va_E
  | .inl (t, n, .inl f) => .inl (tc t, n, .inl f)
  | .inl (t, n, .inr (.inl f)) => .inl (tc t, n, .inr (.inl f))
  | .inl (t, n, .inr (.inr (.inl f))) => .inl (tc t, n, .inr (.inr (.inl f)))
  | .inl (t, n, .inr (.inr (.inr (.inl f)))) => .inl (tc t, n, .inr (.inr (.inr (.inl f))))
  | .inl (t, n, .inr (.inr (.inr (.inr f)))) => .inl (tc t, n, .inr (.inr (.inr (.inr (fun j => (f j).map ad)))))
  | .inr (k, fs) => .inr (k, fs.map (vm_v ad))
def vm_w (ad tc : Nat → Nat) : Nat → List va_E → va_W
  | _, [] => []
  | i, e :: cs => (ad i, vm_e ad tc e) :: vm_w ad tc (i + 1) cs
theorem vm_w_get (ad tc : Nat → Nat) : ∀ (cs : List va_E) (i k : Nat), (vm_w ad tc i cs)[k]? = (cs[k]?).map (fun e => (ad (i + k), vm_e ad tc e))
  | [], i, k => by simp [vm_w]
  | e :: cs, i, 0 => by simp [vm_w]
  | e :: cs, i, k + 1 => by
    simp only [vm_w, List.getElem?_cons_succ]
    rw [vm_w_get ad tc cs (i + 1) k, show i + 1 + k = i + (k + 1) by omega]
theorem vm_w_at {ad tc : Nat → Nat} {cs : List va_E} {k : Nat} {e : va_E} (h : vm_g cs k = some e) : (vm_w ad tc 0 cs)[k]? = some (ad k, vm_e ad tc e) := by
  rw [vm_w_get, ← vm_g_eq, h]
  simp
theorem vm_w_set (ad tc : Nat → Nat) (e : va_E) : ∀ (cs : List va_E) (i k : Nat), (vm_w ad tc i cs).set k (ad (i + k), vm_e ad tc e) = vm_w ad tc i (vm_u cs k e)
  | [], i, k => by simp [vm_w, vm_u]
  | a :: cs, i, 0 => by simp [vm_w, vm_u]
  | a :: cs, i, k + 1 => by
    simp only [vm_w, vm_u, List.set_cons_succ]
    rw [← vm_w_set ad tc e cs (i + 1) k, show i + 1 + k = i + (k + 1) by omega]
theorem vm_w_set0 (ad tc : Nat → Nat) (e : va_E) (cs : List va_E) (k : Nat) : (vm_w ad tc 0 cs).set k (ad k, vm_e ad tc e) = vm_w ad tc 0 (vm_u cs k e) := by
  have h := vm_w_set ad tc e cs 0 k
  rwa [Nat.zero_add] at h
theorem vm_w_len (ad tc : Nat → Nat) : ∀ (cs : List va_E) (i : Nat), (vm_w ad tc i cs).length = cs.length
  | [], i => rfl
  | a :: cs, i => by simp [vm_w, vm_w_len ad tc cs (i + 1)]
/-- the locals -/
def vm_as (ad : Nat → Nat) : Nat → List (Option Value) → List (Nat × Value)
  | _, [] => []
  | i, none :: t => vm_as ad (i + 1) t
  | i, some v :: t => (i, vm_v ad v) :: vm_as ad (i + 1) t
theorem vm_as_mem (ad : Nat → Nat) : ∀ (l : List (Option Value)) (i : Nat) (q : Nat × Value), q ∈ vm_as ad i l ↔ ∃ (k : Nat) (v : Value), q.1 = i + k ∧ l[k]? = some (some v) ∧ q.2 = vm_v ad v
  | [], i, q => by simp [vm_as]
  | none :: t, i, q => by
    rw [vm_as, vm_as_mem ad t (i + 1) q]
    constructor
    · rintro ⟨k, v, h1, h2, h3⟩
      exact ⟨k + 1, v, by omega, by simpa using h2, h3⟩
    · rintro ⟨k, v, h1, h2, h3⟩
      cases k with
      | zero => simp at h2
      | succ k => exact ⟨k, v, by omega, by simpa using h2, h3⟩
  | some w :: t, i, q => by
    rw [vm_as, List.mem_cons, vm_as_mem ad t (i + 1) q]
    constructor
    · rintro (h | ⟨k, v, h1, h2, h3⟩)
      · exact ⟨0, w, by rw [h]; rfl, by simp, by rw [h]⟩
      · exact ⟨k + 1, v, by omega, by simpa using h2, h3⟩
    · rintro ⟨k, v, h1, h2, h3⟩
      cases k with
      | zero =>
        simp at h2
        subst h2
        exact Or.inl (Prod.ext (by simpa using h1) h3)
      | succ k => exact Or.inr ⟨k, v, by omega, by simpa using h2, h3⟩
def vm_l (ad : Nat → Nat) (ls : Array Slot) (lv : List (Option Value)) : Prop := lv_has ls lv.length (vm_as ad 0 lv)
theorem vm_l_at {ad : Nat → Nat} {ls : Array Slot} {lv : List (Option Value)} {i : Nat} {v : Value} (h : vm_l ad ls lv) (hv : vm_g lv i = some (some v)) : ls[i]? = some (.val (vm_v ad v)) :=
  h.2.2 (i, vm_v ad v) ((vm_as_mem ad lv 0 _).mpr ⟨i, v, by simp, by rw [← vm_g_eq]; exact hv, rfl⟩)
theorem vm_l_s1 {ad : Nat → Nat} {ls' : Array Slot} {lv : List (Option Value)} {i : Nat} {v : Value} (h : lv_has ls' lv.length ((i, vm_v ad v) :: (vm_as ad 0 lv).filter (fun q => !(q.1 == i) && !(q.1 + 1 == i && q.2.category == 2)))) : vm_l ad ls' (vm_s1 lv i v) := by
  refine ⟨by rw [vm_s1_len]; exact h.1, h.2.1, fun q hq => h.2.2 q ?_⟩
  obtain ⟨k, w, h1, h2, h3⟩ := (vm_as_mem ad _ 0 q).mp hq
  rw [Nat.zero_add] at h1
  rcases vm_s1_get _ _ _ _ _ h2 with ⟨e1, e2⟩ | ⟨e1, e2, e3⟩
  · exact List.mem_cons.mpr (Or.inl (Prod.ext (by rw [h1, e1]) (by rw [h3, e2])))
  · refine List.mem_cons.mpr (Or.inr (List.mem_filter.mpr ⟨(vm_as_mem ad lv 0 q).mpr ⟨k, w, by omega, e2, h3⟩, ?_⟩))
    rw [h1, h3, vm_v_cat]
    by_cases hk : k + 1 = i
    · have : ¬ w.category = 2 := fun z => e3 ⟨hk, z⟩
      simp [e1, this]
    · simp [e1, hk]
theorem vm_l_s2 {ad : Nat → Nat} {ls' : Array Slot} {lv : List (Option Value)} {i : Nat} {v : Value} (h : lv_has ls' lv.length ((i, vm_v ad v) :: (vm_as ad 0 lv).filter (fun q => !(q.1 == i) && (!(q.1 == i + 1) && !(q.1 + 1 == i && q.2.category == 2))))) : vm_l ad ls' (vm_s2 lv i v) := by
  refine ⟨by rw [vm_s2_len]; exact h.1, h.2.1, fun q hq => h.2.2 q ?_⟩
  obtain ⟨k, w, h1, h2, h3⟩ := (vm_as_mem ad _ 0 q).mp hq
  rw [Nat.zero_add] at h1
  rcases vm_s2_get _ _ _ _ _ h2 with ⟨e1, e2⟩ | ⟨e1, e0, e2, e3⟩
  · exact List.mem_cons.mpr (Or.inl (Prod.ext (by rw [h1, e1]) (by rw [h3, e2])))
  · refine List.mem_cons.mpr (Or.inr (List.mem_filter.mpr ⟨(vm_as_mem ad lv 0 q).mpr ⟨k, w, by omega, e2, h3⟩, ?_⟩))
    rw [h1, h3, vm_v_cat]
    by_cases hk : k + 1 = i
    · have : ¬ w.category = 2 := fun z => e3 ⟨hk, z⟩
      simp [e1, e0, this]
    · simp [e1, e0, hk]
end
section
/-! what one instruction does to a picture -/
abbrev vm_I : Type := Instr ⊕ (Value × Nat) ⊕ (Nat × Nat × Nat × Nat × Nat) ⊕ (Nat × Int32)
abbrev vm_R : Type := Option (Prop × vm_S)
def G_ty : List FieldType := [.byte, .int, .long, .boolean, .object "ImageLoader$Segment"]
def G_mag : Nat → Int32
  | 0 => 127
  | 1 => 69
  | 2 => 76
  | 3 => 70
  | _ => 1
def vm_li (n : Nat) (S : vm_S) : vm_R := match vm_g S.1 n with
  | some (some (.int x)) => some (True, S.1, .int x :: S.2.1, S.2.2)
  | _ => none
def vm_ll (n : Nat) (S : vm_S) : vm_R := match vm_g S.1 n with
  | some (some (.long x)) => some (True, S.1, .long x :: S.2.1, S.2.2)
  | _ => none
def vm_la (n : Nat) (S : vm_S) : vm_R := match vm_g S.1 n with
  | some (some (.ref x)) => some (True, S.1, .ref x :: S.2.1, S.2.2)
  | _ => none
def vm_si (n : Nat) (S : vm_S) : vm_R := match S.2.1 with
  | .int x :: st => bif Nat.blt n S.1.length then some (True, vm_s1 S.1 n (.int x), st, S.2.2) else none
  | _ => none
def vm_sa (n : Nat) (S : vm_S) : vm_R := match S.2.1 with
  | .ref x :: st => bif Nat.blt n S.1.length then some (True, vm_s1 S.1 n (.ref x), st, S.2.2) else none
  | _ => none
def vm_sl (n : Nat) (S : vm_S) : vm_R := match S.2.1 with
  | .long x :: st => bif Nat.blt (n + 1) S.1.length then some (True, vm_s2 S.1 n (.long x), st, S.2.2) else none
  | _ => none
def vm_inc (n : Nat) (k : Int32) (S : vm_S) : vm_R := match vm_g S.1 n with
  | some (some (.int x)) => bif Nat.blt n S.1.length then some (True, vm_s1 S.1 n (.int (x + k)), S.2.1, S.2.2) else none
  | _ => none
def vm_ii (f : Int32 → Int32 → Int32) (S : vm_S) : vm_R := match S.2.1 with
  | .int y :: .int x :: st => some (True, S.1, .int (f x y) :: st, S.2.2)
  | _ => none
def vm_iq (f : Int32 → Int32 → Int32) (S : vm_S) : vm_R := match S.2.1 with
  | .int y :: .int x :: st => some (¬ y = 0, S.1, .int (f x y) :: st, S.2.2)
  | _ => none
def vm_jj (f : Int64 → Int64 → Int64) (S : vm_S) : vm_R := match S.2.1 with
  | .long y :: .long x :: st => some (True, S.1, .long (f x y) :: st, S.2.2)
  | _ => none
def vm_jq (f : Int64 → Int64 → Int64) (S : vm_S) : vm_R := match S.2.1 with
  | .long y :: .long x :: st => some (¬ y = 0, S.1, .long (f x y) :: st, S.2.2)
  | _ => none
def vm_ji (f : Int64 → Int32 → Int64) (S : vm_S) : vm_R := match S.2.1 with
  | .int y :: .long x :: st => some (True, S.1, .long (f x y) :: st, S.2.2)
  | _ => none
def vm_1i (f : Int32 → Value) (S : vm_S) : vm_R := match S.2.1 with
  | .int x :: st => some (True, S.1, f x :: st, S.2.2)
  | _ => none
def vm_1j (f : Int64 → Value) (S : vm_S) : vm_R := match S.2.1 with
  | .long x :: st => some (True, S.1, f x :: st, S.2.2)
  | _ => none
def vm_lcmp (S : vm_S) : vm_R := match S.2.1 with
  | .long y :: .long x :: st => some (True, S.1, .int (lg_cmp x y) :: st, S.2.2)
  | _ => none
def vm_dup (S : vm_S) : vm_R := match S.2.1 with
  | .int x :: st => some (True, S.1, .int x :: .int x :: st, S.2.2)
  | .ref x :: st => some (True, S.1, .ref x :: .ref x :: st, S.2.2)
  | _ => none
def vm_pop (S : vm_S) : vm_R := match S.2.1 with
  | .int x :: st => some (True, S.1, st, S.2.2)
  | .ref x :: st => some (True, S.1, st, S.2.2)
  | _ => none
/-- an array of ints at a place, of a kind -/
def vm_ai (cs : List va_E) (a : Nat) : Option (Nat × Nat × (Nat → Int32) × FieldType) := match vm_g cs a with
  | some (.inl (t, n, .inl f)) => match vm_g G_ty t with
    | some ty => some (t, n, f, ty)
    | none => none
  | _ => none
def vm_aj (cs : List va_E) (a : Nat) : Option (Nat × Nat × (Nat → Int64) × FieldType) := match vm_g cs a with
  | some (.inl (t, n, .inr (.inl f))) => match vm_g G_ty t with
    | some ty => some (t, n, f, ty)
    | none => none
  | _ => none
def vm_bald (S : vm_S) : vm_R := match S.2.1 with
  | .int i :: .ref a :: st => match vm_ai S.2.2 a with
    | some (_, n, f, .byte) => some (vp_in i n, S.1, .int (f i.toNatClampNeg) :: st, S.2.2)
    | some (_, n, f, .boolean) => some (vp_in i n, S.1, .int (f i.toNatClampNeg) :: st, S.2.2)
    | _ => none
  | _ => none
def vm_iald (S : vm_S) : vm_R := match S.2.1 with
  | .int i :: .ref a :: st => bif Nat.beq a 1000000 then some (vp_in i 7, S.1, .int (G_mag i.toNatClampNeg) :: st, S.2.2) else match vm_ai S.2.2 a with
    | some (_, n, f, .int) => some (vp_in i n, S.1, .int (f i.toNatClampNeg) :: st, S.2.2)
    | _ => none
  | _ => none
def vm_lald (S : vm_S) : vm_R := match S.2.1 with
  | .int i :: .ref a :: st => match vm_aj S.2.2 a with
    | some (_, n, f, .long) => some (vp_in i n, S.1, .long (f i.toNatClampNeg) :: st, S.2.2)
    | _ => none
  | _ => none
def vm_bast (S : vm_S) : vm_R := match S.2.1 with
  | .int x :: .int i :: .ref a :: st => match vm_ai S.2.2 a with
    | some (t, n, f, .byte) => some (vp_in i n, S.1, st, vm_u S.2.2 a (.inl (t, n, .inl (upd f i.toNatClampNeg (vp_nar .byte x)))))
    | some (t, n, f, .boolean) => some (vp_in i n, S.1, st, vm_u S.2.2 a (.inl (t, n, .inl (upd f i.toNatClampNeg (vp_nar .boolean x)))))
    | _ => none
  | _ => none
def vm_iast (S : vm_S) : vm_R := match S.2.1 with
  | .int x :: .int i :: .ref a :: st => match vm_ai S.2.2 a with
    | some (t, n, f, .int) => some (vp_in i n, S.1, st, vm_u S.2.2 a (.inl (t, n, .inl (upd f i.toNatClampNeg x))))
    | _ => none
  | _ => none
def vm_last (S : vm_S) : vm_R := match S.2.1 with
  | .long x :: .int i :: .ref a :: st => match vm_aj S.2.2 a with
    | some (t, n, f, .long) => some (vp_in i n, S.1, st, vm_u S.2.2 a (.inl (t, n, .inr (.inl (vp_updL f i.toNatClampNeg x)))))
    | _ => none
  | _ => none
def vm_alen (S : vm_S) : vm_R := match S.2.1 with
  | .ref a :: st => bif Nat.beq a 1000000 then some (True, S.1, .int 7 :: st, S.2.2) else match vm_g S.2.2 a with
    | some (.inl (t, x)) => match vm_g G_ty t with
      | some _ => some (True, S.1, .int (nI x.1) :: st, S.2.2)
      | none => none
    | _ => none
  | _ => none
def vm_p (i : Instr) (S : vm_S) : vm_R := match i with
  | .iload_n n => vm_li n.val S
  | .iload n => vm_li n S
  | .lload_n n => vm_ll n.val S
  | .lload n => vm_ll n S
  | .aload_n n => vm_la n.val S
  | .aload n => vm_la n S
  | .istore_n n => vm_si n.val S
  | .istore n => vm_si n S
  | .lstore_n n => vm_sl n.val S
  | .lstore n => vm_sl n S
  | .astore_n n => vm_sa n.val S
  | .astore n => vm_sa n S
  | .iadd => vm_ii (fun x y => x + y) S
  | .isub => vm_ii (fun x y => x - y) S
  | .imul => vm_ii (fun x y => x * y) S
  | .iand => vm_ii (fun x y => x &&& y) S
  | .ior => vm_ii (fun x y => x ||| y) S
  | .ixor => vm_ii (fun x y => x ^^^ y) S
  | .ishl => vm_ii (fun x y => x <<< (y &&& 31)) S
  | .ishr => vm_ii (fun x y => x >>> (y &&& 31)) S
  | .iushr => vm_ii (fun x y => (x.toUInt32 >>> (y.toUInt32 &&& Int32.toUInt32 31)).toInt32) S
  | .idiv => vm_iq (fun x y => x / y) S
  | .irem => vm_iq (fun x y => x - x / y * y) S
  | .ineg => vm_1i (fun x => .int (-x)) S
  | .i2l => vm_1i (fun x => .long x.toInt64) S
  | .i2b => vm_1i (fun x => .int x.toInt8.toInt32) S
  | .l2i => vm_1j (fun x => .int x.toInt32) S
  | .ladd => vm_jj (fun x y => x + y) S
  | .lsub => vm_jj (fun x y => x - y) S
  | .lmul => vm_jj (fun x y => x * y) S
  | .land => vm_jj (fun x y => x &&& y) S
  | .lor => vm_jj (fun x y => x ||| y) S
  | .ldiv => vm_jq (fun x y => x / y) S
  | .lrem => vm_jq (fun x y => x - x / y * y) S
  | .lshl => vm_ji (fun x y => x <<< (y.toInt64 &&& 63)) S
  | .lshr => vm_ji (fun x y => x >>> (y.toInt64 &&& 63)) S
  | .lushr => vm_ji (fun x y => (x.toUInt64 >>> (y.toInt64.toUInt64 &&& Int64.toUInt64 63)).toInt64) S
  | .lcmp => vm_lcmp S
  | .dup => vm_dup S
  | .pop => vm_pop S
  | .baload => vm_bald S
  | .iaload => vm_iald S
  | .laload => vm_lald S
  | .bastore => vm_bast S
  | .iastore => vm_iast S
  | .lastore => vm_last S
  | .arraylength => vm_alen S
  | _ => none
def vm_len (i : Instr) : Nat := match i with
  | .iload _ => 2
  | .lload _ => 2
  | .aload _ => 2
  | .istore _ => 2
  | .lstore _ => 2
  | .astore _ => 2
  | _ => 1
def vm_gf (ci k : Nat) (S : vm_S) : vm_R := match S.2.1 with
  | .ref a :: st => match vm_g S.2.2 a with
    | some (.inr (c, fs)) => match Nat.beq c ci, vm_g fs k with
      | true, some v => some (True, S.1, v :: st, S.2.2)
      | _, _ => none
    | _ => none
  | _ => none
/-- a value that a field of that kind takes as it is -/
def vm_fit (ty : FieldType) (v : Value) : Bool := match ty, v with
  | .int, .int _ => true
  | .long, .long _ => true
  | .object _, .ref _ => true
  | .array _, .ref _ => true
  | _, _ => false
def G_ft (ci k : Nat) : FieldType := match ci with
  | 0 => tyX0 k
  | 1 => tyX1 k
  | 2 => tyX2 k
  | 3 => tyX3 k
  | 4 => tyX4 k
  | _ => tyX5 k
def vm_pf (ci k : Nat) (S : vm_S) : vm_R := match S.2.1 with
  | v :: .ref a :: st => match vm_g S.2.2 a with
    | some (.inr (c, fs)) => match Nat.beq c ci, Nat.blt k fs.length, vm_fit (G_ft ci k) v with
      | true, true, true => some (True, S.1, st, vm_u S.2.2 a (.inr (ci, vm_u fs k v)))
      | _, _, _ => none
    | _ => none
  | _ => none
def vm_x1 (i : vm_I) (S : vm_S) : vm_R := match i with
  | .inl j => vm_p j S
  | .inr (.inl (v, _)) => some (True, S.1, v :: S.2.1, S.2.2)
  | .inr (.inr (.inl (0, _, _, ci, k))) => vm_gf ci k S
  | .inr (.inr (.inl (1, _, _, ci, k))) => vm_pf ci k S
  | .inr (.inr (.inl (2, _, _, ci, k))) => vm_gf ci k S
  | .inr (.inr (.inl (3, _, _, ci, k))) => vm_pf ci k S
  | .inr (.inr (.inl (4, _, _, _, _))) => some (True, S.1, .ref 1000000 :: S.2.1, S.2.2)
  | .inr (.inr (.inl _)) => none
  | .inr (.inr (.inr (n, k))) => vm_inc n k S
end
section
/-! the words, the surroundings of a run, and one instruction over the machine -/
abbrev vm_M : Type := String × MethodName × ByteArray × Nat × Option FieldType × Nat × Nat
def G_big : List Jvm.Cond := lw_tbl.filter goodWord
def vm_at (pl : Nat) (w : Jvm.Cond) : Bool := decide (vm_g lw_tbl pl = some w) && goodWord w
theorem vm_at_in {pl : Nat} {w : Jvm.Cond} (h : vm_at pl w = true) : w ∈ G_big := by
  simp only [vm_at, Bool.and_eq_true, decide_eq_true_eq] at h
  rw [vm_g_eq] at h
  exact List.mem_filter.mpr ⟨List.mem_of_getElem? h.1, h.2⟩
def G_nest : List Jvm.Cond := [.methodLinkNest "ImageLoader$Image" 17 ⟨"ImageLoader$Segment", "<init>", "()V"⟩ "ImageLoader", .fieldLinkNest "ImageLoader$Image" 139 "ImageLoader$Segment" "offset" "J" "ImageLoader", .fieldLinkNest "ImageLoader$Image" 136 "ImageLoader$Segment" "filed" "J" "ImageLoader", .fieldLinkNest "ImageLoader$Image" 133 "ImageLoader$Segment" "held" "J" "ImageLoader", .fieldLinkNest "ImageLoader$Image" 183 "ImageLoader$Segment" "flags" "I" "ImageLoader", .methodLinkNest "ImageLoader$Space" 26 ⟨"ImageLoader", "isPage", "(I)Z"⟩ "ImageLoader", .methodLinkNest "ImageLoader$Space" 45 ⟨"ImageLoader", "isSize", "(I)Z"⟩ "ImageLoader"]
def vm_tys (tc : Nat → Nat) : List (ClassId × FieldType) := [(tc 0, .byte), (tc 1, .int), (tc 2, .long), (tc 3, .boolean), (tc 4, .object "ImageLoader$Segment")]
theorem vm_tys_at {tc : Nat → Nat} {t : Nat} {ty : FieldType} (h : vm_g G_ty t = some ty) : (vm_tys tc)[t]? = some (tc t, ty) := by
  match t, h with
  | 0, h => cases h; rfl
  | 1, h => cases h; rfl
  | 2, h => cases h; rfl
  | 3, h => cases h; rfl
  | 4, h => cases h; rfl
  | t + 5, h => simp [G_ty, vm_g] at h
def vm_T (ad : Nat → Nat) (A : Nat → Prop) (U : State) (H : Heap) : Prop := va_Z "ImageLoader$Image" "MAGIC" "[I" (.ref (ad 1000000)) A U H ∧ va_T .int (ad 1000000) 7 (fun j => .int (G_mag j)) A U H ∧ va_AO "ImageLoader$Segment" U
def vm_C (M : vm_M) (p : Program) (R : Room) (s : State) (m : MethodId) (args : Array Value) (meth : Method) (c : Code) (D : va_G) (ad tc : Nat → Nat) (A : Nat → Prop) : Prop :=
  p.tables.exec = Jvm.exec ∧ c.code = M.2.2.1 ∧ c.maxLocals = M.2.2.2.1 ∧ s.vm.findClass M.1 = some m.cls ∧ (∀ w ∈ G_big, w.before args s = true) ∧ va_K D vwCl (vm_tys tc) s ∧ (∀ q, s.heap.size ≤ q → A q) ∧
  (∀ w ∈ G_nest, va_Nw w s) ∧ meth.locks = false ∧ meth.name = M.2.1.name ∧ (M.2.2.2.2.2.1 ≤ R.frames ∧ M.2.2.2.2.2.2 ≤ R.locals) ∧ vm_T ad A s s.heap
def vm_W (p : Program) (l : Launch) (e : Env) (R : Room) (s : State) (m : MethodId) (args : Array Value) (below : List Frame) (meth : Method) (c : Code) (cells slots : Nat) (Q : State → Prop) (D : va_G) (ad tc : Nat → Nat) (A : Nat → Prop) (pc : Nat) (S : vm_S) : Prop :=
  ∀ (H : Heap) (locs : List Loc) (ls : Array Slot), vm_l ad ls S.1 → va_P D vwCl (vm_w ad tc 0 S.2.2) H → va_D A (vm_w ad tc 0 S.2.2) → va_S A s.heap H locs → W p l e R s m args below meth c H locs cells slots Q (F0 m pc ls (S.2.1.map (vm_v ad)))
set_option maxRecDepth 100000 in
theorem G_in0 : ∀ w ∈ u_ws RX0 TX0 13, w ∈ G_big := by decide +kernel
set_option maxRecDepth 100000 in
theorem G_in1 : ∀ w ∈ u_ws RX1 TX1 7, w ∈ G_big := by decide +kernel
set_option maxRecDepth 100000 in
theorem G_in2 : ∀ w ∈ u_ws RX2 TX2 4, w ∈ G_big := by decide +kernel
set_option maxRecDepth 100000 in
theorem G_in3 : ∀ w ∈ u_ws RX3 TX3 2, w ∈ G_big := by decide +kernel
set_option maxRecDepth 100000 in
theorem G_in4 : ∀ w ∈ u_ws RX4 TX4 8, w ∈ G_big := by decide +kernel
set_option maxRecDepth 100000 in
theorem G_in5 : ∀ w ∈ u_ws RX5 TX5 24, w ∈ G_big := by decide +kernel
theorem G_cl {ci : Nat} {C : String} {T : u_T} {N : Nat} (h : vm_g vwCl ci = some (C, T, N)) : vwCl[ci]? = some (C, T, N) ∧ (∀ w ∈ u_ws C T N, w ∈ G_big) ∧ (∀ k, k < N → parseFieldDescriptor (T k).2.2.1 = some (G_ft ci k)) ∧ (∀ a, a < N → ∀ b, b < N → a ≠ b → (T a).2.1 ≠ (T b).2.1) := by
  refine ⟨by rw [← vm_g_eq]; exact h, ?_⟩
  match ci, h with
  | 0, h => cases h; exact ⟨G_in0, tyX0_ok, nmX0⟩
  | 1, h => cases h; exact ⟨G_in1, tyX1_ok, nmX1⟩
  | 2, h => cases h; exact ⟨G_in2, tyX2_ok, nmX2⟩
  | 3, h => cases h; exact ⟨G_in3, tyX3_ok, nmX3⟩
  | 4, h => cases h; exact ⟨G_in4, tyX4_ok, nmX4⟩
  | 5, h => cases h; exact ⟨G_in5, tyX5_ok, nmX5⟩
  | n + 6, h => simp [vwCl, vm_g] at h
def vm_okc (M : vm_M) (raw : Instr) (len : Nat) (v : Value) (pl : Nat) : Bool := match raw, v with
  | .iconst n, .int x => decide (Int32.ofInt n = x) && Nat.beq len 1
  | .bipush n, .int x => decide ((Int8.ofInt n).toInt32 = x) && Nat.beq len 2
  | .sipush n, .int x => decide ((Int16.ofInt n).toInt32 = x) && Nat.beq len 3
  | .lconst n, .long x => decide (Int64.ofNat (n : Nat) = x) && Nat.beq len 1
  | .ldc2_w idx, .long x => vm_at pl (.constantLong M.1 idx x) && Nat.beq len 3
  | _, _ => false
def vm_okf (M : vm_M) (raw : Instr) (len op pl idx ci k : Nat) : Bool := match vm_g vwCl ci with
  | some (_, T, N) => Nat.beq len 3 && (Nat.blt k N && (match op with
    | 0 => decide (raw = .getfield idx) && vm_at pl (.fieldLink M.1 idx (T k).1 (T k).2.1 (T k).2.2.1)
    | 1 => decide (raw = .putfield idx) && (vm_at pl (.fieldLink M.1 idx (T k).1 (T k).2.1 (T k).2.2.1) && !(T k).2.2.2)
    | 2 => decide (raw = .getfield idx) && decide (vm_g G_nest pl = some (.fieldLinkNest M.1 idx (T k).1 (T k).2.1 (T k).2.2.1 "ImageLoader"))
    | 3 => decide (raw = .putfield idx) && (vm_at pl (.fieldLink M.1 idx (T k).1 (T k).2.1 (T k).2.2.1) && ((T k).2.2.2 && (decide ((T k).1 = M.1) && decide (M.2.1.name = "<init>"))))
    | 4 => decide (raw = .getstatic idx) && vm_at pl (.fieldLink M.1 idx "ImageLoader$Image" "MAGIC" "[I")
    | _ => false))
  | none => false
def vm_okI (M : vm_M) (raw : Instr) (len : Nat) (i : vm_I) : Bool := match i with
  | .inl j => decide (raw = j) && Nat.beq len (vm_len j)
  | .inr (.inl (v, pl)) => vm_okc M raw len v pl
  | .inr (.inr (.inl (op, pl, idx, ci, k))) => vm_okf M raw len op pl idx ci k
  | .inr (.inr (.inr (n, c))) => match raw with
    | .iinc n' k => Nat.beq n n' && (decide (Int32.ofInt k = c) && Nat.beq len 3)
    | _ => false
section VM3
variable {p : Program} {l : Launch} {e : Env} {R : Room} {s : State} {m : MethodId} {args : Array Value} {below : List Frame} {meth : Method} {c : Code} {cells slots : Nat} {Q : State → Prop} {D : va_G} {ad tc : Nat → Nat} {A : Nat → Prop} {M : vm_M} {pc pc' : Nat} {S S' : vm_S} {g : Prop}
theorem vm_li_ok {n : Nat} (hs : vm_li n S = some (g, S')) (row : ∀ (H : Heap) (locs : List Loc) (ls : Array Slot) (rest : List Value) (x : Int32), ls[n]? = some (.val (.int x)) → W p l e R s m args below meth c H locs cells slots Q (F0 m pc' ls (.int x :: rest)) → W p l e R s m args below meth c H locs cells slots Q (F0 m pc ls rest))
    (k : vm_W p l e R s m args below meth c cells slots Q D ad tc A pc' S') : vm_W p l e R s m args below meth c cells slots Q D ad tc A pc S := by
  unfold vm_li at hs
  split at hs
  · rename_i x hx
    cases hs
    intro H locs ls h1 h2 h3 h4
    exact row H locs ls _ x (vm_l_at h1 hx) (k H locs ls h1 h2 h3 h4)
  · cases hs
theorem vm_ll_ok {n : Nat} (hs : vm_ll n S = some (g, S')) (row : ∀ (H : Heap) (locs : List Loc) (ls : Array Slot) (rest : List Value) (x : Int64), ls[n]? = some (.val (.long x)) → W p l e R s m args below meth c H locs cells slots Q (F0 m pc' ls (.long x :: rest)) → W p l e R s m args below meth c H locs cells slots Q (F0 m pc ls rest))
    (k : vm_W p l e R s m args below meth c cells slots Q D ad tc A pc' S') : vm_W p l e R s m args below meth c cells slots Q D ad tc A pc S := by
  unfold vm_ll at hs
  split at hs
  · rename_i x hx
    cases hs
    intro H locs ls h1 h2 h3 h4
    exact row H locs ls _ x (vm_l_at h1 hx) (k H locs ls h1 h2 h3 h4)
  · cases hs
theorem vm_la_ok {n : Nat} (hs : vm_la n S = some (g, S')) (row : ∀ (H : Heap) (locs : List Loc) (ls : Array Slot) (rest : List Value) (x : Nat), ls[n]? = some (.val (.ref x)) → W p l e R s m args below meth c H locs cells slots Q (F0 m pc' ls (.ref x :: rest)) → W p l e R s m args below meth c H locs cells slots Q (F0 m pc ls rest))
    (k : vm_W p l e R s m args below meth c cells slots Q D ad tc A pc' S') : vm_W p l e R s m args below meth c cells slots Q D ad tc A pc S := by
  unfold vm_la at hs
  split at hs
  · rename_i x hx
    cases hs
    intro H locs ls h1 h2 h3 h4
    exact row H locs ls _ (ad x) (vm_l_at h1 hx) (k H locs ls h1 h2 h3 h4)
  · cases hs
theorem vm_blt {a b : Nat} {α : Type} {x y : α} (h : (bif Nat.blt a b then some x else none) = some y) : a < b ∧ x = y := by
  cases hb : Nat.blt a b with
  | false => rw [hb] at h; cases h
  | true => rw [hb] at h; exact ⟨Nat.le_of_ble_eq_true hb, Option.some.inj h⟩
theorem vm_si_ok {n : Nat} (hs : vm_si n S = some (g, S')) (row : ∀ (H : Heap) (locs : List Loc) (ls : Array Slot) (rest : List Value) (x : Int32) (nL : Nat) (lv : List (Nat × Value)), lv_has ls nL lv → n < nL → (∀ ls' : Array Slot, lv_has ls' nL ((n, Value.int x) :: lv.filter (fun q => !(q.1 == n) && !(q.1 + 1 == n && q.2.category == 2))) → W p l e R s m args below meth c H locs cells slots Q (F0 m pc' ls' rest)) → W p l e R s m args below meth c H locs cells slots Q (F0 m pc ls (.int x :: rest)))
    (k : vm_W p l e R s m args below meth c cells slots Q D ad tc A pc' S') : vm_W p l e R s m args below meth c cells slots Q D ad tc A pc S := by
  obtain ⟨lv, st, cs⟩ := S
  unfold vm_si at hs
  split at hs
  · rename_i x st' hx
    obtain ⟨hn, he⟩ := vm_blt hs
    cases he
    cases hx
    intro H locs ls h1 h2 h3 h4
    exact row H locs ls _ x _ _ h1 hn (fun ls' hl' => k H locs ls' (vm_l_s1 hl') h2 h3 h4)
  · cases hs
theorem vm_sa_ok {n : Nat} (hs : vm_sa n S = some (g, S')) (row : ∀ (H : Heap) (locs : List Loc) (ls : Array Slot) (rest : List Value) (x : Nat) (nL : Nat) (lv : List (Nat × Value)), lv_has ls nL lv → n < nL → (∀ ls' : Array Slot, lv_has ls' nL ((n, Value.ref x) :: lv.filter (fun q => !(q.1 == n) && !(q.1 + 1 == n && q.2.category == 2))) → W p l e R s m args below meth c H locs cells slots Q (F0 m pc' ls' rest)) → W p l e R s m args below meth c H locs cells slots Q (F0 m pc ls (.ref x :: rest)))
    (k : vm_W p l e R s m args below meth c cells slots Q D ad tc A pc' S') : vm_W p l e R s m args below meth c cells slots Q D ad tc A pc S := by
  obtain ⟨lv, st, cs⟩ := S
  unfold vm_sa at hs
  split at hs
  · rename_i x st' hx
    obtain ⟨hn, he⟩ := vm_blt hs
    cases he
    cases hx
    intro H locs ls h1 h2 h3 h4
    exact row H locs ls _ (ad x) _ _ h1 hn (fun ls' hl' => k H locs ls' (vm_l_s1 (v := .ref x) hl') h2 h3 h4)
  · cases hs
theorem vm_sl_ok {n : Nat} (hs : vm_sl n S = some (g, S')) (row : ∀ (H : Heap) (locs : List Loc) (ls : Array Slot) (rest : List Value) (x : Int64) (nL : Nat) (lv : List (Nat × Value)), lv_has ls nL lv → n + 1 < nL → (∀ ls' : Array Slot, lv_has ls' nL ((n, Value.long x) :: lv.filter (fun q => !(q.1 == n) && (!(q.1 == n + 1) && !(q.1 + 1 == n && q.2.category == 2)))) → W p l e R s m args below meth c H locs cells slots Q (F0 m pc' ls' rest)) → W p l e R s m args below meth c H locs cells slots Q (F0 m pc ls (.long x :: rest)))
    (k : vm_W p l e R s m args below meth c cells slots Q D ad tc A pc' S') : vm_W p l e R s m args below meth c cells slots Q D ad tc A pc S := by
  obtain ⟨lv, st, cs⟩ := S
  unfold vm_sl at hs
  split at hs
  · rename_i x st' hx
    obtain ⟨hn, he⟩ := vm_blt hs
    cases he
    cases hx
    intro H locs ls h1 h2 h3 h4
    exact row H locs ls _ x _ _ h1 hn (fun ls' hl' => k H locs ls' (vm_l_s2 hl') h2 h3 h4)
  · cases hs
theorem vm_inc_ok {n : Nat} {kk : Int32} (hs : vm_inc n kk S = some (g, S')) (row : ∀ (H : Heap) (locs : List Loc) (ls : Array Slot) (rest : List Value) (x : Int32) (nL j : Nat) (lv : List (Nat × Value)), lv_has ls nL lv → lv[j]? = some (n, .int x) → n < nL → (∀ ls' : Array Slot, lv_has ls' nL ((n, Value.int (x + kk)) :: lv.filter (fun q => !(q.1 == n) && !(q.1 + 1 == n && q.2.category == 2))) → W p l e R s m args below meth c H locs cells slots Q (F0 m pc' ls' rest)) → W p l e R s m args below meth c H locs cells slots Q (F0 m pc ls rest))
    (k : vm_W p l e R s m args below meth c cells slots Q D ad tc A pc' S') : vm_W p l e R s m args below meth c cells slots Q D ad tc A pc S := by
  obtain ⟨lv, st, cs⟩ := S
  unfold vm_inc at hs
  split at hs
  · rename_i x hx
    obtain ⟨hn, he⟩ := vm_blt hs
    cases he
    intro H locs ls h1 h2 h3 h4
    obtain ⟨j, hj⟩ := List.getElem?_of_mem ((vm_as_mem ad lv 0 (n, .int x)).mpr ⟨n, .int x, by simp, by rw [← vm_g_eq]; exact hx, rfl⟩)
    exact row H locs ls _ x _ j _ h1 hj hn (fun ls' hl' => k H locs ls' (vm_l_s1 (v := .int (x + kk)) hl') h2 h3 h4)
  · cases hs
theorem vm_ii_ok {f : Int32 → Int32 → Int32} (hs : vm_ii f S = some (g, S')) (row : ∀ (H : Heap) (locs : List Loc) (ls : Array Slot) (rest : List Value) (x y : Int32), W p l e R s m args below meth c H locs cells slots Q (F0 m pc' ls (.int (f x y) :: rest)) → W p l e R s m args below meth c H locs cells slots Q (F0 m pc ls (.int y :: .int x :: rest)))
    (k : vm_W p l e R s m args below meth c cells slots Q D ad tc A pc' S') : vm_W p l e R s m args below meth c cells slots Q D ad tc A pc S := by
  obtain ⟨lv, st, cs⟩ := S
  unfold vm_ii at hs
  split at hs
  · rename_i y x st' hx
    cases hs
    cases hx
    intro H locs ls h1 h2 h3 h4
    exact row H locs ls _ x y (k H locs ls h1 h2 h3 h4)
  · cases hs
theorem vm_iq_ok {f : Int32 → Int32 → Int32} (hs : vm_iq f S = some (g, S')) (hg : g) (row : ∀ (H : Heap) (locs : List Loc) (ls : Array Slot) (rest : List Value) (x y : Int32), ¬ y = 0 → W p l e R s m args below meth c H locs cells slots Q (F0 m pc' ls (.int (f x y) :: rest)) → W p l e R s m args below meth c H locs cells slots Q (F0 m pc ls (.int y :: .int x :: rest)))
    (k : vm_W p l e R s m args below meth c cells slots Q D ad tc A pc' S') : vm_W p l e R s m args below meth c cells slots Q D ad tc A pc S := by
  obtain ⟨lv, st, cs⟩ := S
  unfold vm_iq at hs
  split at hs
  · rename_i y x st' hx
    cases hs
    cases hx
    intro H locs ls h1 h2 h3 h4
    exact row H locs ls _ x y hg (k H locs ls h1 h2 h3 h4)
  · cases hs
theorem vm_jj_ok {f : Int64 → Int64 → Int64} (hs : vm_jj f S = some (g, S')) (row : ∀ (H : Heap) (locs : List Loc) (ls : Array Slot) (rest : List Value) (x y : Int64), W p l e R s m args below meth c H locs cells slots Q (F0 m pc' ls (.long (f x y) :: rest)) → W p l e R s m args below meth c H locs cells slots Q (F0 m pc ls (.long y :: .long x :: rest)))
    (k : vm_W p l e R s m args below meth c cells slots Q D ad tc A pc' S') : vm_W p l e R s m args below meth c cells slots Q D ad tc A pc S := by
  obtain ⟨lv, st, cs⟩ := S
  unfold vm_jj at hs
  split at hs
  · rename_i y x st' hx
    cases hs
    cases hx
    intro H locs ls h1 h2 h3 h4
    exact row H locs ls _ x y (k H locs ls h1 h2 h3 h4)
  · cases hs
theorem vm_jq_ok {f : Int64 → Int64 → Int64} (hs : vm_jq f S = some (g, S')) (hg : g) (row : ∀ (H : Heap) (locs : List Loc) (ls : Array Slot) (rest : List Value) (x y : Int64), ¬ y = 0 → W p l e R s m args below meth c H locs cells slots Q (F0 m pc' ls (.long (f x y) :: rest)) → W p l e R s m args below meth c H locs cells slots Q (F0 m pc ls (.long y :: .long x :: rest)))
    (k : vm_W p l e R s m args below meth c cells slots Q D ad tc A pc' S') : vm_W p l e R s m args below meth c cells slots Q D ad tc A pc S := by
  obtain ⟨lv, st, cs⟩ := S
  unfold vm_jq at hs
  split at hs
  · rename_i y x st' hx
    cases hs
    cases hx
    intro H locs ls h1 h2 h3 h4
    exact row H locs ls _ x y hg (k H locs ls h1 h2 h3 h4)
  · cases hs
theorem vm_ji_ok {f : Int64 → Int32 → Int64} (hs : vm_ji f S = some (g, S')) (row : ∀ (H : Heap) (locs : List Loc) (ls : Array Slot) (rest : List Value) (x : Int64) (y : Int32), W p l e R s m args below meth c H locs cells slots Q (F0 m pc' ls (.long (f x y) :: rest)) → W p l e R s m args below meth c H locs cells slots Q (F0 m pc ls (.int y :: .long x :: rest)))
    (k : vm_W p l e R s m args below meth c cells slots Q D ad tc A pc' S') : vm_W p l e R s m args below meth c cells slots Q D ad tc A pc S := by
  obtain ⟨lv, st, cs⟩ := S
  unfold vm_ji at hs
  split at hs
  · rename_i y x st' hx
    cases hs
    cases hx
    intro H locs ls h1 h2 h3 h4
    exact row H locs ls _ x y (k H locs ls h1 h2 h3 h4)
  · cases hs
theorem vm_1i_ok {f : Int32 → Value} (hf : ∀ x, vm_v ad (f x) = f x) (hs : vm_1i f S = some (g, S')) (row : ∀ (H : Heap) (locs : List Loc) (ls : Array Slot) (rest : List Value) (x : Int32), W p l e R s m args below meth c H locs cells slots Q (F0 m pc' ls (f x :: rest)) → W p l e R s m args below meth c H locs cells slots Q (F0 m pc ls (.int x :: rest)))
    (k : vm_W p l e R s m args below meth c cells slots Q D ad tc A pc' S') : vm_W p l e R s m args below meth c cells slots Q D ad tc A pc S := by
  obtain ⟨lv, st, cs⟩ := S
  unfold vm_1i at hs
  split at hs
  · rename_i x st' hx
    cases hs
    cases hx
    intro H locs ls h1 h2 h3 h4
    have k2 := k H locs ls h1 h2 h3 h4
    simp only [List.map_cons, hf] at k2
    exact row H locs ls _ x k2
  · cases hs
theorem vm_1j_ok {f : Int64 → Value} (hf : ∀ x, vm_v ad (f x) = f x) (hs : vm_1j f S = some (g, S')) (row : ∀ (H : Heap) (locs : List Loc) (ls : Array Slot) (rest : List Value) (x : Int64), W p l e R s m args below meth c H locs cells slots Q (F0 m pc' ls (f x :: rest)) → W p l e R s m args below meth c H locs cells slots Q (F0 m pc ls (.long x :: rest)))
    (k : vm_W p l e R s m args below meth c cells slots Q D ad tc A pc' S') : vm_W p l e R s m args below meth c cells slots Q D ad tc A pc S := by
  obtain ⟨lv, st, cs⟩ := S
  unfold vm_1j at hs
  split at hs
  · rename_i x st' hx
    cases hs
    cases hx
    intro H locs ls h1 h2 h3 h4
    have k2 := k H locs ls h1 h2 h3 h4
    simp only [List.map_cons, hf] at k2
    exact row H locs ls _ x k2
  · cases hs
end VM3
end
section
/-! arrays, fields; one instruction, whatever it is; a stretch of instructions -/
theorem vm_ai_inv {cs : List va_E} {a t n : Nat} {f : Nat → Int32} {ty : FieldType} (h : vm_ai cs a = some (t, n, f, ty)) : vm_g cs a = some (.inl (t, n, .inl f)) ∧ vm_g G_ty t = some ty := by
  unfold vm_ai at h
  split at h
  · rename_i t' n' f' h1
    split at h
    · rename_i ty' h2
      cases h
      exact ⟨h1, h2⟩
    · cases h
  · cases h
theorem vm_aj_inv {cs : List va_E} {a t n : Nat} {f : Nat → Int64} {ty : FieldType} (h : vm_aj cs a = some (t, n, f, ty)) : vm_g cs a = some (.inl (t, n, .inr (.inl f))) ∧ vm_g G_ty t = some ty := by
  unfold vm_aj at h
  split at h
  · rename_i t' n' f' h1
    split at h
    · rename_i ty' h2
      cases h
      exact ⟨h1, h2⟩
    · cases h
  · cases h
theorem vm_wP {D : va_G} {ad tc : Nat → Nat} {cs : List va_E} {a : Nat} {e : va_E} {H : Heap} (h : va_P D vwCl ((vm_w ad tc 0 cs).set a (ad a, vm_e ad tc e)) H) : va_P D vwCl (vm_w ad tc 0 (vm_u cs a e)) H := by
  rw [← vm_w_set0]; exact h
theorem vm_wD {A : Nat → Prop} {ad tc : Nat → Nat} {cs : List va_E} {a : Nat} {e : va_E} (h : va_D A ((vm_w ad tc 0 cs).set a (ad a, vm_e ad tc e))) : va_D A (vm_w ad tc 0 (vm_u cs a e)) := by
  rw [← vm_w_set0]; exact h
theorem vm_fs_set (ad : Nat → Nat) (fs : List Value) (k : Nat) (v : Value) : (vm_u fs k v).map (vm_v ad) = (fs.map (vm_v ad)).set k (vm_v ad v) := by
  rw [vm_u_eq, List.map_set]
theorem vm_fit_ok {ty : FieldType} {v : Value} (ad : Nat → Nat) (h : vm_fit ty v = true) : narrow ty (vm_v ad v) = vm_v ad v ∧ fits ty (vm_v ad v) = true := by
  match ty, v, h with
  | .int, .int _, _ => exact ⟨rfl, rfl⟩
  | .long, .long _, _ => exact ⟨rfl, rfl⟩
  | .object _, .ref _, _ => exact ⟨rfl, rfl⟩
  | .array _, .ref _, _ => exact ⟨rfl, rfl⟩
section VM4
variable {p : Program} {l : Launch} {e : Env} {R : Room} {s : State} {m : MethodId} {args : Array Value} {below : List Frame} {meth : Method} {c : Code} {cells slots : Nat} {Q : State → Prop} {D : va_G} {ad tc : Nat → Nat} {A : Nat → Prop} {M : vm_M} {pc pc' : Nat} {S S' : vm_S} {g : Prop}
theorem vm_lcmp_ok (C : vm_C M p R s m args meth c D ad tc A) (hd : decode M.2.2.1 pc = .ok (.lcmp, 1)) (hs : vm_lcmp S = some (g, S')) (k : vm_W p l e R s m args below meth c cells slots Q D ad tc A (pc + 1) S') : vm_W p l e R s m args below meth c cells slots Q D ad tc A pc S := by
  obtain ⟨hx, hb, hml, hown, hts, hK, hA, hN, hlk, hnm, hR, hT⟩ := C
  obtain ⟨lv, st, cs⟩ := S
  unfold vm_lcmp at hs
  split at hs
  · rename_i y x st' hst
    cases hs
    cases hst
    intro H locs ls h1 h2 h3 h4
    exact W.lcmp hx hb hd (k H locs ls h1 h2 h3 h4)
  · cases hs
theorem vm_dup_ok (C : vm_C M p R s m args meth c D ad tc A) (hd : decode M.2.2.1 pc = .ok (.dup, 1)) (hs : vm_dup S = some (g, S')) (k : vm_W p l e R s m args below meth c cells slots Q D ad tc A (pc + 1) S') : vm_W p l e R s m args below meth c cells slots Q D ad tc A pc S := by
  obtain ⟨hx, hb, hml, hown, hts, hK, hA, hN, hlk, hnm, hR, hT⟩ := C
  obtain ⟨lv, st, cs⟩ := S
  unfold vm_dup at hs
  split at hs
  · rename_i x st' hst
    cases hs
    cases hst
    intro H locs ls h1 h2 h3 h4
    exact lv_dup hx hb hd rfl (k H locs ls h1 h2 h3 h4)
  · rename_i x st' hst
    cases hs
    cases hst
    intro H locs ls h1 h2 h3 h4
    exact lv_dup hx hb hd rfl (k H locs ls h1 h2 h3 h4)
  · cases hs
theorem vm_pop_ok (C : vm_C M p R s m args meth c D ad tc A) (hd : decode M.2.2.1 pc = .ok (.pop, 1)) (hs : vm_pop S = some (g, S')) (k : vm_W p l e R s m args below meth c cells slots Q D ad tc A (pc + 1) S') : vm_W p l e R s m args below meth c cells slots Q D ad tc A pc S := by
  obtain ⟨hx, hb, hml, hown, hts, hK, hA, hN, hlk, hnm, hR, hT⟩ := C
  obtain ⟨lv, st, cs⟩ := S
  unfold vm_pop at hs
  split at hs
  · rename_i x st' hst
    cases hs
    cases hst
    intro H locs ls h1 h2 h3 h4
    exact lv_pop hx hb hd rfl (k H locs ls h1 h2 h3 h4)
  · rename_i x st' hst
    cases hs
    cases hst
    intro H locs ls h1 h2 h3 h4
    exact lv_pop hx hb hd rfl (k H locs ls h1 h2 h3 h4)
  · cases hs
theorem vm_bald_ok (C : vm_C M p R s m args meth c D ad tc A) (hd : decode M.2.2.1 pc = .ok (.baload, 1)) (hs : vm_bald S = some (g, S')) (hg : g) (k : vm_W p l e R s m args below meth c cells slots Q D ad tc A (pc + 1) S') : vm_W p l e R s m args below meth c cells slots Q D ad tc A pc S := by
  obtain ⟨hx, hb, hml, hown, hts, hK, hA, hN, hlk, hnm, hR, hT⟩ := C
  obtain ⟨lv, st, cs⟩ := S
  unfold vm_bald at hs
  split at hs
  · rename_i i a st' hst
    split at hs
    · rename_i t n f hai
      cases hs
      cases hst
      obtain ⟨e1, e2⟩ := vm_ai_inv hai
      intro H locs ls h1 h2 h3 h4
      exact va_bald hx hb hK h2 a t (vm_w_at e1) (vm_tys_at e2) hg hd (k H locs ls h1 h2 h3 h4)
    · rename_i t n f hai
      cases hs
      cases hst
      obtain ⟨e1, e2⟩ := vm_ai_inv hai
      intro H locs ls h1 h2 h3 h4
      exact va_zald hx hb hK h2 a t (vm_w_at e1) (vm_tys_at e2) hg hd (k H locs ls h1 h2 h3 h4)
    · cases hs
  · cases hs
theorem vm_iald_ok (C : vm_C M p R s m args meth c D ad tc A) (hd : decode M.2.2.1 pc = .ok (.iaload, 1)) (hs : vm_iald S = some (g, S')) (hg : g) (k : vm_W p l e R s m args below meth c cells slots Q D ad tc A (pc + 1) S') : vm_W p l e R s m args below meth c cells slots Q D ad tc A pc S := by
  obtain ⟨hx, hb, hml, hown, hts, hK, hA, hN, hlk, hnm, hR, hT⟩ := C
  obtain ⟨lv, st, cs⟩ := S
  unfold vm_iald at hs
  split at hs
  · rename_i i a st' hst
    cases hba : Nat.beq a 1000000 with
    | true =>
      rw [hba] at hs
      have ha : a = 1000000 := Nat.eq_of_beq_eq_true hba
      subst ha
      cases hs
      cases hst
      intro H locs ls h1 h2 h3 h4
      exact va_ti hx hb hT.2.1 h4 hg rfl hd (k H locs ls h1 h2 h3 h4)
    | false =>
      rw [hba] at hs
      simp only [cond_false] at hs
      split at hs
      · rename_i t n f hai
        cases hs
        cases hst
        obtain ⟨e1, e2⟩ := vm_ai_inv hai
        intro H locs ls h1 h2 h3 h4
        exact va_iald hx hb hK h2 a t (vm_w_at e1) (vm_tys_at e2) hg hd (k H locs ls h1 h2 h3 h4)
      · cases hs
  · cases hs
theorem vm_lald_ok (C : vm_C M p R s m args meth c D ad tc A) (hd : decode M.2.2.1 pc = .ok (.laload, 1)) (hs : vm_lald S = some (g, S')) (hg : g) (k : vm_W p l e R s m args below meth c cells slots Q D ad tc A (pc + 1) S') : vm_W p l e R s m args below meth c cells slots Q D ad tc A pc S := by
  obtain ⟨hx, hb, hml, hown, hts, hK, hA, hN, hlk, hnm, hR, hT⟩ := C
  obtain ⟨lv, st, cs⟩ := S
  unfold vm_lald at hs
  split at hs
  · rename_i i a st' hst
    split at hs
    · rename_i t n f hai
      cases hs
      cases hst
      obtain ⟨e1, e2⟩ := vm_aj_inv hai
      intro H locs ls h1 h2 h3 h4
      exact va_lald hx hb hK h2 a t (vm_w_at e1) (vm_tys_at e2) hg hd (k H locs ls h1 h2 h3 h4)
    · cases hs
  · cases hs
theorem vm_bast_ok (C : vm_C M p R s m args meth c D ad tc A) (hd : decode M.2.2.1 pc = .ok (.bastore, 1)) (hs : vm_bast S = some (g, S')) (hg : g) (k : vm_W p l e R s m args below meth c cells slots Q D ad tc A (pc + 1) S') : vm_W p l e R s m args below meth c cells slots Q D ad tc A pc S := by
  obtain ⟨hx, hb, hml, hown, hts, hK, hA, hN, hlk, hnm, hR, hT⟩ := C
  obtain ⟨lv, st, cs⟩ := S
  unfold vm_bast at hs
  split at hs
  · rename_i x i a st' hst
    split at hs
    · rename_i t n f hai
      cases hs
      cases hst
      obtain ⟨e1, e2⟩ := vm_ai_inv hai
      intro H locs ls h1 h2 h3 h4
      exact va_bast hx hb hK h2 h3 h4 a t (vm_w_at e1) (vm_tys_at e2) hg hd (fun H1 locs1 p1 d1 s1 => k H1 locs1 ls h1 (vm_wP p1) (vm_wD d1) s1)
    · rename_i t n f hai
      cases hs
      cases hst
      obtain ⟨e1, e2⟩ := vm_ai_inv hai
      intro H locs ls h1 h2 h3 h4
      exact va_zast hx hb hK h2 h3 h4 a t (vm_w_at e1) (vm_tys_at e2) hg hd (fun H1 locs1 p1 d1 s1 => k H1 locs1 ls h1 (vm_wP p1) (vm_wD d1) s1)
    · cases hs
  · cases hs
theorem vm_iast_ok (C : vm_C M p R s m args meth c D ad tc A) (hd : decode M.2.2.1 pc = .ok (.iastore, 1)) (hs : vm_iast S = some (g, S')) (hg : g) (k : vm_W p l e R s m args below meth c cells slots Q D ad tc A (pc + 1) S') : vm_W p l e R s m args below meth c cells slots Q D ad tc A pc S := by
  obtain ⟨hx, hb, hml, hown, hts, hK, hA, hN, hlk, hnm, hR, hT⟩ := C
  obtain ⟨lv, st, cs⟩ := S
  unfold vm_iast at hs
  split at hs
  · rename_i x i a st' hst
    split at hs
    · rename_i t n f hai
      cases hs
      cases hst
      obtain ⟨e1, e2⟩ := vm_ai_inv hai
      intro H locs ls h1 h2 h3 h4
      exact va_iast hx hb hK h2 h3 h4 a t (vm_w_at e1) (vm_tys_at e2) hg hd (fun H1 locs1 p1 d1 s1 => k H1 locs1 ls h1 (vm_wP p1) (vm_wD d1) s1)
    · cases hs
  · cases hs
theorem vm_last_ok (C : vm_C M p R s m args meth c D ad tc A) (hd : decode M.2.2.1 pc = .ok (.lastore, 1)) (hs : vm_last S = some (g, S')) (hg : g) (k : vm_W p l e R s m args below meth c cells slots Q D ad tc A (pc + 1) S') : vm_W p l e R s m args below meth c cells slots Q D ad tc A pc S := by
  obtain ⟨hx, hb, hml, hown, hts, hK, hA, hN, hlk, hnm, hR, hT⟩ := C
  obtain ⟨lv, st, cs⟩ := S
  unfold vm_last at hs
  split at hs
  · rename_i x i a st' hst
    split at hs
    · rename_i t n f hai
      cases hs
      cases hst
      obtain ⟨e1, e2⟩ := vm_aj_inv hai
      intro H locs ls h1 h2 h3 h4
      exact va_last hx hb hK h2 h3 h4 a t (vm_w_at e1) (vm_tys_at e2) hg hd (fun H1 locs1 p1 d1 s1 => k H1 locs1 ls h1 (vm_wP p1) (vm_wD d1) s1)
    · cases hs
  · cases hs
theorem vm_alen_ok (C : vm_C M p R s m args meth c D ad tc A) (hd : decode M.2.2.1 pc = .ok (.arraylength, 1)) (hs : vm_alen S = some (g, S')) (k : vm_W p l e R s m args below meth c cells slots Q D ad tc A (pc + 1) S') : vm_W p l e R s m args below meth c cells slots Q D ad tc A pc S := by
  obtain ⟨hx, hb, hml, hown, hts, hK, hA, hN, hlk, hnm, hR, hT⟩ := C
  obtain ⟨lv, st, cs⟩ := S
  unfold vm_alen at hs
  split at hs
  · rename_i a st' hst
    cases hba : Nat.beq a 1000000 with
    | true =>
      rw [hba] at hs
      have ha : a = 1000000 := Nat.eq_of_beq_eq_true hba
      subst ha
      cases hs
      cases hst
      intro H locs ls h1 h2 h3 h4
      exact va_tlen hx hb hT.2.1 h4 (v := 7) (by decide) hd (k H locs ls h1 h2 h3 h4)
    | false =>
      rw [hba] at hs
      simp only [cond_false] at hs
      split at hs
      · rename_i t x hai
        split at hs
        · rename_i ty hty
          cases hs
          cases hst
          intro H locs ls h1 h2 h3 h4
          obtain ⟨n, f | f | f | f | f⟩ := x
          · exact va_alen hx hb hK h2 a t (vm_w_at hai) (vm_tys_at hty) rfl hd (k H locs ls h1 h2 h3 h4)
          · exact va_alen hx hb hK h2 a t (vm_w_at hai) (vm_tys_at hty) rfl hd (k H locs ls h1 h2 h3 h4)
          · exact va_alen hx hb hK h2 a t (vm_w_at hai) (vm_tys_at hty) rfl hd (k H locs ls h1 h2 h3 h4)
          · exact va_alen hx hb hK h2 a t (vm_w_at hai) (vm_tys_at hty) rfl hd (k H locs ls h1 h2 h3 h4)
          · exact va_alen hx hb hK h2 a t (vm_w_at hai) (vm_tys_at hty) rfl hd (k H locs ls h1 h2 h3 h4)
        · cases hs
      · cases hs
  · cases hs
theorem vm_gf_inv {ci k : Nat} (hs : vm_gf ci k S = some (g, S')) : ∃ (a : Nat) (st : List Value) (fs : List Value) (v : Value), S.2.1 = .ref a :: st ∧ vm_g S.2.2 a = some (.inr (ci, fs)) ∧ vm_g fs k = some v ∧ S' = (S.1, v :: st, S.2.2) := by
  unfold vm_gf at hs
  split at hs
  · rename_i a st hst
    split at hs
    · rename_i c' fs hc
      split at hs
      · rename_i v hb hv
        cases hs
        have := Nat.eq_of_beq_eq_true hb
        subst this
        exact ⟨a, st, fs, v, hst, hc, hv, rfl⟩
      · cases hs
    · cases hs
  · cases hs
theorem vm_pf_inv {ci k : Nat} (hs : vm_pf ci k S = some (g, S')) : ∃ (a : Nat) (st : List Value) (fs : List Value) (v : Value), S.2.1 = v :: .ref a :: st ∧ vm_g S.2.2 a = some (.inr (ci, fs)) ∧ k < fs.length ∧ vm_fit (G_ft ci k) v = true ∧ S' = (S.1, st, vm_u S.2.2 a (.inr (ci, vm_u fs k v))) := by
  unfold vm_pf at hs
  split at hs
  · rename_i v a st hst
    split at hs
    · rename_i c' fs hc
      split at hs
      · rename_i hb hl hf
        cases hs
        have := Nat.eq_of_beq_eq_true hb
        subst this
        exact ⟨a, st, fs, v, hst, hc, Nat.le_of_ble_eq_true hl, hf, rfl⟩
      · cases hs
    · cases hs
  · cases hs
theorem vm_gf_ok {ci k idx : Nat} {Cn : String} {T : u_T} {N : Nat} (C : vm_C M p R s m args meth c D ad tc A) (hcl : vm_g vwCl ci = some (Cn, T, N)) (hk : k < N) (hl : Jvm.Cond.fieldLink M.1 idx (T k).1 (T k).2.1 (T k).2.2.1 ∈ G_big) (hd : decode M.2.2.1 pc = .ok (.getfield idx, 3)) (hs : vm_gf ci k S = some (g, S')) (kk : vm_W p l e R s m args below meth c cells slots Q D ad tc A (pc + 3) S') : vm_W p l e R s m args below meth c cells slots Q D ad tc A pc S := by
  obtain ⟨hx, hb, hml, hown, hts, hK, hA, hN, hlk, hnm, hR, hT⟩ := C
  obtain ⟨e0, e1, e2, e3⟩ := G_cl hcl
  obtain ⟨a, st, fs, v, h5, h6, h7, rfl⟩ := vm_gf_inv hs
  intro H locs ls h1 h2 h3 h4
  rw [h5]
  exact va_get hx hb hts e1 hown hK h2 a (vm_w_at h6) e0 k hk (hts _ hl) (fun _ h9 => h9) (by rw [List.getElem?_map, ← vm_g_eq, h7]; rfl) hd (kk H locs ls h1 h2 h3 h4)
theorem vm_gfN_ok {ci k idx : Nat} {Cn : String} {T : u_T} {N : Nat} (C : vm_C M p R s m args meth c D ad tc A) (hcl : vm_g vwCl ci = some (Cn, T, N)) (hk : k < N) (hl : Jvm.Cond.fieldLinkNest M.1 idx (T k).1 (T k).2.1 (T k).2.2.1 "ImageLoader" ∈ G_nest) (hd : decode M.2.2.1 pc = .ok (.getfield idx, 3)) (hs : vm_gf ci k S = some (g, S')) (kk : vm_W p l e R s m args below meth c cells slots Q D ad tc A (pc + 3) S') : vm_W p l e R s m args below meth c cells slots Q D ad tc A pc S := by
  obtain ⟨hx, hb, hml, hown, hts, hK, hA, hN, hlk, hnm, hR, hT⟩ := C
  obtain ⟨e0, e1, e2, e3⟩ := G_cl hcl
  obtain ⟨a, st, fs, v, h5, h6, h7, rfl⟩ := vm_gf_inv hs
  intro H locs ls h1 h2 h3 h4
  rw [h5]
  exact va_getN hx hb hts e1 hown hK h2 a (vm_w_at h6) e0 k hk (va_Nw.use rfl (hN _ hl)) (fun _ h9 => h9) (by rw [List.getElem?_map, ← vm_g_eq, h7]; rfl) hd (kk H locs ls h1 h2 h3 h4)
theorem vm_pf_ok {ci k idx : Nat} {Cn : String} {T : u_T} {N : Nat} (C : vm_C M p R s m args meth c D ad tc A) (hcl : vm_g vwCl ci = some (Cn, T, N)) (hk : k < N) (hl : Jvm.Cond.fieldLink M.1 idx (T k).1 (T k).2.1 (T k).2.2.1 ∈ G_big) (hfin : (T k).2.2.2 = false) (hd : decode M.2.2.1 pc = .ok (.putfield idx, 3)) (hs : vm_pf ci k S = some (g, S')) (kk : vm_W p l e R s m args below meth c cells slots Q D ad tc A (pc + 3) S') : vm_W p l e R s m args below meth c cells slots Q D ad tc A pc S := by
  obtain ⟨hx, hb, hml, hown, hts, hK, hA, hN, hlk, hnm, hR, hT⟩ := C
  obtain ⟨e0, e1, e2, e3⟩ := G_cl hcl
  obtain ⟨a, st, fs, v, h5, h6, h7, h8, rfl⟩ := vm_pf_inv hs
  obtain ⟨f1, f2⟩ := vm_fit_ok ad h8
  intro H locs ls h1 h2 h3 h4
  rw [h5]
  refine va_put hx hb hts e1 (G_ft ci) e2 e3 hown hK h2 h3 h4 a (vm_w_at h6) e0 k hk (hts _ hl) (fun _ h9 => h9) hfin (e2 k hk) f1 f2 (by rw [List.length_map]; exact h7) hd (fun H1 locs1 p1 d1 s1 => ?_)
  rw [← vm_fs_set] at p1 d1
  exact kk H1 locs1 ls h1 (vm_wP p1) (vm_wD d1) s1
theorem vm_pfF_ok {ci k idx : Nat} {Cn : String} {T : u_T} {N : Nat} (C : vm_C M p R s m args meth c D ad tc A) (hcl : vm_g vwCl ci = some (Cn, T, N)) (hk : k < N) (hl : Jvm.Cond.fieldLink M.1 idx (T k).1 (T k).2.1 (T k).2.2.1 ∈ G_big) (hfin : (T k).2.2.2 = true) (hdc : (T k).1 = M.1) (hin : M.2.1.name = "<init>") (hd : decode M.2.2.1 pc = .ok (.putfield idx, 3)) (hs : vm_pf ci k S = some (g, S')) (kk : vm_W p l e R s m args below meth c cells slots Q D ad tc A (pc + 3) S') : vm_W p l e R s m args below meth c cells slots Q D ad tc A pc S := by
  obtain ⟨hx, hb, hml, hown, hts, hK, hA, hN, hlk, hnm, hR, hT⟩ := C
  obtain ⟨e0, e1, e2, e3⟩ := G_cl hcl
  obtain ⟨a, st, fs, v, h5, h6, h7, h8, rfl⟩ := vm_pf_inv hs
  obtain ⟨f1, f2⟩ := vm_fit_ok ad h8
  intro H locs ls h1 h2 h3 h4
  rw [h5]
  refine va_putF hx hb hts e1 (G_ft ci) e2 e3 hown hK h2 h3 h4 a (vm_w_at h6) e0 k hk (hts _ hl) (fun _ h9 => h9) hfin (hnm.trans hin) hdc (e2 k hk) f1 f2 (by rw [List.length_map]; exact h7) hd (fun H1 locs1 p1 d1 s1 => ?_)
  rw [← vm_fs_set] at p1 d1
  exact kk H1 locs1 ls h1 (vm_wP p1) (vm_wD d1) s1
end VM4
end
section
/-! one instruction, whatever it is; a stretch of instructions -/
def vm_x : List vm_I → vm_S → Option (List Prop × vm_S)
  | [], S => some ([], S)
  | i :: is, S => match vm_x1 i S with
    | some (g, S1) => match vm_x is S1 with
      | some (gs, S2) => some (g :: gs, S2)
      | none => none
    | none => none
def vm_all : List Prop → Prop
  | [] => True
  | g :: gs => g ∧ vm_all gs
def vm_chk (M : vm_M) : Nat → List vm_I → Option Nat
  | pc, [] => some pc
  | pc, i :: is => match decode M.2.2.1 pc with
    | .ok (raw, len) => bif vm_okI M raw len i then vm_chk M (pc + len) is else none
    | .error _ => none
section VM5
variable {p : Program} {l : Launch} {e : Env} {R : Room} {s : State} {m : MethodId} {args : Array Value} {below : List Frame} {meth : Method} {c : Code} {cells slots : Nat} {Q : State → Prop} {D : va_G} {ad tc : Nat → Nat} {A : Nat → Prop} {M : vm_M} {pc pc' : Nat} {S S' : vm_S} {g : Prop}
set_option maxHeartbeats 2000000 in
theorem vm_plain (C : vm_C M p R s m args meth c D ad tc A) (j : Instr) (hd : decode M.2.2.1 pc = .ok (j, vm_len j)) (hs : vm_p j S = some (g, S')) (hg : g) (k : vm_W p l e R s m args below meth c cells slots Q D ad tc A (pc + vm_len j) S') : vm_W p l e R s m args below meth c cells slots Q D ad tc A pc S := by
  have C' := C
  obtain ⟨hx, hb, hml, hown, hts, hK, hA, hN, hlk, hnm, hR, hT⟩ := C'
  cases j <;> first | exact absurd (show (none : vm_R) = some (g, S') from hs) (by simp) | skip
  case iload_n n => exact vm_li_ok hs (fun _ _ _ _ _ hl k => lv_iload_n hx hb hd rfl hl k) k
  case iload n => exact vm_li_ok hs (fun _ _ _ _ _ hl k => lv_iload hx hb hd hl k) k
  case lload_n n => exact vm_ll_ok hs (fun _ _ _ _ _ hl k => lv_lload_n hx hb hd rfl hl k) k
  case lload n => exact vm_ll_ok hs (fun _ _ _ _ _ hl k => lv_lload hx hb hd hl k) k
  case aload_n n => exact vm_la_ok hs (fun _ _ _ _ _ hl k => lv_aload_n hx hb hd rfl hl k) k
  case aload n => exact vm_la_ok hs (fun _ _ _ _ _ hl k => lv_aload hx hb hd hl k) k
  case istore_n n => exact vm_si_ok hs (fun _ _ _ _ _ _ _ h hn kk => lv_istore_n hx hb hd rfl h hn rfl kk) k
  case istore n => exact vm_si_ok hs (fun _ _ _ _ _ _ _ h hn kk => lv_istore hx hb hd h hn rfl kk) k
  case lstore_n n => exact vm_sl_ok hs (fun _ _ _ _ _ _ _ h hn kk => lv_lstore_n hx hb hd rfl h hn rfl kk) k
  case lstore n => exact vm_sl_ok hs (fun _ _ _ _ _ _ _ h hn kk => lv_lstore hx hb hd h hn rfl kk) k
  case astore_n n => exact vm_sa_ok hs (fun _ _ _ _ _ _ _ h hn kk => lv_astore_n hx hb hd rfl h hn rfl kk) k
  case astore n => exact vm_sa_ok hs (fun _ _ _ _ _ _ _ h hn kk => lv_astore hx hb hd h hn rfl kk) k
  case iadd => exact vm_ii_ok hs (fun _ _ _ _ _ _ k => lv_iadd hx hb hd k) k
  case isub => exact vm_ii_ok hs (fun _ _ _ _ _ _ k => lv_isub hx hb hd k) k
  case imul => exact vm_ii_ok hs (fun _ _ _ _ _ _ k => lv_imul hx hb hd k) k
  case iand => exact vm_ii_ok hs (fun _ _ _ _ _ _ k => lv_iand hx hb hd k) k
  case ior => exact vm_ii_ok hs (fun _ _ _ _ _ _ k => lv_ior hx hb hd k) k
  case ixor => exact vm_ii_ok hs (fun _ _ _ _ _ _ k => lv_ixor hx hb hd k) k
  case ishl => exact vm_ii_ok hs (fun _ _ _ _ _ _ k => lv_ishl hx hb hd k) k
  case ishr => exact vm_ii_ok hs (fun _ _ _ _ _ _ k => lv_ishr hx hb hd k) k
  case iushr => exact vm_ii_ok hs (fun _ _ _ _ _ _ k => lv_iushr hx hb hd rfl k) k
  case idiv => exact vm_iq_ok hs hg (fun _ _ _ _ _ _ hy k => lv_idiv hx hb hd hy k) k
  case irem => exact vm_iq_ok hs hg (fun _ _ _ _ _ _ hy k => lv_irem hx hb hd hy k) k
  case ineg => exact vm_1i_ok (fun _ => rfl) hs (fun _ _ _ _ _ k => lv_ineg hx hb hd k) k
  case i2l => exact vm_1i_ok (fun _ => rfl) hs (fun _ _ _ _ _ k => lv_i2l hx hb hd rfl k) k
  case i2b => exact vm_1i_ok (fun _ => rfl) hs (fun _ _ _ _ _ k => lv_i2b hx hb hd rfl k) k
  case l2i => exact vm_1j_ok (fun _ => rfl) hs (fun _ _ _ _ _ k => lv_l2i hx hb hd rfl k) k
  case ladd => exact vm_jj_ok hs (fun _ _ _ _ _ _ k => lv_ladd hx hb hd k) k
  case lsub => exact vm_jj_ok hs (fun _ _ _ _ _ _ k => lv_lsub hx hb hd k) k
  case lmul => exact vm_jj_ok hs (fun _ _ _ _ _ _ k => lv_lmul hx hb hd k) k
  case land => exact vm_jj_ok hs (fun _ _ _ _ _ _ k => lv_land hx hb hd k) k
  case lor => exact vm_jj_ok hs (fun _ _ _ _ _ _ k => lv_lor hx hb hd k) k
  case ldiv => exact vm_jq_ok hs hg (fun _ _ _ _ _ _ hy k => lv_ldiv hx hb hd hy k) k
  case lrem => exact vm_jq_ok hs hg (fun _ _ _ _ _ _ hy k => lv_lrem hx hb hd hy k) k
  case lshl => exact vm_ji_ok hs (fun _ _ _ _ _ _ k => lv_lshl hx hb hd rfl k) k
  case lshr => exact vm_ji_ok hs (fun _ _ _ _ _ _ k => lv_lshr hx hb hd rfl k) k
  case lushr => exact vm_ji_ok hs (fun _ _ _ _ _ _ k => lv_lushr hx hb hd rfl k) k
  case lcmp => exact vm_lcmp_ok C hd hs k
  case dup => exact vm_dup_ok C hd hs k
  case pop => exact vm_pop_ok C hd hs k
  case baload => exact vm_bald_ok C hd hs hg k
  case iaload => exact vm_iald_ok C hd hs hg k
  case laload => exact vm_lald_ok C hd hs hg k
  case bastore => exact vm_bast_ok C hd hs hg k
  case iastore => exact vm_iast_ok C hd hs hg k
  case lastore => exact vm_last_ok C hd hs hg k
  case arraylength => exact vm_alen_ok C hd hs k
theorem vm_const (C : vm_C M p R s m args meth c D ad tc A) {raw : Instr} {len pl : Nat} {v : Value} (hd : decode M.2.2.1 pc = .ok (raw, len)) (hk : vm_okc M raw len v pl = true) (k : vm_W p l e R s m args below meth c cells slots Q D ad tc A (pc + len) (S.1, v :: S.2.1, S.2.2)) : vm_W p l e R s m args below meth c cells slots Q D ad tc A pc S := by
  obtain ⟨hx, hb, hml, hown, hts, hK, hA, hN, hlk, hnm, hR, hT⟩ := C
  unfold vm_okc at hk
  split at hk
  · simp only [Bool.and_eq_true, decide_eq_true_eq] at hk
    obtain ⟨h1, h2⟩ := hk
    have h2 := Nat.eq_of_beq_eq_true h2
    subst h2
    intro H locs ls g1 g2 g3 g4
    exact lv_iconst hx hb hd h1 (k H locs ls g1 g2 g3 g4)
  · simp only [Bool.and_eq_true, decide_eq_true_eq] at hk
    obtain ⟨h1, h2⟩ := hk
    have h2 := Nat.eq_of_beq_eq_true h2
    subst h2
    intro H locs ls g1 g2 g3 g4
    exact lv_bipush hx hb hd h1 (k H locs ls g1 g2 g3 g4)
  · simp only [Bool.and_eq_true, decide_eq_true_eq] at hk
    obtain ⟨h1, h2⟩ := hk
    have h2 := Nat.eq_of_beq_eq_true h2
    subst h2
    intro H locs ls g1 g2 g3 g4
    exact lv_sipush hx hb hd h1 (k H locs ls g1 g2 g3 g4)
  · simp only [Bool.and_eq_true, decide_eq_true_eq] at hk
    obtain ⟨h1, h2⟩ := hk
    have h2 := Nat.eq_of_beq_eq_true h2
    subst h2
    intro H locs ls g1 g2 g3 g4
    exact lv_lconst hx hb hd h1 (k H locs ls g1 g2 g3 g4)
  · simp only [Bool.and_eq_true] at hk
    obtain ⟨h1, h2⟩ := hk
    have h2 := Nat.eq_of_beq_eq_true h2
    subst h2
    intro H locs ls g1 g2 g3 g4
    exact lv_ldc2 hx hb hown (hts _ (vm_at_in h1)) hd (k H locs ls g1 g2 g3 g4)
  · cases hk
theorem vm_fld (C : vm_C M p R s m args meth c D ad tc A) {raw : Instr} {len op pl idx ci k : Nat} (hd : decode M.2.2.1 pc = .ok (raw, len)) (hk : vm_okf M raw len op pl idx ci k = true) (hs : vm_x1 (.inr (.inr (.inl (op, pl, idx, ci, k)))) S = some (g, S')) (kk : vm_W p l e R s m args below meth c cells slots Q D ad tc A (pc + len) S') : vm_W p l e R s m args below meth c cells slots Q D ad tc A pc S := by
  have C' := C
  obtain ⟨hx, hb, hml, hown, hts, hK, hA, hN, hlk, hnm, hR, hT⟩ := C'
  unfold vm_okf at hk
  split at hk
  · rename_i Cn T N hcl
    simp only [Bool.and_eq_true] at hk
    obtain ⟨h1, h2, h3⟩ := hk
    have h1 := Nat.eq_of_beq_eq_true h1
    have h2 : k < N := Nat.le_of_ble_eq_true h2
    subst h1
    split at h3
    · simp only [Bool.and_eq_true, decide_eq_true_eq] at h3
      obtain ⟨h4, h5⟩ := h3
      subst h4
      exact vm_gf_ok C hcl h2 (vm_at_in h5) hd hs kk
    · simp only [Bool.and_eq_true, decide_eq_true_eq, Bool.not_eq_true'] at h3
      obtain ⟨h4, h5, h6⟩ := h3
      subst h4
      exact vm_pf_ok C hcl h2 (vm_at_in h5) h6 hd hs kk
    · simp only [Bool.and_eq_true, decide_eq_true_eq] at h3
      obtain ⟨h4, h5⟩ := h3
      subst h4
      rw [vm_g_eq] at h5
      exact vm_gfN_ok C hcl h2 (List.mem_of_getElem? h5) hd hs kk
    · simp only [Bool.and_eq_true, decide_eq_true_eq] at h3
      obtain ⟨h4, h5, h6, h7, h8⟩ := h3
      subst h4
      exact vm_pfF_ok C hcl h2 (vm_at_in h5) h6 h7 h8 hd hs kk
    · simp only [Bool.and_eq_true, decide_eq_true_eq] at h3
      obtain ⟨h4, h5⟩ := h3
      subst h4
      have hs2 : some (True, S.1, Value.ref 1000000 :: S.2.1, S.2.2) = some (g, S') := hs
      cases hs2
      intro H locs ls g1 g2 g3 g4
      exact va_gets hx hb hT.1 g4 hown (hts _ (vm_at_in h5)) (fun _ h9 => h9) hd (kk H locs ls g1 g2 g3 g4)
    · cases h3
  · cases hk
theorem vm_one (C : vm_C M p R s m args meth c D ad tc A) {raw : Instr} {len : Nat} {i : vm_I} (hd : decode M.2.2.1 pc = .ok (raw, len)) (hk : vm_okI M raw len i = true) (hs : vm_x1 i S = some (g, S')) (hg : g) (k : vm_W p l e R s m args below meth c cells slots Q D ad tc A (pc + len) S') : vm_W p l e R s m args below meth c cells slots Q D ad tc A pc S := by
  match i, hk, hs with
  | .inl j, hk, hs =>
    simp only [vm_okI, Bool.and_eq_true, decide_eq_true_eq] at hk
    obtain ⟨h1, h2⟩ := hk
    have h2 := Nat.eq_of_beq_eq_true h2
    subst h1
    subst h2
    exact vm_plain C _ hd hs hg k
  | .inr (.inl (v, pl)), hk, hs =>
    have hs2 : some (True, S.1, v :: S.2.1, S.2.2) = some (g, S') := hs
    cases hs2
    exact vm_const C hd hk k
  | .inr (.inr (.inl (op, pl, idx, ci, kf))), hk, hs => exact vm_fld C hd hk hs k
  | .inr (.inr (.inr (n, cc))), hk, hs =>
    obtain ⟨hx, hb, hml, hown, hts, hK, hA, hN, hlk, hnm, hR, hT⟩ := C
    simp only [vm_okI] at hk
    split at hk
    · simp only [Bool.and_eq_true, decide_eq_true_eq] at hk
      obtain ⟨h1, h2, h3⟩ := hk
      have h1 := Nat.eq_of_beq_eq_true h1
      have h3 := Nat.eq_of_beq_eq_true h3
      subst h1
      subst h3
      subst h2
      exact vm_inc_ok hs (fun _ _ _ _ _ _ _ _ h hj hn kk => lv_iinc hx hb hd h hj rfl hn rfl kk) k
    · cases hk
theorem vm_blk (C : vm_C M p R s m args meth c D ad tc A) : ∀ (is : List vm_I) (pc : Nat) (S : vm_S) (gs : List Prop), vm_chk M pc is = some pc' → vm_x is S = some (gs, S') → vm_all gs → vm_W p l e R s m args below meth c cells slots Q D ad tc A pc' S' → vm_W p l e R s m args below meth c cells slots Q D ad tc A pc S
  | [], pc, S, gs, h1, h2, h3, k => by
    cases h1
    cases h2
    exact k
  | i :: is, pc, S, gs, h1, h2, h3, k => by
    unfold vm_chk at h1
    split at h1
    · rename_i raw len hd
      cases hok : vm_okI M raw len i with
      | false => rw [hok] at h1; cases h1
      | true =>
        rw [hok] at h1
        unfold vm_x at h2
        split at h2
        · rename_i g S1 hs
          split at h2
          · rename_i gs1 S2 hs1
            cases h2
            exact vm_one C hd hok hs h3.1 (vm_blk C is (pc + len) S1 gs1 h1 hs1 h3.2 k)
          · cases h2
        · cases h2
    · cases h1
end VM5
end
section
/-! a run from a place on, to the method's end; its rules -/
def vm_ag (n : Nat) (ad ad' : Nat → Nat) : Prop := ∀ i, i < n ∨ 1000000 ≤ i → ad' i = ad i
def vm_dec (M : vm_M) (pc : Nat) (i : Instr) (len : Nat) : Bool := match decode M.2.2.1 pc with
  | .ok (raw, len') => decide (raw = i) && Nat.beq len' len
  | .error _ => false
theorem vm_dec_ok {M : vm_M} {pc : Nat} {i : Instr} {len : Nat} (h : vm_dec M pc i len = true) : decode M.2.2.1 pc = .ok (i, len) := by
  unfold vm_dec at h
  split at h
  · rename_i raw len' hd
    simp only [Bool.and_eq_true, decide_eq_true_eq] at h
    have h2 := Nat.eq_of_beq_eq_true h.2
    rw [hd, h.1, h2]
  · cases h
def vm_rt (M : vm_M) (pc : Nat) (r : Option Value) : Prop := match r with
  | none => vm_dec M pc .return_ 1 = true ∧ M.2.2.2.2.1 = none
  | some (.int v) => vm_dec M pc .ireturn 1 = true ∧ ∃ ty, M.2.2.2.2.1 = some ty ∧ narrow ty (.int v) = .int v
  | some (.long _) => vm_dec M pc .lreturn 1 = true ∧ M.2.2.2.2.1 = some .long
  | _ => False
def Run (M : vm_M) (n bc bs pc : Nat) (S : vm_S) (post : Option Value → List va_E → Prop) : Prop :=
  ∀ (p : Program) (l : Launch) (e : Env) (R : Room) (s : State) (m : MethodId) (args : Array Value) (below : List Frame) (meth : Method) (c : Code) (cells slots : Nat) (Q : State → Prop) (D : va_G) (ad tc : Nat → Nat) (A : Nat → Prop),
    vm_C M p R s m args meth c D ad tc A → cells + bc ≤ R.cells → slots + bs ≤ R.slots →
    (∀ (r : Option Value) (cs' : List va_E) (ad' : Nat → Nat) (cells' slots' : Nat), post r cs' → vm_ag n ad ad' → (bc = 0 → ad' = ad) → cells' ≤ cells + bc → slots' ≤ slots + bs → ∀ (pc' : Nat) (lv' : List (Option Value)), vm_rt M pc' r → vm_W p l e R s m args below meth c cells' slots' Q D ad' tc A pc' (lv', r.toList, cs')) →
    vm_W p l e R s m args below meth c cells slots Q D ad tc A pc S
/-- the answer and the cells -/
def vm_is (r : Option Value) (cs : List va_E) : Option Value → List va_E → Prop := fun r' cs' => r' = r ∧ cs' = cs
section VM6
variable {M : vm_M} {n bc bs pc pc' tgt : Nat} {S S' : vm_S} {post : Option Value → List va_E → Prop} {lv : List (Option Value)} {st : List Value} {cs : List va_E}
theorem Run.blk (is : List vm_I) {gs : List Prop} (h1 : vm_chk M pc is = some pc') (h2 : vm_x is S = some (gs, S')) (h3 : vm_all gs) (k : Run M n bc bs pc' S' post) : Run M n bc bs pc S post :=
  fun _ _ _ _ _ _ _ _ _ _ _ _ _ _ _ _ _ C hc hs hq => vm_blk C is pc S gs h1 h2 h3 (k _ _ _ _ _ _ _ _ _ _ _ _ _ _ _ _ _ C hc hs hq)
theorem Run.ret {r : Option Value} (h : vm_rt M pc r) (hp : post r cs) : Run M n bc bs pc (lv, r.toList, cs) post :=
  fun _ _ _ _ _ _ _ _ _ _ cells slots _ _ ad _ _ _ _ _ hq => hq r cs ad cells slots hp (fun _ _ => rfl) (fun _ => rfl) (Nat.le_add_right _ _) (Nat.le_add_right _ _) pc lv h
theorem Run.weaken {post' : Option Value → List va_E → Prop} (k : Run M n bc bs pc S post) (h : ∀ r cs, post r cs → post' r cs) : Run M n bc bs pc S post' :=
  fun _ _ _ _ _ _ _ _ _ _ _ _ _ _ _ _ _ C hc hs hq => k _ _ _ _ _ _ _ _ _ _ _ _ _ _ _ _ _ C hc hs (fun r cs' ad' cells' slots' hp => hq r cs' ad' cells' slots' (h r cs' hp))
theorem Run.goto {off : Int} (hd : vm_dec M pc (.goto off) 3 = true) (ht : (pc : Int) + off = (tgt : Int)) (k : Run M n bc bs tgt S post) : Run M n bc bs pc S post :=
  fun _ _ _ _ _ _ _ _ _ _ _ _ _ _ _ _ _ C hc hs hq => by
    have k2 := k _ _ _ _ _ _ _ _ _ _ _ _ _ _ _ _ _ C hc hs hq
    obtain ⟨hx, hb, -⟩ := C
    intro H locs ls h1 h2 h3 h4
    exact lv_goto hx hb (vm_dec_ok hd) ht (k2 H locs ls h1 h2 h3 h4)
def vm_b (i : Instr) (st : List Value) : Option (Prop × List Value × Int) := match i, st with
  | .if_icmp .eq o, .int y :: .int x :: st => some (x = y, st, o)
  | .if_icmp .ne o, .int y :: .int x :: st => some (¬ x = y, st, o)
  | .if_icmp .lt o, .int y :: .int x :: st => some (x < y, st, o)
  | .if_icmp .ge o, .int y :: .int x :: st => some (y ≤ x, st, o)
  | .if_icmp .gt o, .int y :: .int x :: st => some (y < x, st, o)
  | .if_icmp .le o, .int y :: .int x :: st => some (x ≤ y, st, o)
  | .ifCond .eq o, .int x :: st => some (x = 0, st, o)
  | .ifCond .ne o, .int x :: st => some (¬ x = 0, st, o)
  | .ifCond .lt o, .int x :: st => some (x < 0, st, o)
  | .ifCond .ge o, .int x :: st => some (0 ≤ x, st, o)
  | .ifCond .gt o, .int x :: st => some (0 < x, st, o)
  | .ifCond .le o, .int x :: st => some (x ≤ 0, st, o)
  | _, _ => none
theorem Run.br {i : Instr} {Cd : Prop} {st' : List Value} {off : Int} (hd : vm_dec M pc i 3 = true) (hb : vm_b i st = some (Cd, st', off)) (ht : (pc : Int) + off = (tgt : Int)) (kt : Cd → Run M n bc bs tgt (lv, st', cs) post) (kf : ¬ Cd → Run M n bc bs (pc + 3) (lv, st', cs) post) : Run M n bc bs pc (lv, st, cs) post := by
  intro p l e R s m args below meth c cells slots Q D ad tc A C hc hs hq
  have hdd := vm_dec_ok hd
  have hx := C.1
  have hbc := C.2.1
  have kt2 := fun h => kt h p l e R s m args below meth c cells slots Q D ad tc A C hc hs hq
  have kf2 := fun h => kf h p l e R s m args below meth c cells slots Q D ad tc A C hc hs hq
  unfold vm_b at hb
  split at hb
  · cases hb
    intro H locs ls h1 h2 h3 h4
    exact lv_icmp_eq hx hbc hdd ht (fun h => kt2 h H locs ls h1 h2 h3 h4) (fun h => kf2 h H locs ls h1 h2 h3 h4)
  · cases hb
    intro H locs ls h1 h2 h3 h4
    exact lv_icmp_ne hx hbc hdd ht (fun h => kt2 h H locs ls h1 h2 h3 h4) (fun h => kf2 (fun z => z h) H locs ls h1 h2 h3 h4)
  · cases hb
    intro H locs ls h1 h2 h3 h4
    exact lv_icmp_lt hx hbc hdd ht (fun h => kt2 h H locs ls h1 h2 h3 h4) (fun h => kf2 h H locs ls h1 h2 h3 h4)
  · cases hb
    intro H locs ls h1 h2 h3 h4
    exact lv_icmp_ge hx hbc hdd ht (fun h => kt2 h H locs ls h1 h2 h3 h4) (fun h => kf2 h H locs ls h1 h2 h3 h4)
  · cases hb
    intro H locs ls h1 h2 h3 h4
    exact lv_icmp_gt hx hbc hdd ht (fun h => kt2 h H locs ls h1 h2 h3 h4) (fun h => kf2 h H locs ls h1 h2 h3 h4)
  · cases hb
    intro H locs ls h1 h2 h3 h4
    exact lv_icmp_le hx hbc hdd ht (fun h => kt2 h H locs ls h1 h2 h3 h4) (fun h => kf2 h H locs ls h1 h2 h3 h4)
  · cases hb
    intro H locs ls h1 h2 h3 h4
    exact lv_if_eq hx hbc hdd ht (fun h => kt2 h H locs ls h1 h2 h3 h4) (fun h => kf2 h H locs ls h1 h2 h3 h4)
  · cases hb
    intro H locs ls h1 h2 h3 h4
    exact lv_if_ne hx hbc hdd ht (fun h => kt2 h H locs ls h1 h2 h3 h4) (fun h => kf2 (fun z => z h) H locs ls h1 h2 h3 h4)
  · cases hb
    intro H locs ls h1 h2 h3 h4
    exact lv_if_lt hx hbc hdd ht (fun h => kt2 h H locs ls h1 h2 h3 h4) (fun h => kf2 h H locs ls h1 h2 h3 h4)
  · cases hb
    intro H locs ls h1 h2 h3 h4
    exact lv_if_ge hx hbc hdd ht (fun h => kt2 h H locs ls h1 h2 h3 h4) (fun h => kf2 h H locs ls h1 h2 h3 h4)
  · cases hb
    intro H locs ls h1 h2 h3 h4
    exact lv_if_gt hx hbc hdd ht (fun h => kt2 h H locs ls h1 h2 h3 h4) (fun h => kf2 h H locs ls h1 h2 h3 h4)
  · cases hb
    intro H locs ls h1 h2 h3 h4
    exact lv_if_le hx hbc hdd ht (fun h => kt2 h H locs ls h1 h2 h3 h4) (fun h => kf2 h H locs ls h1 h2 h3 h4)
  · cases hb
/-- lcmp and the branch behind it -/
def vm_bl (i : Instr) (x y : Int64) : Option (Prop × Int) := match i with
  | .ifCond .eq o => some (x = y, o)
  | .ifCond .ne o => some (¬ x = y, o)
  | .ifCond .lt o => some (x < y, o)
  | .ifCond .ge o => some (y ≤ x, o)
  | .ifCond .gt o => some (y < x, o)
  | .ifCond .le o => some (x ≤ y, o)
  | _ => none
theorem Run.brl {i : Instr} {Cd : Prop} {off : Int} {x y : Int64} (h0 : vm_dec M pc .lcmp 1 = true) (hd : vm_dec M (pc + 1) i 3 = true) (hb : vm_bl i x y = some (Cd, off)) (ht : ((pc + 1 : Nat) : Int) + off = (tgt : Int)) (kt : Cd → Run M n bc bs tgt (lv, st, cs) post) (kf : ¬ Cd → Run M n bc bs (pc + 4) (lv, st, cs) post) : Run M n bc bs pc (lv, .long y :: .long x :: st, cs) post := by
  refine Run.blk (pc' := pc + 1) (S' := (lv, .int (lg_cmp x y) :: st, cs)) (gs := [True]) [.inl .lcmp] ?_ rfl ⟨trivial, trivial⟩ ?_
  · have hdd := vm_dec_ok h0
    simp only [vm_chk, hdd, vm_okI]
    rfl
  · unfold vm_bl at hb
    split at hb
    · cases hb
      exact Run.br hd rfl ht (fun h => kt ((lg_cmp_eq x y).mp h)) (fun h => kf (fun z => h ((lg_cmp_eq x y).mpr z)))
    · cases hb
      exact Run.br hd rfl ht (fun h => kt (fun z => h ((lg_cmp_eq x y).mpr z))) (fun h => kf (fun z => h (fun w => z ((lg_cmp_eq x y).mp w))))
    · cases hb
      exact Run.br hd rfl ht (fun h => kt ((lg_cmp_lt x y).mp h)) (fun h => kf (fun z => h ((lg_cmp_lt x y).mpr z)))
    · cases hb
      exact Run.br hd rfl ht (fun h => kt ((lg_cmp_ge x y).mp h)) (fun h => kf (fun z => h ((lg_cmp_ge x y).mpr z)))
    · cases hb
      exact Run.br hd rfl ht (fun h => kt ((lg_cmp_gt x y).mp h)) (fun h => kf (fun z => h ((lg_cmp_gt x y).mpr z)))
    · cases hb
      exact Run.br hd rfl ht (fun h => kt ((lg_cmp_le x y).mp h)) (fun h => kf (fun z => h ((lg_cmp_le x y).mpr z)))
    · cases hb
theorem Run.tsOut {dflt lo hi : Int} {offs : Array Int} {len : Nat} {x : Int32} (hd : vm_dec M pc (.tableswitch dflt lo hi offs) len = true) (h : x.toInt < lo ∨ hi < x.toInt) (ht : (pc : Int) + dflt = (tgt : Int)) (k : Run M n bc bs tgt (lv, st, cs) post) : Run M n bc bs pc (lv, .int x :: st, cs) post :=
  fun _ _ _ _ _ _ _ _ _ _ _ _ _ _ _ _ _ C hc hs hq => by
    have k2 := k _ _ _ _ _ _ _ _ _ _ _ _ _ _ _ _ _ C hc hs hq
    obtain ⟨hx, hb, -⟩ := C
    intro H locs ls h1 h2 h3 h4
    exact lv_tableOut hx hb (vm_dec_ok hd) h ht (k2 H locs ls h1 h2 h3 h4)
theorem Run.tsIn {dflt lo hi : Int} {offs : Array Int} {len : Nat} {x : Int32} {off : Int} (hd : vm_dec M pc (.tableswitch dflt lo hi offs) len = true) (h1 : ¬ x.toInt < lo) (h2 : ¬ hi < x.toInt) (ho : offs[(x.toInt - lo).toNat]? = some off) (ht : (pc : Int) + off = (tgt : Int)) (k : Run M n bc bs tgt (lv, st, cs) post) : Run M n bc bs pc (lv, .int x :: st, cs) post :=
  fun _ _ _ _ _ _ _ _ _ _ _ _ _ _ _ _ _ C hc hs hq => by
    have k2 := k _ _ _ _ _ _ _ _ _ _ _ _ _ _ _ _ _ C hc hs hq
    obtain ⟨hx, hb, -⟩ := C
    intro H locs ls g1 g2 g3 g4
    exact lv_tableIn hx hb (vm_dec_ok hd) h1 h2 ho ht (k2 H locs ls g1 g2 g3 g4)
theorem Run.aald {i : Int32} {a t q N : Nat} {f : Nat → Option Nat} {Cn : String} (hd : vm_dec M pc .aaload 1 = true) (hc : vm_g cs a = some (.inl (t, N, .inr (.inr (.inr (.inr f)))))) (ht : vm_g G_ty t = some (.object Cn)) (hin : vp_in i N) (hf : f i.toNatClampNeg = some q) (k : Run M n bc bs (pc + 1) (lv, .ref q :: st, cs) post) : Run M n bc bs pc (lv, .int i :: .ref a :: st, cs) post :=
  fun _ _ _ _ _ _ _ _ _ _ _ _ _ _ _ _ _ C hcc hs hq => by
    have k2 := k _ _ _ _ _ _ _ _ _ _ _ _ _ _ _ _ _ C hcc hs hq
    obtain ⟨hx, hb, hml, hown, hts, hK, hA, hN, hlk, hnm, hR, hT⟩ := C
    intro H locs ls g1 g2 g3 g4
    refine va_aldq hx hb hK g2 a t (vm_w_at hc) (vm_tys_at ht) hin (vm_dec_ok hd) ?_
    rw [hf]
    exact k2 H locs ls g1 g2 g3 g4
theorem vm_x_gf {ci k a pl idx op : Nat} {fs : List Value} {v : Value} (ho : op = 0 ∨ op = 2) (hc : vm_g cs a = some (.inr (ci, fs))) (hv : vm_g fs k = some v) : vm_x [.inr (.inr (.inl (op, pl, idx, ci, k)))] (lv, .ref a :: st, cs) = some ([True], lv, v :: st, cs) := by
  have hb : Nat.beq ci ci = true := Nat.beq_refl ci
  rcases ho with rfl | rfl <;> simp [vm_x, vm_x1, vm_gf, hc, hv, hb]
theorem vm_x_pf {ci k a pl idx : Nat} {fs : List Value} {v : Value} (hc : vm_g cs a = some (.inr (ci, fs))) (hk : Nat.blt k fs.length = true) (hv : vm_fit (G_ft ci k) v = true) : vm_x [.inr (.inr (.inl (1, pl, idx, ci, k)))] (lv, v :: .ref a :: st, cs) = some ([True], lv, st, vm_u cs a (.inr (ci, vm_u fs k v))) := by
  have hb : Nat.beq ci ci = true := Nat.beq_refl ci
  simp [vm_x, vm_x1, vm_pf, hc, hk, hv, hb]
end VM6
end
section
/-! contracts of methods, and calls -/
def vm_ws (M : vm_M) : List Jvm.Cond := Jvm.Cond.code M.2.1 M.2.2.1 M.2.2.2.1 M.2.2.2.2.1 :: G_big
def vm_rm (M : vm_M) (bc bs : Nat) : Room := { frames := M.2.2.2.2.2.1, cells := bc, slots := bs, locals := M.2.2.2.2.2.2 }
def vm_Pc (D : va_G) (ad tc : Nat → Nat) (av : List Value) (cs : List va_E) (sz : Nat) : Array Value → State → Prop :=
  va_Pc (av.map (vm_v ad)) (fun U => U.heap.size = sz ∧ va_P D vwCl (vm_w ad tc 0 cs) U.heap ∧ va_K D vwCl (vm_tys tc) U ∧ va_D (fun _ => True) (vm_w ad tc 0 cs) ∧ (∀ w ∈ G_nest, va_Nw w U) ∧ vm_T ad (va_A (vm_w ad tc 0 cs) sz) U U.heap)
def vm_Qc (D : va_G) (ad tc : Nat → Nat) (cs : List va_E) (bc : Nat) (post : Option Value → List va_E → Prop) (sz : Nat) : Array Value → State → Outcome → State → Prop :=
  fun _ st oc t => (∃ (r : Option Value) (cs' : List va_E) (ad' : Nat → Nat), oc = .returned (r.map (vm_v ad')) ∧ post r cs' ∧ vm_ag cs.length ad ad' ∧ (bc = 0 → ad' = ad) ∧ va_P D vwCl (vm_w ad' tc 0 cs') t.heap ∧ va_K D vwCl (vm_tys tc) t ∧ va_D (va_A (vm_w ad tc 0 cs) sz) (vm_w ad' tc 0 cs')) ∧ va_F (va_A (vm_w ad tc 0 cs) sz) st t
def Ct (M : vm_M) (bc bs : Nat) (av : List Value) (cs : List va_E) (post : Option Value → List va_E → Prop) : Prop :=
  ∀ (l : Launch) (D : va_G) (ad tc : Nat → Nat) (sz : Nat), Met l M.2.1 (vm_ws M) (vm_rm M bc bs) (vm_Pc D ad tc av cs sz) (vm_Qc D ad tc cs bc post sz) bc bs (va_A (vm_w ad tc 0 cs) sz)
/-- the locals at the entry -/
def vm_e1 : List Value → List (Option Value)
  | [] => []
  | .long x :: vs => some (.long x) :: none :: vm_e1 vs
  | .double x :: vs => some (.double x) :: none :: vm_e1 vs
  | v :: vs => some v :: vm_e1 vs
def vm_en (n : Nat) (av : List Value) : List (Option Value) := vm_e1 av ++ List.replicate (n - (vm_e1 av).length) none
theorem vm_as_none (ad : Nat → Nat) : ∀ (k i : Nat), vm_as ad i (List.replicate k none) = []
  | 0, i => rfl
  | k + 1, i => by rw [List.replicate_succ, vm_as]; exact vm_as_none ad k (i + 1)
theorem vm_en_as (ad : Nat → Nat) (k : Nat) : ∀ (av : List Value) (i : Nat), vm_as ad i (vm_e1 av ++ List.replicate k none) = lv_args i (av.map (vm_v ad))
  | [], i => vm_as_none ad k i
  | .long x :: vs, i => by
    show (i, Value.long x) :: vm_as ad (i + 2) (vm_e1 vs ++ List.replicate k none) = (i, Value.long x) :: lv_args (i + 2) (vs.map (vm_v ad))
    rw [vm_en_as ad k vs (i + 2)]
  | .double x :: vs, i => by
    show (i, Value.double x) :: vm_as ad (i + 2) (vm_e1 vs ++ List.replicate k none) = (i, Value.double x) :: lv_args (i + 2) (vs.map (vm_v ad))
    rw [vm_en_as ad k vs (i + 2)]
  | .int x :: vs, i => by
    show (i, Value.int x) :: vm_as ad (i + 1) (vm_e1 vs ++ List.replicate k none) = (i, Value.int x) :: lv_args (i + 1) (vs.map (vm_v ad))
    rw [vm_en_as ad k vs (i + 1)]
  | .float x :: vs, i => by
    show (i, Value.float x) :: vm_as ad (i + 1) (vm_e1 vs ++ List.replicate k none) = (i, Value.float x) :: lv_args (i + 1) (vs.map (vm_v ad))
    rw [vm_en_as ad k vs (i + 1)]
  | .null :: vs, i => by
    show (i, Value.null) :: vm_as ad (i + 1) (vm_e1 vs ++ List.replicate k none) = (i, Value.null) :: lv_args (i + 1) (vs.map (vm_v ad))
    rw [vm_en_as ad k vs (i + 1)]
  | .ref x :: vs, i => by
    show (i, Value.ref (ad x)) :: vm_as ad (i + 1) (vm_e1 vs ++ List.replicate k none) = (i, Value.ref (ad x)) :: lv_args (i + 1) (vs.map (vm_v ad))
    rw [vm_en_as ad k vs (i + 1)]
  | .retAddr x :: vs, i => by
    show (i, Value.retAddr x) :: vm_as ad (i + 1) (vm_e1 vs ++ List.replicate k none) = (i, Value.retAddr x) :: lv_args (i + 1) (vs.map (vm_v ad))
    rw [vm_en_as ad k vs (i + 1)]
theorem vm_en_len (ad : Nat → Nat) : ∀ (av : List Value), (vm_e1 av).length = (lg_sl (av.map (vm_v ad))).length
  | [] => rfl
  | .long x :: vs => by simp [vm_e1, lg_sl, vm_v, Value.category, vm_en_len ad vs]
  | .double x :: vs => by simp [vm_e1, lg_sl, vm_v, Value.category, vm_en_len ad vs]
  | .int x :: vs => by simp [vm_e1, lg_sl, vm_v, Value.category, vm_en_len ad vs]
  | .float x :: vs => by simp [vm_e1, lg_sl, vm_v, Value.category, vm_en_len ad vs]
  | .null :: vs => by simp [vm_e1, lg_sl, vm_v, Value.category, vm_en_len ad vs]
  | .ref x :: vs => by simp [vm_e1, lg_sl, vm_v, Value.category, vm_en_len ad vs]
  | .retAddr x :: vs => by simp [vm_e1, lg_sl, vm_v, Value.category, vm_en_len ad vs]
theorem Ct.of {M : vm_M} {bc bs : Nat} {av : List Value} {cs : List va_E} {post : Option Value → List va_E → Prop} {lv : List (Option Value)} (hy : plainName M.2.1.cls = true ∧ M.2.1.cls = M.1) (hle : (vm_e1 av).length ≤ M.2.2.2.1) (hlv : vm_en M.2.2.2.1 av = lv) (k : Run M cs.length bc bs 0 (lv, [], cs) post) : Ct M bc bs av cs post := by
  intro l D ad tc sz
  refine Met.ofW (cc := M.2.2.1) (maxL := M.2.2.2.1) (ret := M.2.2.2.2.1) hy.1 rfl ?_
  intro p e s m args below meth c s₁ B hml hv
  obtain ⟨rfl, hsz, hP, hK, hD0, hN, hT⟩ := hv
  have hx := B.exec
  have hb := B.bytes
  have hr := B.returns
  have hts := atoms_spec (ws := vm_ws M) B.pre
  have hown : s.vm.findClass M.1 = some m.cls := by rw [← hy.2]; exact findClass_of_methodNamed B.named
  have hlocks := B.notSynchronized
  have hnm : meth.name = M.2.1.name := (name_of_methodNamed B.named B.method).1
  subst hsz
  have hD := hD0.self (sz := s.heap.size)
  have hl := lv_entry (av.map (vm_v ad)) (n := M.2.2.2.1) (by rw [← vm_en_len]; exact hle)
  rw [lg_entry_eq]
  generalize (lg_sl (av.map (vm_v ad)) ++ List.replicate (M.2.2.2.1 - (lg_sl (av.map (vm_v ad))).length) Slot.unset).toArray = ls at hl ⊢
  have hl2 : vm_l ad ls lv := by
    rw [← hlv]
    unfold vm_l vm_en
    rw [vm_en_as]
    have : (vm_e1 av ++ List.replicate (M.2.2.2.1 - (vm_e1 av).length) none).length = M.2.2.2.1 := by simp; omega
    rw [this]
    exact hl
  refine k p l e (vm_rm M bc bs) s m _ below meth c 0 0 _ D ad tc (va_A (vm_w ad tc 0 cs) s.heap.size) ⟨hx, hb, hml, hown, fun w hw => hts w (List.mem_cons_of_mem _ hw), hK, fun q h => Or.inr h, hN, hlocks, hnm, ⟨Nat.le_refl _, Nat.le_refl _⟩, hT⟩ (by show 0 + bc ≤ bc; omega) (by show 0 + bs ≤ bs; omega) ?_ s.heap [] ls hl2 hP hD va_S.rf
  intro r cs' ad' cells' slots' hp hag h0 hc' hs' pc' lv' hrt H locs ls h1 h2 h3 h4
  refine W.widen (k := bc) (n := bs) (by omega) (by omega) ?_
  match r, hp, hrt with
  | none, hp, hrt => exact W.vret hx hb (hr.trans hrt.2) (fun t ht hW => ⟨⟨none, cs', ad', rfl, hp, hag, h0, by rw [ht]; exact h2, va_K.moved hW.alike hK, h3⟩, h4.F ht⟩) h4.2.2 (vm_dec_ok hrt.1)
  | some (.int v), hp, hrt =>
    obtain ⟨h5, ty, h6, h7⟩ := hrt
    exact W.zret hx hb (hr.trans h6) h7 (fun t ht hW => ⟨⟨some (.int v), cs', ad', rfl, hp, hag, h0, by rw [ht]; exact h2, va_K.moved hW.alike hK, h3⟩, h4.F ht⟩) h4.2.2 (vm_dec_ok h5)
  | some (.long v), hp, hrt => exact W.lret hx hb (hr.trans hrt.2) (fun t ht hW => ⟨⟨some (.long v), cs', ad', rfl, hp, hag, h0, by rw [ht]; exact h2, va_K.moved hW.alike hK, h3⟩, h4.F ht⟩) h4.2.2 (vm_dec_ok hrt.1)
theorem vm_T.moved {ad : Nat → Nat} {A : Nat → Prop} {u U : State} {H : Heap} (hvm : u.vm.Alike U.vm) (h : vm_T ad A u H) : vm_T ad A U H := ⟨h.1.moved hvm, h.2.1.moved hvm, h.2.2.moved hvm⟩
theorem vm_nest_warm {s U : State} (hW : s.WarmedH U.vm) (h : ∀ w ∈ G_nest, va_Nw w s) : ∀ w ∈ G_nest, va_Nw w U := by
  have h0 := h _ (List.mem_of_getElem? (l := G_nest) (i := 0) rfl)
  have h1 := h _ (List.mem_of_getElem? (l := G_nest) (i := 1) rfl)
  have h2 := h _ (List.mem_of_getElem? (l := G_nest) (i := 2) rfl)
  have h3 := h _ (List.mem_of_getElem? (l := G_nest) (i := 3) rfl)
  have h4 := h _ (List.mem_of_getElem? (l := G_nest) (i := 4) rfl)
  have h5 := h _ (List.mem_of_getElem? (l := G_nest) (i := 5) rfl)
  have h6 := h _ (List.mem_of_getElem? (l := G_nest) (i := 6) rfl)
  intro w hw
  simp only [G_nest, List.mem_cons, List.not_mem_nil, or_false] at hw
  rcases hw with rfl | rfl | rfl | rfl | rfl | rfl | rfl
  · exact va_Nw.warmM hW h0
  · exact va_Nw.warmF hW h1
  · exact va_Nw.warmF hW h2
  · exact va_Nw.warmF hW h3
  · exact va_Nw.warmF hW h4
  · exact va_Nw.warmM hW h5
  · exact va_Nw.warmM hW h6
theorem vm_nest_tab : ∀ w ∈ G_nest, w.onTables = true := by decide +kernel
theorem vm_blind (D : va_G) (ad tc : Nat → Nat) (av : List Value) (cs : List va_E) (sz : Nat) : FrameBlind (vm_Pc D ad tc av cs sz) := by
  intro a U g mk q
  obtain ⟨q0, q1, qP, qK, qD, qN, qT⟩ := q
  exact ⟨q0, q1, qP, va_K.moved (u := U) (U := U.calling g mk a) (Vm.Alike.refl U.vm) qK, qD, fun w hw => va_Nw.same (u := U) (U := U.calling g mk a) (vm_nest_tab w hw) rfl (qN w hw), vm_T.moved (u := U) (U := U.calling g mk a) (Vm.Alike.refl U.vm) qT⟩
section VM7
variable {p : Program} {l : Launch} {e : Env} {R : Room} {s : State} {m : MethodId} {args : Array Value} {below : List Frame} {meth : Method} {c : Code} {cells slots : Nat} {Q : State → Prop} {D : va_G} {ad tc : Nat → Nat} {A : Nat → Prop} {M M' : vm_M} {H : Heap} {locs : List Loc} {cs : List va_E}
theorem vm_pre {av : List Value} (C : vm_C M p R s m args meth c D ad tc A) (hP : va_P D vwCl (vm_w ad tc 0 cs) H) (hD : va_D A (vm_w ad tc 0 cs)) (hS : va_S A s.heap H locs) (U : State) (hU : U.heap = H) (hW : s.WarmedH U.vm) : vm_Pc D ad tc av cs H.size (av.map (vm_v ad)).toArray U := by
  obtain ⟨hx, hb, hml, hown, hts, hK, hA, hN, hlk, hnm, hR, hT⟩ := C
  have hF : ∀ q, va_A (vm_w ad tc 0 cs) H.size q → A q := by
    intro q h
    rcases h with ⟨k, e, h⟩ | h
    · exact hD.2 k _ h
    · exact hA q (Nat.le_trans hS.1 h)
  refine ⟨rfl, by rw [hU], by rw [hU]; exact hP, va_K.moved hW.alike hK, hD.weaken (fun _ _ _ _ => trivial), vm_nest_warm hW hN, ?_⟩
  rw [hU]
  refine vm_T.moved hW.alike ⟨(hT.1.kept (fun a h1 h2 => hS.2.1 a h1 h2)).narrow hF, (hT.2.1.kept (fun a h1 h2 => hS.2.1 a h1 h2)).narrow hF, hT.2.2⟩
theorem vm_back {pc bc' bs' : Nat} {ls : Array Slot} {st0 rest : List Value} {a : Array Value} {post' : Option Value → List va_E → Prop} (C : vm_C M p R s m args meth c D ad tc A) (hD : va_D A (vm_w ad tc 0 cs)) (hS : va_S A s.heap H locs)
    (hr : va_Run p l e R s m args below meth c H locs cells slots bc' bs' (F0 m pc ls st0) rest (vm_Qc D ad tc cs bc' post' H.size a) (va_A (vm_w ad tc 0 cs) H.size))
    (kk : ∀ (r : Option Value) (cs' : List va_E) (ad' : Nat → Nat) (H1 : Heap) (locs1 : List Loc), post' r cs' → vm_ag cs.length ad ad' → (bc' = 0 → ad' = ad) → va_P D vwCl (vm_w ad' tc 0 cs') H1 → va_D A (vm_w ad' tc 0 cs') → va_S A s.heap H1 locs1 → W p l e R s m args below meth c H1 locs1 (cells + bc') (slots + bs') Q (F0 m (pc + 3) ls ((r.map (vm_v ad')).toList ++ rest))) : W p l e R s m args below meth c H locs cells slots Q (F0 m pc ls st0) := by
  obtain ⟨hx, hb, hml, hown, hts, hK, hA, hN, hlk, hnm, hR, hT⟩ := C
  have hF : ∀ q, va_A (vm_w ad tc 0 cs) H.size q → A q := by
    intro q h
    rcases h with ⟨k, e, h⟩ | h
    · exact hD.2 k _ h
    · exact hA q (Nat.le_trans hS.1 h)
  intro T hT X
  obtain ⟨v, st₀, t, T', L, h0, X', hL, e1, e2, ⟨⟨r, cs', ad', hv, hp, hag, hz0, hP1, hK1, hD1⟩, hz, hk⟩, st⟩ := hr T hT X
  cases hv
  rw [h0] at hz hk
  obtain ⟨t2, a1, b1⟩ := kk r cs' ad' T'.heap (locs ++ L) hp hag hz0 (by rw [e1]; exact hP1) (hD1.weaken (fun k q _ h => hF q.1 h))
    ⟨Nat.le_trans hS.1 (by rw [e1]; exact hz), fun q h1 h2 => by rw [e1, hk q (Nat.lt_of_lt_of_le h1 hS.1) (fun z => h2 (hF q z))]; exact hS.2.1 q h1 h2, fun q hq => by
      rcases List.mem_append.mp hq with h | h
      · exact hS.2.2 q h
      · exact hF _ (hL q h)⟩ T' rfl X'
  exact ⟨t2, st t2 a1, b1⟩
end VM7
end
section
/-! calls that make no cells -/
theorem vm_good {w : Jvm.Cond} (h : w ∈ G_big) : w ∈ G_big ∧ ((w.onTables && w.keeps) = true ∨ ∃ ty, w = .arrayClass ty) := ⟨h, good_of_word (List.mem_filter.mp h).2⟩
theorem vm_goodWs {M : vm_M} (h : Jvm.Cond.code M.2.1 M.2.2.1 M.2.2.2.1 M.2.2.2.2.1 ∈ G_big) : GoodIn G_big (vm_ws M) := by
  intro w hw
  rcases List.mem_cons.mp hw with rfl | hw
  · exact vm_good h
  · exact vm_good hw
def vm_okR (M M' : vm_M) (n : Nat) : Bool := decide (M'.2.1.cls = M'.1) && (decide (M'.2.1.cls ≠ "java/lang/invoke/MethodHandle") && (decide (M'.2.1.cls ≠ "java/lang/invoke/VarHandle") && (decide ((parseMethodDescriptor M'.2.1.desc).map (fun d => d.parameters.length) = some n) && (Nat.ble (M'.2.2.2.2.2.1 + 1) M.2.2.2.2.2.1 && Nat.ble (8 + (M'.2.2.2.1 + 11) + M'.2.2.2.2.2.2) M.2.2.2.2.2.2))))
theorem vm_okR_ok {M M' : vm_M} {n : Nat} {R : Room} (h : vm_okR M M' n = true) (hR : M.2.2.2.2.2.1 ≤ R.frames ∧ M.2.2.2.2.2.2 ≤ R.locals) : M'.2.1.cls = M'.1 ∧ (M'.2.1.cls ≠ "java/lang/invoke/MethodHandle" ∧ M'.2.1.cls ≠ "java/lang/invoke/VarHandle" ∧ (parseMethodDescriptor M'.2.1.desc).map (fun d => d.parameters.length) = some n) ∧ (M'.2.2.2.2.2.1 + 1 ≤ R.frames ∧ 8 + (M'.2.2.2.1 + 11) + M'.2.2.2.2.2.2 ≤ R.locals) := by
  simp only [vm_okR, Bool.and_eq_true, decide_eq_true_eq] at h
  obtain ⟨h1, h2, h3, h4, h5, h6⟩ := h
  exact ⟨h1, ⟨h2, h3, h4⟩, Nat.le_trans (Nat.le_of_ble_eq_true h5) hR.1, Nat.le_trans (Nat.le_of_ble_eq_true h6) hR.2⟩
/-- places of words: methodLink, instanceMethod, selects, initialized, code -/
def vm_okV (M M' : vm_M) (pc idx n : Nat) (P : Nat × Nat × Nat × Nat × Nat) : Bool :=
  vm_dec M pc (.invokevirtual idx) 3 && (vm_at P.1 (.methodLink M.1 idx M'.2.1) && (vm_at P.2.1 (.instanceMethod M'.2.1) && (vm_at P.2.2.1 (.selects M'.1 M'.2.1 M'.2.1) && (vm_at P.2.2.2.1 (.initialized M'.1) && (vm_at P.2.2.2.2 (.code M'.2.1 M'.2.2.1 M'.2.2.2.1 M'.2.2.2.2.1) && vm_okR M M' n)))))
/-- methodLink, static, initialized, code -/
def vm_okS (M M' : vm_M) (pc idx n : Nat) (P : Nat × Nat × Nat × Nat) : Bool :=
  vm_dec M pc (.invokestatic idx) 3 && (vm_at P.1 (.methodLink M.1 idx M'.2.1) && (vm_at P.2.1 (.static M'.2.1) && (vm_at P.2.2.1 (.initialized M'.2.1.cls) && (vm_at P.2.2.2 (.code M'.2.1 M'.2.2.1 M'.2.2.2.1 M'.2.2.2.2.1) && vm_okR M M' n))))
/-- methodLinkNest, static, initialized, code -/
def vm_okN (M M' : vm_M) (pc idx n : Nat) (P : Nat × Nat × Nat × Nat) : Bool :=
  vm_dec M pc (.invokestatic idx) 3 && (decide (vm_g G_nest P.1 = some (.methodLinkNest M.1 idx M'.2.1 "ImageLoader")) && (vm_at P.2.1 (.static M'.2.1) && (vm_at P.2.2.1 (.initialized M'.2.1.cls) && (vm_at P.2.2.2 (.code M'.2.1 M'.2.2.1 M'.2.2.2.1 M'.2.2.2.2.1) && vm_okR M M' n))))
theorem vm_map_st (ad : Nat → Nat) (r : Option Value) (rest : List Value) : (r.toList ++ rest).map (vm_v ad) = (r.map (vm_v ad)).toList ++ rest.map (vm_v ad) := by
  cases r <;> simp
theorem vm_sum (ad : Nat → Nat) (rest : List Value) : ((rest.map (vm_v ad)).map fun v => v.category).sum = (rest.map Value.category).sum := by
  rw [List.map_map]
  congr 1
  apply List.map_congr_left
  intro v _
  exact vm_v_cat ad v
section VM8
variable {M M' : vm_M} {n bc bs pc idx : Nat} {post post' : Option Value → List va_E → Prop} {lv : List (Option Value)} {st rest As : List Value} {cs : List va_E}
theorem Run.callV {b ci : Nat} {fs : List Value} {q : vw_C} {P : Nat × Nat × Nat × Nat × Nat} (hok : vm_okV M M' pc idx As.length P = true) (hct : Ct M' 0 0 (.ref b :: As) cs post') (hst : st = As.reverse ++ .ref b :: rest) (hrest : (rest.map Value.category).sum ≤ 8) (hlen : lv.length = M.2.2.2.1) (hcell : vm_g cs b = some (.inr (ci, fs))) (hcl : vm_g vwCl ci = some q) (hq1 : q.1 = M'.1)
    (k : ∀ r cs', post' r cs' → Run M n bc bs (pc + 3) (lv, r.toList ++ rest, cs') post) : Run M n bc bs pc (lv, st, cs) post := by
  intro p l e R s m args below meth c cells slots Q D ad tc A C hc hs hq H locs ls h1 h2 h3 h4
  have C' := C
  obtain ⟨hx, hb, hml, hown, hts, hK, hA, hN, hlk, hnm, hR, hT⟩ := C'
  simp only [vm_okV, Bool.and_eq_true] at hok
  obtain ⟨o1, o2, o3, o4, o5, o6, o7⟩ := hok
  obtain ⟨r1, r2, r3⟩ := vm_okR_ok o7 hR
  have hG : GoodIn G_big (wsV M.1 idx M'.1 M'.2.1 (vm_ws M')) := by
    intro w hw
    unfold wsV at hw
    rcases List.mem_append.mp hw with hw | hw
    · simp only [List.mem_cons, List.not_mem_nil, or_false] at hw
      rcases hw with rfl | rfl | rfl | rfl
      · exact vm_good (vm_at_in o2)
      · exact vm_good (vm_at_in o3)
      · exact vm_good (vm_at_in o4)
      · exact vm_good (vm_at_in o5)
    · exact vm_goodWs (vm_at_in o6) w hw
  have hcw : CallW R s args M.1 M'.1 idx M'.2.1 M'.2.2.1 M'.2.2.2.1 M'.2.2.2.2.1 (vm_ws M') (vm_rm M' 0 0) 0 0 As.length := cwV As.length hts hG rfl rfl rfl ⟨r1, r2⟩ r3
  have hrecv : ∃ cellB : Cell, H[ad b]? = some cellB ∧ cellB.vm.isStatics = false ∧ s.vm.findClass M'.1 = some cellB.cls := by
    rw [← hq1]
    exact va_recv hK h2 (by rw [← vm_g_eq]; exact hcl) (vm_w_at hcell)
  refine vm_back C h3 h4 (va_runV (As := As.map (vm_v ad)) (b := ad b) (rest := rest.map (vm_v ad)) ⟨hx, hb, hml, hown, hts⟩ (hct l D ad tc H.size) hcw ⟨vm_blind D ad tc _ cs _, hrecv, fun U hU hW => vm_pre (av := .ref b :: As) C h2 h3 h4 U hU hW⟩ rfl (by simp) (h1.1.trans hlen) ?_ (lv_room (by rw [vm_sum]; exact hrest)) (vm_dec_ok o1) ⟨by omega, by omega⟩) ?_
  · show st.map (vm_v ad) = _
    rw [hst]
    simp [vm_v]
  · intro r cs' ad' H1 locs1 hp hag h0 hP1 hD1 hS1
    have := h0 rfl
    subst this
    have k2 := k r cs' hp p l e R s m args below meth c cells slots Q D ad' tc A C hc hs hq H1 locs1 ls h1 hP1 hD1 hS1
    rw [vm_map_st] at k2
    exact k2
theorem Run.callS {P : Nat × Nat × Nat × Nat} (hok : vm_okS M M' pc idx As.length P = true) (hct : Ct M' 0 0 As cs post') (hst : st = As.reverse ++ rest) (hrest : (rest.map Value.category).sum ≤ 8) (hlen : lv.length = M.2.2.2.1)
    (k : ∀ r cs', post' r cs' → Run M n bc bs (pc + 3) (lv, r.toList ++ rest, cs') post) : Run M n bc bs pc (lv, st, cs) post := by
  intro p l e R s m args below meth c cells slots Q D ad tc A C hc hs hq H locs ls h1 h2 h3 h4
  have C' := C
  obtain ⟨hx, hb, hml, hown, hts, hK, hA, hN, hlk, hnm, hR, hT⟩ := C'
  simp only [vm_okS, Bool.and_eq_true] at hok
  obtain ⟨o1, o2, o3, o4, o6, o7⟩ := hok
  obtain ⟨r1, r2, r3⟩ := vm_okR_ok o7 hR
  have hG : GoodIn G_big (va_wsS M.1 idx M'.2.1 (vm_ws M')) := by
    intro w hw
    unfold va_wsS at hw
    rcases List.mem_append.mp hw with hw | hw
    · simp only [List.mem_cons, List.not_mem_nil, or_false] at hw
      rcases hw with rfl | rfl | rfl
      · exact vm_good (vm_at_in o2)
      · exact vm_good (vm_at_in o3)
      · exact vm_good (vm_at_in o4)
    · exact vm_goodWs (vm_at_in o6) w hw
  have hcw := va_cwS (R := R) (s := s) (args := args) (own := M.1) (index := idx) (y := M'.2.1) (bytes := M'.2.2.1) (maxL := M'.2.2.2.1) (ret := M'.2.2.2.2.1) (ws := vm_ws M') (rm := vm_rm M' 0 0) (mc := 0) (ms := 0) As.length hts hG rfl rfl rfl r2 r3
  refine vm_back C h3 h4 (va_runS (As := As.map (vm_v ad)) (rest := rest.map (vm_v ad)) ⟨hx, hb, hml, hown, hts⟩ (hct l D ad tc H.size) hcw ⟨vm_blind D ad tc _ cs _, fun U hU hW => vm_pre (av := As) C h2 h3 h4 U hU hW⟩ rfl (by simp) (h1.1.trans hlen) ?_ (lv_room (by rw [vm_sum]; exact hrest)) (vm_dec_ok o1) ⟨by omega, by omega⟩) ?_
  · show st.map (vm_v ad) = _
    rw [hst]
    simp
  · intro r cs' ad' H1 locs1 hp hag h0 hP1 hD1 hS1
    have := h0 rfl
    subst this
    have k2 := k r cs' hp p l e R s m args below meth c cells slots Q D ad' tc A C hc hs hq H1 locs1 ls h1 hP1 hD1 hS1
    rw [vm_map_st] at k2
    exact k2
theorem Run.callN {P : Nat × Nat × Nat × Nat} (hok : vm_okN M M' pc idx As.length P = true) (hct : Ct M' 0 0 As cs post') (hst : st = As.reverse ++ rest) (hrest : (rest.map Value.category).sum ≤ 8) (hlen : lv.length = M.2.2.2.1)
    (k : ∀ r cs', post' r cs' → Run M n bc bs (pc + 3) (lv, r.toList ++ rest, cs') post) : Run M n bc bs pc (lv, st, cs) post := by
  intro p l e R s m args below meth c cells slots Q D ad tc A C hc hs hq H locs ls h1 h2 h3 h4
  have C' := C
  obtain ⟨hx, hb, hml, hown, hts, hK, hA, hN, hlk, hnm, hR, hT⟩ := C'
  simp only [vm_okN, Bool.and_eq_true, decide_eq_true_eq] at hok
  obtain ⟨o1, o2, o3, o4, o6, o7⟩ := hok
  rw [vm_g_eq] at o2
  obtain ⟨r1, r2, r3⟩ := vm_okR_ok o7 hR
  have hcw := va_cnB (R := R) (s := s) (args := args) (own := M.1) (host := "ImageLoader") (index := idx) (y := M'.2.1) (bytes := M'.2.2.1) (maxL := M'.2.2.2.1) (ret := M'.2.2.2.2.1) (ws := vm_ws M') (rm := vm_rm M' 0 0) (mc := 0) (ms := 0) As.length hts (vm_goodWs (vm_at_in o6)) rfl rfl rfl (hN _ (List.mem_of_getElem? o2)) (hts _ (vm_at_in o4)) r2 r3
  refine vm_back C h3 h4 (va_runSN (As := As.map (vm_v ad)) (rest := rest.map (vm_v ad)) ⟨hx, hb, hml, hown, hts⟩ (hct l D ad tc H.size) ⟨hcw, hts _ (vm_at_in o3), trivial⟩ ⟨vm_blind D ad tc _ cs _, fun U hU hW => vm_pre (av := As) C h2 h3 h4 U hU hW⟩ rfl (by simp) (h1.1.trans hlen) ?_ (lv_room (by rw [vm_sum]; exact hrest)) (vm_dec_ok o1) ⟨by omega, by omega⟩) ?_
  · show st.map (vm_v ad) = _
    rw [hst]
    simp
  · intro r cs' ad' H1 locs1 hp hag h0 hP1 hD1 hS1
    have := h0 rfl
    subst this
    have k2 := k r cs' hp p l e R s m args below meth c cells slots Q D ad' tc A C hc hs hq H1 locs1 ls h1 hP1 hD1 hS1
    rw [vm_map_st] at k2
    exact k2
end VM8
end
section
def m_L_init : vm_M := (RX4, yX4_init, cX4_init, 2, none, 3, 61)
def m_L_add : vm_M := (RX4, yX4_add, cX4_add, 5, some .int, 1, 21)
def m_L_zeros : vm_M := (RX4, yX4_zeros, cX4_zeros, 3, some .int, 1, 21)
def m_L_poke : vm_M := (RX4, yX4_poke, cX4_poke, 5, some .int, 1, 24)
def m_L_peek : vm_M := (RX4, yX4_peek, cX4_peek, 2, some .int, 1, 24)
def m_L_cut : vm_M := (RX4, yX4_cut, cX4_cut, 3, some .int, 1, 21)
def m_L_load : vm_M := (RX4, yX4_load, cX4_load, 3, some .int, 6, 146)
def m_L_told : vm_M := (RX4, yX4_told, cX4_told, 2, some .int, 0, 0)
def m_L_stack : vm_M := (RX4, yX4_stack, cX4_stack, 4, some .int, 4, 88)
def m_L_read : vm_M := (RX4, yX4_read, cX4_read, 4, some .long, 3, 65)
def m_L_write : vm_M := (RX4, yX4_write, cX4_write, 5, some .int, 3, 65)
def m_L_fetch : vm_M := (RX4, yX4_fetch, cX4_fetch, 3, some .long, 3, 65)
def m_L_protect : vm_M := (RX4, yX4_protect, cX4_protect, 4, some .int, 2, 42)
def m_L_unmap : vm_M := (RX4, yX4_unmap, cX4_unmap, 4, some .int, 3, 65)
def m_L_rights : vm_M := (RX4, yX4_rights, cX4_rights, 2, some .int, 2, 41)
def m_L_count : vm_M := (RX4, yX4_count, cX4_count, 2, some .int, 3, 65)
def m_L_sum : vm_M := (RX4, yX4_sum, cX4_sum, 5, some .int, 3, 66)
def m_L_stackPointer : vm_M := (RX4, yX4_stackPointer, cX4_stackPointer, 3, some .int, 3, 63)
def m_L_argumentBytes : vm_M := (RX4, yX4_argumentBytes, cX4_argumentBytes, 1, some .int, 2, 41)
def m_L_argumentCount : vm_M := (RX4, yX4_argumentCount, cX4_argumentCount, 3, some .int, 2, 41)
def m_L_layArguments : vm_M := (RX4, yX4_layArguments, cX4_layArguments, 6, none, 3, 63)
def m_L_isSize : vm_M := (RX4, yX4_isSize, cX4_isSize, 1, some .boolean, 0, 0)
def m_L_isPage : vm_M := (RX4, yX4_isPage, cX4_isPage, 1, some .boolean, 0, 0)
def m_L_arePages : vm_M := (RX4, yX4_arePages, cX4_arePages, 2, some .boolean, 0, 0)
def m_M_init : vm_M := (RX5, yX5_init, cX5_init, 2, none, 1, 20)
def m_M_in : vm_M := (RX5, yX5_in, cX5_in, 3, some .boolean, 0, 0)
def m_M_add : vm_M := (RX5, yX5_add, cX5_add, 5, some .int, 1, 22)
def m_M_zeros : vm_M := (RX5, yX5_zeros, cX5_zeros, 3, some .int, 1, 22)
def m_M_isWide : vm_M := (RX5, yX5_isWide, cX5_isWide, 1, some .boolean, 0, 0)
def m_M_poke : vm_M := (RX5, yX5_poke, cX5_poke, 5, some .int, 1, 22)
def m_M_peek : vm_M := (RX5, yX5_peek, cX5_peek, 2, some .int, 1, 22)
def m_M_cut : vm_M := (RX5, yX5_cut, cX5_cut, 3, some .int, 1, 22)
def m_M_half : vm_M := (RX5, yX5_half, cX5_half, 2, some .int, 0, 0)
def m_M_word : vm_M := (RX5, yX5_word, cX5_word, 2, some .long, 1, 21)
def m_M_fail : vm_M := (RX5, yX5_fail, cX5_fail, 3, some .boolean, 0, 0)
def m_M_isHeader : vm_M := (RX5, yX5_isHeader, cX5_isHeader, 3, some .boolean, 2, 42)
def m_M_mappedPages : vm_M := (RX5, yX5_mappedPages, cX5_mappedPages, 3, some .int, 0, 0)
def m_M_isSegment : vm_M := (RX5, yX5_isSegment, cX5_isSegment, 16, some .boolean, 2, 42)
def m_M_isDynamic : vm_M := (RX5, yX5_isDynamic, cX5_isDynamic, 2, some .boolean, 2, 42)
def m_M_areHeads : vm_M := (RX5, yX5_areHeads, cX5_areHeads, 5, some .boolean, 3, 77)
def m_M_arePairs : vm_M := (RX5, yX5_arePairs, cX5_arePairs, 6, some .boolean, 2, 42)
def m_M_lay : vm_M := (RX5, yX5_lay, cX5_lay, 6, none, 0, 0)
def m_M_unlay : vm_M := (RX5, yX5_unlay, cX5_unlay, 2, none, 0, 0)
def m_M_areHeld : vm_M := (RX5, yX5_areHeld, cX5_areHeld, 10, some .boolean, 0, 0)
def m_M_wordIn : vm_M := (RX5, yX5_wordIn, cX5_wordIn, 6, some .long, 0, 0)
def m_M_put : vm_M := (RX5, yX5_put, cX5_put, 6, none, 0, 0)
def m_M_relocate : vm_M := (RX5, yX5_relocate, cX5_relocate, 17, some .boolean, 1, 29)
def m_M_relocations : vm_M := (RX5, yX5_relocations, cX5_relocations, 3, some .boolean, 2, 65)
def m_M_load : vm_M := (RX5, yX5_load, cX5_load, 2, some .int, 4, 101)
def m_M_told : vm_M := (RX5, yX5_told, cX5_told, 2, some .int, 0, 0)
def m_M_stack : vm_M := (RX5, yX5_stack, cX5_stack, 11, some .int, 1, 25)
def m_M_refusal : vm_M := (RX5, yX5_refusal, cX5_refusal, 4, some .int, 1, 22)
def m_M_have : vm_M := (RX5, yX5_have, cX5_have, 8, some .long, 2, 45)
def m_M_read : vm_M := (RX5, yX5_read, cX5_read, 3, some .long, 3, 72)
def m_M_write : vm_M := (RX5, yX5_write, cX5_write, 6, some .int, 2, 45)
def m_M_fetch : vm_M := (RX5, yX5_fetch, cX5_fetch, 2, some .long, 3, 72)
def m_M_isPage : vm_M := (RX5, yX5_isPage, cX5_isPage, 1, some .boolean, 1, 22)
def m_M_protect : vm_M := (RX5, yX5_protect, cX5_protect, 4, some .int, 2, 42)
def m_M_unmap : vm_M := (RX5, yX5_unmap, cX5_unmap, 5, some .int, 2, 42)
def m_M_rights : vm_M := (RX5, yX5_rights, cX5_rights, 2, some .int, 2, 42)
def m_M_with : vm_M := (RX5, yX5_with, cX5_with, 4, some .int, 0, 0)
def m_M_count : vm_M := (RX5, yX5_count, cX5_count, 2, some .int, 1, 23)
def m_M_sum : vm_M := (RX5, yX5_sum, cX5_sum, 5, some .int, 2, 42)
def m_I_init : vm_M := (RX0, yX0_init, cX0_init, 2, none, 2, 40)
def m_I_faultPlace : vm_M := (RX0, yX0_faultPlace, cX0_faultPlace, 1, some .int, 0, 0)
def m_I_base : vm_M := (RX0, yX0_base, cX0_base, 1, some .int, 0, 0)
def m_I_entry : vm_M := (RX0, yX0_entry, cX0_entry, 1, some .int, 0, 0)
def m_I_pagesWanted : vm_M := (RX0, yX0_pagesWanted, cX0_pagesWanted, 1, some .int, 0, 0)
def m_I_relocationCount : vm_M := (RX0, yX0_relocationCount, cX0_relocationCount, 1, some .int, 0, 0)
def m_I_bring : vm_M := (RX0, yX0_bring, cX0_bring, 5, some .int, 5, 122)
def m_I_forget : vm_M := (RX0, yX0_forget, cX0_forget, 1, none, 0, 0)
def m_I_fault : vm_M := (RX0, yX0_fault, cX0_fault, 3, some .int, 0, 0)
def m_I_headerFault : vm_M := (RX0, yX0_headerFault, cX0_headerFault, 4, some .int, 2, 43)
def m_I_headsFault : vm_M := (RX0, yX0_headsFault, cX0_headsFault, 10, some .int, 4, 90)
def m_I_segmentFault : vm_M := (RX0, yX0_segmentFault, cX0_segmentFault, 5, some .int, 3, 66)
def m_I_meetsEarlier : vm_M := (RX0, yX0_meetsEarlier, cX0_meetsEarlier, 3, some .boolean, 2, 41)
def m_I_dynamicHeadFault : vm_M := (RX0, yX0_dynamicHeadFault, cX0_dynamicHeadFault, 5, some .int, 2, 43)
def m_I_entryFault : vm_M := (RX0, yX0_entryFault, cX0_entryFault, 6, some .int, 2, 43)
def m_I_dynamicFault : vm_M := (RX0, yX0_dynamicFault, cX0_dynamicFault, 3, some .int, 3, 69)
def m_I_takeDynamicPairs : vm_M := (RX0, yX0_takeDynamicPairs, cX0_takeDynamicPairs, 7, none, 2, 43)
def m_I_takeDynamicPair : vm_M := (RX0, yX0_takeDynamicPair, cX0_takeDynamicPair, 5, none, 0, 0)
def m_I_lay : vm_M := (RX0, yX0_lay, cX0_lay, 4, none, 4, 92)
def m_I_takeBack : vm_M := (RX0, yX0_takeBack, cX0_takeBack, 3, none, 3, 65)
def m_I_relocationsFault : vm_M := (RX0, yX0_relocationsFault, cX0_relocationsFault, 4, some .int, 4, 99)
def m_I_relocationFault : vm_M := (RX0, yX0_relocationFault, cX0_relocationFault, 7, some .int, 3, 73)
def m_I_symbolFault : vm_M := (RX0, yX0_symbolFault, cX0_symbolFault, 7, some .int, 2, 47)
def m_I_areHeld : vm_M := (RX0, yX0_areHeld, cX0_areHeld, 6, some .boolean, 1, 22)
def m_S_init : vm_M := (RX1, yX1_init, cX1_init, 1, none, 1, 20)
def m_S_take : vm_M := (RX1, yX1_take, cX1_take, 4, none, 2, 43)
def m_S_isAlignSound : vm_M := (RX1, yX1_isAlignSound, cX1_isAlignSound, 1, some .boolean, 1, 21)
def m_S_isAligned : vm_M := (RX1, yX1_isAligned, cX1_isAligned, 1, some .boolean, 0, 0)
def m_S_isInSpace : vm_M := (RX1, yX1_isInSpace, cX1_isInSpace, 1, some .boolean, 0, 0)
def m_S_holds : vm_M := (RX1, yX1_holds, cX1_holds, 3, some .boolean, 0, 0)
def m_S_firstPage : vm_M := (RX1, yX1_firstPage, cX1_firstPage, 1, some .int, 0, 0)
def m_S_lastPage : vm_M := (RX1, yX1_lastPage, cX1_lastPage, 1, some .int, 0, 0)
def m_S_pages : vm_M := (RX1, yX1_pages, cX1_pages, 1, some .int, 1, 20)
def m_S_sharesPageWith : vm_M := (RX1, yX1_sharesPageWith, cX1_sharesPageWith, 2, some .boolean, 1, 20)
def m_S_lay : vm_M := (RX1, yX1_lay, cX1_lay, 5, none, 3, 68)
def m_P_init : vm_M := (RX2, yX2_init, cX2_init, 3, none, 1, 20)
def m_P_frames : vm_M := (RX2, yX2_frames, cX2_frames, 1, some .int, 0, 0)
def m_P_mappedPages : vm_M := (RX2, yX2_mappedPages, cX2_mappedPages, 1, some .int, 0, 0)
def m_P_freeFrames : vm_M := (RX2, yX2_freeFrames, cX2_freeFrames, 1, some .int, 0, 0)
def m_P_rightsOf : vm_M := (RX2, yX2_rightsOf, cX2_rightsOf, 2, some .int, 1, 20)
def m_P_setRights : vm_M := (RX2, yX2_setRights, cX2_setRights, 3, none, 1, 20)
def m_P_anyMapped : vm_M := (RX2, yX2_anyMapped, cX2_anyMapped, 4, some .boolean, 2, 41)
def m_P_pagesWith : vm_M := (RX2, yX2_pagesWith, cX2_pagesWith, 5, some .int, 2, 41)
def m_P_mapAll : vm_M := (RX2, yX2_mapAll, cX2_mapAll, 5, none, 2, 44)
def m_P_clear : vm_M := (RX2, yX2_clear, cX2_clear, 3, none, 1, 22)
def m_P_releaseAll : vm_M := (RX2, yX2_releaseAll, cX2_releaseAll, 4, none, 2, 42)
def m_P_refusal : vm_M := (RX2, yX2_refusal, cX2_refusal, 5, some .int, 2, 41)
def m_P_byteAt : vm_M := (RX2, yX2_byteAt, cX2_byteAt, 2, some .int, 0, 0)
def m_P_setByte : vm_M := (RX2, yX2_setByte, cX2_setByte, 3, none, 0, 0)
def m_P_number : vm_M := (RX2, yX2_number, cX2_number, 6, some .long, 1, 21)
def m_P_setNumber : vm_M := (RX2, yX2_setNumber, cX2_setNumber, 5, none, 1, 22)
def m_P_sumOn : vm_M := (RX2, yX2_sumOn, cX2_sumOn, 6, some .int, 2, 41)
def m_T_init : vm_M := (RX3, yX3_init, cX3_init, 1, none, 1, 20)
def m_T_size : vm_M := (RX3, yX3_size, cX3_size, 1, some .int, 0, 0)
def m_T_hasRoomFor : vm_M := (RX3, yX3_hasRoomFor, cX3_hasRoomFor, 2, some .boolean, 0, 0)
def m_T_has : vm_M := (RX3, yX3_has, cX3_has, 5, some .boolean, 0, 0)
def m_T_append : vm_M := (RX3, yX3_append, cX3_append, 2, none, 0, 0)
def m_T_setByte : vm_M := (RX3, yX3_setByte, cX3_setByte, 3, none, 0, 0)
def m_T_byteAt : vm_M := (RX3, yX3_byteAt, cX3_byteAt, 2, some .int, 0, 0)
def m_T_half : vm_M := (RX3, yX3_half, cX3_half, 2, some .int, 1, 21)
def m_T_word : vm_M := (RX3, yX3_word, cX3_word, 3, some .long, 1, 21)
def m_T_lacksLastZero : vm_M := (RX3, yX3_lacksLastZero, cX3_lacksLastZero, 1, some .boolean, 1, 21)
def m_T_shorten : vm_M := (RX3, yX3_shorten, cX3_shorten, 2, none, 0, 0)
def m_W_cell : vm_M := (RL, yL_cell, cL_cell, 2, some .int, 0, 0)
def m_W_law : vm_M := (RL, yL_law, cL_law, 4, some .boolean, 7, 168)
def m_K_bitCount : vm_M := (RJ13, yJ13_bitCount_95d88, cJ13_bitCount_95d88, 2, some .int, 0, 0)
def m_J_floorDiv : vm_M := (RJ9, yJ9_floorDiv_7cf53, cJ9_floorDiv_7cf53, 3, some .int, 0, 0)
def m_J_floorMod : vm_M := (RJ9, yJ9_floorMod_7cf53, cJ9_floorMod_7cf53, 3, some .int, 0, 0)
def m_J_max : vm_M := (RJ9, yJ9_max_7cf53, cJ9_max_7cf53, 2, some .int, 0, 0)
def m_J_min : vm_M := (RJ9, yJ9_min_7cf53, cJ9_min_7cf53, 2, some .int, 0, 0)
def m_J_minJ : vm_M := (RJ9, yJ9_min_f86c9, cJ9_min_f86c9, 4, some .long, 0, 0)
end
section
def k_S_init_0 : List vm_I := [.inl (.aload_n 0)]
theorem kc_S_init_0 : vm_chk m_S_init 0 k_S_init_0 = some 1 := by decide +kernel
theorem d_S_init_1 : vm_dec m_S_init 1 (.invokespecial 3) 3 = true := by decide +kernel
theorem d_S_init_4 : vm_dec m_S_init 4 .return_ 1 = true := by decide +kernel
def k_S_take_0 : List vm_I := [.inl (.aload_n 0), .inl (.aload_n 1), .inl (.iload_n 2), .inr (.inl (.int 4, 0)), .inl .iadd]
theorem kc_S_take_0 : vm_chk m_S_take 0 k_S_take_0 = some 5 := by decide +kernel
theorem v_S_take_5 : vm_okV m_S_take m_T_word 5 9 1 (301, 283, 284, 43, 285) = true := by decide +kernel
def k_S_take_8 : List vm_I := [.inr (.inr (.inl (1, 111, 15, 1, 0)))]
theorem kc_S_take_8 : vm_chk m_S_take 8 k_S_take_8 = some 11 := by decide +kernel
def k_S_take_11 : List vm_I := [.inl (.aload_n 0), .inl (.aload_n 1), .inl (.iload_n 2), .inr (.inl (.int 8, 0)), .inl .iadd]
theorem kc_S_take_11 : vm_chk m_S_take 11 k_S_take_11 = some 17 := by decide +kernel
theorem v_S_take_17 : vm_okV m_S_take m_T_word 17 9 1 (301, 283, 284, 43, 285) = true := by decide +kernel
def k_S_take_20 : List vm_I := [.inr (.inr (.inl (1, 113, 21, 1, 1)))]
theorem kc_S_take_20 : vm_chk m_S_take 20 k_S_take_20 = some 23 := by decide +kernel
def k_S_take_23 : List vm_I := [.inl (.aload_n 0), .inl (.aload_n 0)]
theorem kc_S_take_23 : vm_chk m_S_take 23 k_S_take_23 = some 25 := by decide +kernel
def k_S_take_25 : List vm_I := [.inr (.inr (.inl (0, 113, 21, 1, 1)))]
theorem kc_S_take_25 : vm_chk m_S_take 25 k_S_take_25 = some 28 := by decide +kernel
def k_S_take_28 : List vm_I := [.inl (.iload_n 3), .inl .i2l, .inl .ladd]
theorem kc_S_take_28 : vm_chk m_S_take 28 k_S_take_28 = some 31 := by decide +kernel
def k_S_take_31 : List vm_I := [.inr (.inr (.inl (1, 114, 24, 1, 2)))]
theorem kc_S_take_31 : vm_chk m_S_take 31 k_S_take_31 = some 34 := by decide +kernel
def k_S_take_34 : List vm_I := [.inl (.aload_n 0), .inl (.aload_n 1), .inl (.iload_n 2), .inr (.inl (.int 16, 0)), .inl .iadd]
theorem kc_S_take_34 : vm_chk m_S_take 34 k_S_take_34 = some 40 := by decide +kernel
theorem v_S_take_40 : vm_okV m_S_take m_T_word 40 9 1 (301, 283, 284, 43, 285) = true := by decide +kernel
def k_S_take_43 : List vm_I := [.inr (.inr (.inl (1, 115, 27, 1, 3)))]
theorem kc_S_take_43 : vm_chk m_S_take 43 k_S_take_43 = some 46 := by decide +kernel
def k_S_take_46 : List vm_I := [.inl (.aload_n 0), .inl (.aload_n 1), .inl (.iload_n 2), .inr (.inl (.int 20, 0)), .inl .iadd]
theorem kc_S_take_46 : vm_chk m_S_take 46 k_S_take_46 = some 52 := by decide +kernel
theorem v_S_take_52 : vm_okV m_S_take m_T_word 52 9 1 (301, 283, 284, 43, 285) = true := by decide +kernel
def k_S_take_55 : List vm_I := [.inr (.inr (.inl (1, 117, 30, 1, 4)))]
theorem kc_S_take_55 : vm_chk m_S_take 55 k_S_take_55 = some 58 := by decide +kernel
def k_S_take_58 : List vm_I := [.inl (.aload_n 0), .inl (.aload_n 1), .inl (.iload_n 2), .inr (.inl (.int 24, 0)), .inl .iadd]
theorem kc_S_take_58 : vm_chk m_S_take 58 k_S_take_58 = some 64 := by decide +kernel
theorem v_S_take_64 : vm_okV m_S_take m_T_word 64 9 1 (301, 283, 284, 43, 285) = true := by decide +kernel
def k_S_take_67 : List vm_I := [.inl .l2i, .inr (.inl (.int 7, 0)), .inl .iand]
theorem kc_S_take_67 : vm_chk m_S_take 67 k_S_take_67 = some 71 := by decide +kernel
def k_S_take_71 : List vm_I := [.inr (.inr (.inl (1, 120, 33, 1, 6)))]
theorem kc_S_take_71 : vm_chk m_S_take 71 k_S_take_71 = some 74 := by decide +kernel
def k_S_take_74 : List vm_I := [.inl (.aload_n 0), .inl (.aload_n 1), .inl (.iload_n 2), .inr (.inl (.int 28, 0)), .inl .iadd]
theorem kc_S_take_74 : vm_chk m_S_take 74 k_S_take_74 = some 80 := by decide +kernel
theorem v_S_take_80 : vm_okV m_S_take m_T_word 80 9 1 (301, 283, 284, 43, 285) = true := by decide +kernel
def k_S_take_83 : List vm_I := [.inr (.inr (.inl (1, 119, 37, 1, 5)))]
theorem kc_S_take_83 : vm_chk m_S_take 83 k_S_take_83 = some 86 := by decide +kernel
theorem d_S_take_86 : vm_dec m_S_take 86 .return_ 1 = true := by decide +kernel
def k_S_isAlignSound_0 : List vm_I := [.inl (.aload_n 0)]
theorem kc_S_isAlignSound_0 : vm_chk m_S_isAlignSound 0 k_S_isAlignSound_0 = some 1 := by decide +kernel
def k_S_isAlignSound_1 : List vm_I := [.inr (.inr (.inl (0, 119, 37, 1, 5)))]
theorem kc_S_isAlignSound_1 : vm_chk m_S_isAlignSound 1 k_S_isAlignSound_1 = some 4 := by decide +kernel
def k_S_isAlignSound_4 : List vm_I := [.inr (.inl (.long 1, 0))]
theorem kc_S_isAlignSound_4 : vm_chk m_S_isAlignSound 4 k_S_isAlignSound_4 = some 5 := by decide +kernel
theorem dl_S_isAlignSound_5 : vm_dec m_S_isAlignSound 5 .lcmp 1 = true := by decide +kernel
theorem d_S_isAlignSound_5 : vm_dec m_S_isAlignSound 6 (.ifCond .le 25) 3 = true := by decide +kernel
def k_S_isAlignSound_9 : List vm_I := [.inl (.aload_n 0)]
theorem kc_S_isAlignSound_9 : vm_chk m_S_isAlignSound 9 k_S_isAlignSound_9 = some 10 := by decide +kernel
def k_S_isAlignSound_10 : List vm_I := [.inr (.inr (.inl (0, 119, 37, 1, 5)))]
theorem kc_S_isAlignSound_10 : vm_chk m_S_isAlignSound 10 k_S_isAlignSound_10 = some 13 := by decide +kernel
def k_S_isAlignSound_13 : List vm_I := [.inr (.inl (.long 4096, 306))]
theorem kc_S_isAlignSound_13 : vm_chk m_S_isAlignSound 13 k_S_isAlignSound_13 = some 16 := by decide +kernel
theorem dl_S_isAlignSound_16 : vm_dec m_S_isAlignSound 16 .lcmp 1 = true := by decide +kernel
theorem d_S_isAlignSound_16 : vm_dec m_S_isAlignSound 17 (.ifCond .gt 18) 3 = true := by decide +kernel
def k_S_isAlignSound_20 : List vm_I := [.inl (.aload_n 0)]
theorem kc_S_isAlignSound_20 : vm_chk m_S_isAlignSound 20 k_S_isAlignSound_20 = some 21 := by decide +kernel
def k_S_isAlignSound_21 : List vm_I := [.inr (.inr (.inl (0, 119, 37, 1, 5)))]
theorem kc_S_isAlignSound_21 : vm_chk m_S_isAlignSound 21 k_S_isAlignSound_21 = some 24 := by decide +kernel
theorem v_S_isAlignSound_24 : vm_okS m_S_isAlignSound m_K_bitCount 24 42 1 (307, 308, 49, 309) = true := by decide +kernel
def k_S_isAlignSound_27 : List vm_I := [.inr (.inl (.int 1, 0))]
theorem kc_S_isAlignSound_27 : vm_chk m_S_isAlignSound 27 k_S_isAlignSound_27 = some 28 := by decide +kernel
theorem d_S_isAlignSound_28 : vm_dec m_S_isAlignSound 28 (.if_icmp .ne 7) 3 = true := by decide +kernel
def k_S_isAlignSound_31 : List vm_I := [.inr (.inl (.int 1, 0))]
theorem kc_S_isAlignSound_31 : vm_chk m_S_isAlignSound 31 k_S_isAlignSound_31 = some 32 := by decide +kernel
theorem d_S_isAlignSound_32 : vm_dec m_S_isAlignSound 32 (.goto 4) 3 = true := by decide +kernel
def k_S_isAlignSound_35 : List vm_I := [.inr (.inl (.int 0, 0))]
theorem kc_S_isAlignSound_35 : vm_chk m_S_isAlignSound 35 k_S_isAlignSound_35 = some 36 := by decide +kernel
theorem d_S_isAlignSound_36 : vm_dec m_S_isAlignSound 36 .ireturn 1 = true := by decide +kernel
def k_S_isAligned_0 : List vm_I := [.inl (.aload_n 0)]
theorem kc_S_isAligned_0 : vm_chk m_S_isAligned 0 k_S_isAligned_0 = some 1 := by decide +kernel
def k_S_isAligned_1 : List vm_I := [.inr (.inr (.inl (0, 119, 37, 1, 5)))]
theorem kc_S_isAligned_1 : vm_chk m_S_isAligned 1 k_S_isAligned_1 = some 4 := by decide +kernel
def k_S_isAligned_4 : List vm_I := [.inr (.inl (.long 1, 0))]
theorem kc_S_isAligned_4 : vm_chk m_S_isAligned 4 k_S_isAligned_4 = some 5 := by decide +kernel
theorem dl_S_isAligned_5 : vm_dec m_S_isAligned 5 .lcmp 1 = true := by decide +kernel
theorem d_S_isAligned_5 : vm_dec m_S_isAligned 6 (.ifCond .le 25) 3 = true := by decide +kernel
def k_S_isAligned_9 : List vm_I := [.inl (.aload_n 0)]
theorem kc_S_isAligned_9 : vm_chk m_S_isAligned 9 k_S_isAligned_9 = some 10 := by decide +kernel
def k_S_isAligned_10 : List vm_I := [.inr (.inr (.inl (0, 113, 21, 1, 1)))]
theorem kc_S_isAligned_10 : vm_chk m_S_isAligned 10 k_S_isAligned_10 = some 13 := by decide +kernel
def k_S_isAligned_13 : List vm_I := [.inl (.aload_n 0)]
theorem kc_S_isAligned_13 : vm_chk m_S_isAligned 13 k_S_isAligned_13 = some 14 := by decide +kernel
def k_S_isAligned_14 : List vm_I := [.inr (.inr (.inl (0, 119, 37, 1, 5)))]
theorem kc_S_isAligned_14 : vm_chk m_S_isAligned 14 k_S_isAligned_14 = some 17 := by decide +kernel
def k_S_isAligned_17 : List vm_I := [.inl .lrem, .inl (.aload_n 0)]
theorem kc_S_isAligned_17 : vm_chk m_S_isAligned 17 k_S_isAligned_17 = some 19 := by decide +kernel
def k_S_isAligned_19 : List vm_I := [.inr (.inr (.inl (0, 111, 15, 1, 0)))]
theorem kc_S_isAligned_19 : vm_chk m_S_isAligned 19 k_S_isAligned_19 = some 22 := by decide +kernel
def k_S_isAligned_22 : List vm_I := [.inl (.aload_n 0)]
theorem kc_S_isAligned_22 : vm_chk m_S_isAligned 22 k_S_isAligned_22 = some 23 := by decide +kernel
def k_S_isAligned_23 : List vm_I := [.inr (.inr (.inl (0, 119, 37, 1, 5)))]
theorem kc_S_isAligned_23 : vm_chk m_S_isAligned 23 k_S_isAligned_23 = some 26 := by decide +kernel
def k_S_isAligned_26 : List vm_I := [.inl .lrem]
theorem kc_S_isAligned_26 : vm_chk m_S_isAligned 26 k_S_isAligned_26 = some 27 := by decide +kernel
theorem dl_S_isAligned_27 : vm_dec m_S_isAligned 27 .lcmp 1 = true := by decide +kernel
theorem d_S_isAligned_27 : vm_dec m_S_isAligned 28 (.ifCond .ne 7) 3 = true := by decide +kernel
def k_S_isAligned_31 : List vm_I := [.inr (.inl (.int 1, 0))]
theorem kc_S_isAligned_31 : vm_chk m_S_isAligned 31 k_S_isAligned_31 = some 32 := by decide +kernel
theorem d_S_isAligned_32 : vm_dec m_S_isAligned 32 (.goto 4) 3 = true := by decide +kernel
def k_S_isAligned_35 : List vm_I := [.inr (.inl (.int 0, 0))]
theorem kc_S_isAligned_35 : vm_chk m_S_isAligned 35 k_S_isAligned_35 = some 36 := by decide +kernel
theorem d_S_isAligned_36 : vm_dec m_S_isAligned 36 .ireturn 1 = true := by decide +kernel
def k_S_isInSpace_0 : List vm_I := [.inl (.aload_n 0)]
theorem kc_S_isInSpace_0 : vm_chk m_S_isInSpace 0 k_S_isInSpace_0 = some 1 := by decide +kernel
def k_S_isInSpace_1 : List vm_I := [.inr (.inr (.inl (0, 117, 30, 1, 4)))]
theorem kc_S_isInSpace_1 : vm_chk m_S_isInSpace 1 k_S_isInSpace_1 = some 4 := by decide +kernel
def k_S_isInSpace_4 : List vm_I := [.inr (.inl (.long 0, 0))]
theorem kc_S_isInSpace_4 : vm_chk m_S_isInSpace 4 k_S_isInSpace_4 = some 5 := by decide +kernel
theorem dl_S_isInSpace_5 : vm_dec m_S_isInSpace 5 .lcmp 1 = true := by decide +kernel
theorem d_S_isInSpace_5 : vm_dec m_S_isInSpace 6 (.ifCond .eq 19) 3 = true := by decide +kernel
def k_S_isInSpace_9 : List vm_I := [.inl (.aload_n 0)]
theorem kc_S_isInSpace_9 : vm_chk m_S_isInSpace 9 k_S_isInSpace_9 = some 10 := by decide +kernel
def k_S_isInSpace_10 : List vm_I := [.inr (.inr (.inl (0, 114, 24, 1, 2)))]
theorem kc_S_isInSpace_10 : vm_chk m_S_isInSpace 10 k_S_isInSpace_10 = some 13 := by decide +kernel
def k_S_isInSpace_13 : List vm_I := [.inl (.aload_n 0)]
theorem kc_S_isInSpace_13 : vm_chk m_S_isInSpace 13 k_S_isInSpace_13 = some 14 := by decide +kernel
def k_S_isInSpace_14 : List vm_I := [.inr (.inr (.inl (0, 117, 30, 1, 4)))]
theorem kc_S_isInSpace_14 : vm_chk m_S_isInSpace 14 k_S_isInSpace_14 = some 17 := by decide +kernel
def k_S_isInSpace_17 : List vm_I := [.inl .ladd, .inr (.inl (.long 16384, 321))]
theorem kc_S_isInSpace_17 : vm_chk m_S_isInSpace 17 k_S_isInSpace_17 = some 21 := by decide +kernel
theorem dl_S_isInSpace_21 : vm_dec m_S_isInSpace 21 .lcmp 1 = true := by decide +kernel
theorem d_S_isInSpace_21 : vm_dec m_S_isInSpace 22 (.ifCond .gt 7) 3 = true := by decide +kernel
def k_S_isInSpace_25 : List vm_I := [.inr (.inl (.int 1, 0))]
theorem kc_S_isInSpace_25 : vm_chk m_S_isInSpace 25 k_S_isInSpace_25 = some 26 := by decide +kernel
theorem d_S_isInSpace_26 : vm_dec m_S_isInSpace 26 (.goto 4) 3 = true := by decide +kernel
def k_S_isInSpace_29 : List vm_I := [.inr (.inl (.int 0, 0))]
theorem kc_S_isInSpace_29 : vm_chk m_S_isInSpace 29 k_S_isInSpace_29 = some 30 := by decide +kernel
theorem d_S_isInSpace_30 : vm_dec m_S_isInSpace 30 .ireturn 1 = true := by decide +kernel
def k_S_holds_0 : List vm_I := [.inl (.lload_n 1), .inl (.aload_n 0)]
theorem kc_S_holds_0 : vm_chk m_S_holds 0 k_S_holds_0 = some 2 := by decide +kernel
def k_S_holds_2 : List vm_I := [.inr (.inr (.inl (0, 114, 24, 1, 2)))]
theorem kc_S_holds_2 : vm_chk m_S_holds 2 k_S_holds_2 = some 5 := by decide +kernel
theorem dl_S_holds_5 : vm_dec m_S_holds 5 .lcmp 1 = true := by decide +kernel
theorem d_S_holds_5 : vm_dec m_S_holds 6 (.ifCond .lt 21) 3 = true := by decide +kernel
def k_S_holds_9 : List vm_I := [.inl (.lload_n 1), .inl (.aload_n 0)]
theorem kc_S_holds_9 : vm_chk m_S_holds 9 k_S_holds_9 = some 11 := by decide +kernel
def k_S_holds_11 : List vm_I := [.inr (.inr (.inl (0, 114, 24, 1, 2)))]
theorem kc_S_holds_11 : vm_chk m_S_holds 11 k_S_holds_11 = some 14 := by decide +kernel
def k_S_holds_14 : List vm_I := [.inl (.aload_n 0)]
theorem kc_S_holds_14 : vm_chk m_S_holds 14 k_S_holds_14 = some 15 := by decide +kernel
def k_S_holds_15 : List vm_I := [.inr (.inr (.inl (0, 117, 30, 1, 4)))]
theorem kc_S_holds_15 : vm_chk m_S_holds 15 k_S_holds_15 = some 18 := by decide +kernel
def k_S_holds_18 : List vm_I := [.inl .ladd]
theorem kc_S_holds_18 : vm_chk m_S_holds 18 k_S_holds_18 = some 19 := by decide +kernel
theorem dl_S_holds_19 : vm_dec m_S_holds 19 .lcmp 1 = true := by decide +kernel
theorem d_S_holds_19 : vm_dec m_S_holds 20 (.ifCond .ge 7) 3 = true := by decide +kernel
def k_S_holds_23 : List vm_I := [.inr (.inl (.int 1, 0))]
theorem kc_S_holds_23 : vm_chk m_S_holds 23 k_S_holds_23 = some 24 := by decide +kernel
theorem d_S_holds_24 : vm_dec m_S_holds 24 (.goto 4) 3 = true := by decide +kernel
def k_S_holds_27 : List vm_I := [.inr (.inl (.int 0, 0))]
theorem kc_S_holds_27 : vm_chk m_S_holds 27 k_S_holds_27 = some 28 := by decide +kernel
theorem d_S_holds_28 : vm_dec m_S_holds 28 .ireturn 1 = true := by decide +kernel
def k_S_firstPage_0 : List vm_I := [.inl (.aload_n 0)]
theorem kc_S_firstPage_0 : vm_chk m_S_firstPage 0 k_S_firstPage_0 = some 1 := by decide +kernel
def k_S_firstPage_1 : List vm_I := [.inr (.inr (.inl (0, 117, 30, 1, 4)))]
theorem kc_S_firstPage_1 : vm_chk m_S_firstPage 1 k_S_firstPage_1 = some 4 := by decide +kernel
def k_S_firstPage_4 : List vm_I := [.inr (.inl (.long 0, 0))]
theorem kc_S_firstPage_4 : vm_chk m_S_firstPage 4 k_S_firstPage_4 = some 5 := by decide +kernel
theorem dl_S_firstPage_5 : vm_dec m_S_firstPage 5 .lcmp 1 = true := by decide +kernel
theorem d_S_firstPage_5 : vm_dec m_S_firstPage 6 (.ifCond .ne 7) 3 = true := by decide +kernel
def k_S_firstPage_9 : List vm_I := [.inr (.inl (.int 0, 0))]
theorem kc_S_firstPage_9 : vm_chk m_S_firstPage 9 k_S_firstPage_9 = some 10 := by decide +kernel
theorem d_S_firstPage_10 : vm_dec m_S_firstPage 10 (.goto 12) 3 = true := by decide +kernel
def k_S_firstPage_13 : List vm_I := [.inl (.aload_n 0)]
theorem kc_S_firstPage_13 : vm_chk m_S_firstPage 13 k_S_firstPage_13 = some 14 := by decide +kernel
def k_S_firstPage_14 : List vm_I := [.inr (.inr (.inl (0, 114, 24, 1, 2)))]
theorem kc_S_firstPage_14 : vm_chk m_S_firstPage 14 k_S_firstPage_14 = some 17 := by decide +kernel
def k_S_firstPage_17 : List vm_I := [.inr (.inl (.long 256, 326)), .inl .ldiv, .inl .l2i]
theorem kc_S_firstPage_17 : vm_chk m_S_firstPage 17 k_S_firstPage_17 = some 22 := by decide +kernel
theorem d_S_firstPage_22 : vm_dec m_S_firstPage 22 .ireturn 1 = true := by decide +kernel
def k_S_lastPage_0 : List vm_I := [.inl (.aload_n 0)]
theorem kc_S_lastPage_0 : vm_chk m_S_lastPage 0 k_S_lastPage_0 = some 1 := by decide +kernel
def k_S_lastPage_1 : List vm_I := [.inr (.inr (.inl (0, 117, 30, 1, 4)))]
theorem kc_S_lastPage_1 : vm_chk m_S_lastPage 1 k_S_lastPage_1 = some 4 := by decide +kernel
def k_S_lastPage_4 : List vm_I := [.inr (.inl (.long 0, 0))]
theorem kc_S_lastPage_4 : vm_chk m_S_lastPage 4 k_S_lastPage_4 = some 5 := by decide +kernel
theorem dl_S_lastPage_5 : vm_dec m_S_lastPage 5 .lcmp 1 = true := by decide +kernel
theorem d_S_lastPage_5 : vm_dec m_S_lastPage 6 (.ifCond .ne 7) 3 = true := by decide +kernel
def k_S_lastPage_9 : List vm_I := [.inr (.inl (.int (-1), 0))]
theorem kc_S_lastPage_9 : vm_chk m_S_lastPage 9 k_S_lastPage_9 = some 10 := by decide +kernel
theorem d_S_lastPage_10 : vm_dec m_S_lastPage 10 (.goto 19) 3 = true := by decide +kernel
def k_S_lastPage_13 : List vm_I := [.inl (.aload_n 0)]
theorem kc_S_lastPage_13 : vm_chk m_S_lastPage 13 k_S_lastPage_13 = some 14 := by decide +kernel
def k_S_lastPage_14 : List vm_I := [.inr (.inr (.inl (0, 114, 24, 1, 2)))]
theorem kc_S_lastPage_14 : vm_chk m_S_lastPage 14 k_S_lastPage_14 = some 17 := by decide +kernel
def k_S_lastPage_17 : List vm_I := [.inl (.aload_n 0)]
theorem kc_S_lastPage_17 : vm_chk m_S_lastPage 17 k_S_lastPage_17 = some 18 := by decide +kernel
def k_S_lastPage_18 : List vm_I := [.inr (.inr (.inl (0, 117, 30, 1, 4)))]
theorem kc_S_lastPage_18 : vm_chk m_S_lastPage 18 k_S_lastPage_18 = some 21 := by decide +kernel
def k_S_lastPage_21 : List vm_I := [.inl .ladd, .inr (.inl (.long 1, 0)), .inl .lsub, .inr (.inl (.long 256, 326)), .inl .ldiv, .inl .l2i]
theorem kc_S_lastPage_21 : vm_chk m_S_lastPage 21 k_S_lastPage_21 = some 29 := by decide +kernel
theorem d_S_lastPage_29 : vm_dec m_S_lastPage 29 .ireturn 1 = true := by decide +kernel
def k_S_pages_0 : List vm_I := [.inl (.aload_n 0)]
theorem kc_S_pages_0 : vm_chk m_S_pages 0 k_S_pages_0 = some 1 := by decide +kernel
theorem v_S_pages_1 : vm_okV m_S_pages m_S_lastPage 1 52 0 (351, 328, 329, 47, 330) = true := by decide +kernel
def k_S_pages_4 : List vm_I := [.inl (.aload_n 0)]
theorem kc_S_pages_4 : vm_chk m_S_pages 4 k_S_pages_4 = some 5 := by decide +kernel
theorem v_S_pages_5 : vm_okV m_S_pages m_S_firstPage 5 56 0 (350, 323, 324, 47, 325) = true := by decide +kernel
def k_S_pages_8 : List vm_I := [.inl .isub, .inr (.inl (.int 1, 0)), .inl .iadd]
theorem kc_S_pages_8 : vm_chk m_S_pages 8 k_S_pages_8 = some 11 := by decide +kernel
theorem d_S_pages_11 : vm_dec m_S_pages 11 .ireturn 1 = true := by decide +kernel
def k_S_sharesPageWith_0 : List vm_I := [.inl (.aload_n 0)]
theorem kc_S_sharesPageWith_0 : vm_chk m_S_sharesPageWith 0 k_S_sharesPageWith_0 = some 1 := by decide +kernel
theorem v_S_sharesPageWith_1 : vm_okV m_S_sharesPageWith m_S_firstPage 1 56 0 (350, 323, 324, 47, 325) = true := by decide +kernel
def k_S_sharesPageWith_4 : List vm_I := [.inl (.aload_n 1)]
theorem kc_S_sharesPageWith_4 : vm_chk m_S_sharesPageWith 4 k_S_sharesPageWith_4 = some 5 := by decide +kernel
theorem v_S_sharesPageWith_5 : vm_okV m_S_sharesPageWith m_S_lastPage 5 52 0 (351, 328, 329, 47, 330) = true := by decide +kernel
theorem d_S_sharesPageWith_8 : vm_dec m_S_sharesPageWith 8 (.if_icmp .gt 18) 3 = true := by decide +kernel
def k_S_sharesPageWith_11 : List vm_I := [.inl (.aload_n 1)]
theorem kc_S_sharesPageWith_11 : vm_chk m_S_sharesPageWith 11 k_S_sharesPageWith_11 = some 12 := by decide +kernel
theorem v_S_sharesPageWith_12 : vm_okV m_S_sharesPageWith m_S_firstPage 12 56 0 (350, 323, 324, 47, 325) = true := by decide +kernel
def k_S_sharesPageWith_15 : List vm_I := [.inl (.aload_n 0)]
theorem kc_S_sharesPageWith_15 : vm_chk m_S_sharesPageWith 15 k_S_sharesPageWith_15 = some 16 := by decide +kernel
theorem v_S_sharesPageWith_16 : vm_okV m_S_sharesPageWith m_S_lastPage 16 52 0 (351, 328, 329, 47, 330) = true := by decide +kernel
theorem d_S_sharesPageWith_19 : vm_dec m_S_sharesPageWith 19 (.if_icmp .gt 7) 3 = true := by decide +kernel
def k_S_sharesPageWith_22 : List vm_I := [.inr (.inl (.int 1, 0))]
theorem kc_S_sharesPageWith_22 : vm_chk m_S_sharesPageWith 22 k_S_sharesPageWith_22 = some 23 := by decide +kernel
theorem d_S_sharesPageWith_23 : vm_dec m_S_sharesPageWith 23 (.goto 4) 3 = true := by decide +kernel
def k_S_sharesPageWith_26 : List vm_I := [.inr (.inl (.int 0, 0))]
theorem kc_S_sharesPageWith_26 : vm_chk m_S_sharesPageWith 26 k_S_sharesPageWith_26 = some 27 := by decide +kernel
theorem d_S_sharesPageWith_27 : vm_dec m_S_sharesPageWith 27 .ireturn 1 = true := by decide +kernel
def k_S_lay_0 : List vm_I := [.inl (.aload_n 2), .inl (.aload_n 0)]
theorem kc_S_lay_0 : vm_chk m_S_lay 0 k_S_lay_0 = some 2 := by decide +kernel
theorem v_S_lay_2 : vm_okV m_S_lay m_S_firstPage 2 56 0 (350, 323, 324, 47, 325) = true := by decide +kernel
def k_S_lay_5 : List vm_I := [.inl (.aload_n 0)]
theorem kc_S_lay_5 : vm_chk m_S_lay 5 k_S_lay_5 = some 6 := by decide +kernel
theorem v_S_lay_6 : vm_okV m_S_lay m_S_lastPage 6 52 0 (351, 328, 329, 47, 330) = true := by decide +kernel
def k_S_lay_9 : List vm_I := [.inl (.aload_n 0)]
theorem kc_S_lay_9 : vm_chk m_S_lay 9 k_S_lay_9 = some 10 := by decide +kernel
def k_S_lay_10 : List vm_I := [.inr (.inr (.inl (0, 120, 33, 1, 6)))]
theorem kc_S_lay_10 : vm_chk m_S_lay 10 k_S_lay_10 = some 13 := by decide +kernel
theorem v_S_lay_13 : vm_okV m_S_lay m_P_mapAll 13 59 3 (400, 401, 402, 44, 403) = true := by decide +kernel
def k_S_lay_16 : List vm_I := [.inl (.aload_n 0)]
theorem kc_S_lay_16 : vm_chk m_S_lay 16 k_S_lay_16 = some 17 := by decide +kernel
def k_S_lay_17 : List vm_I := [.inr (.inr (.inl (0, 115, 27, 1, 3)))]
theorem kc_S_lay_17 : vm_chk m_S_lay 17 k_S_lay_17 = some 20 := by decide +kernel
def k_S_lay_20 : List vm_I := [.inr (.inl (.long 900, 416))]
theorem kc_S_lay_20 : vm_chk m_S_lay 20 k_S_lay_20 = some 23 := by decide +kernel
theorem v_S_lay_23 : vm_okS m_S_lay m_J_minJ 23 67 2 (417, 418, 45, 419) = true := by decide +kernel
def k_S_lay_26 : List vm_I := [.inl .l2i, .inl (.istore_n 3), .inr (.inl (.int 0, 0)), .inl (.istore 4)]
theorem kc_S_lay_26 : vm_chk m_S_lay 26 k_S_lay_26 = some 31 := by decide +kernel
def k_S_lay_31 : List vm_I := [.inl (.iload 4), .inl (.iload_n 3)]
theorem kc_S_lay_31 : vm_chk m_S_lay 31 k_S_lay_31 = some 34 := by decide +kernel
theorem d_S_lay_34 : vm_dec m_S_lay 34 (.if_icmp .ge 33) 3 = true := by decide +kernel
def k_S_lay_37 : List vm_I := [.inl (.aload_n 2), .inl (.aload_n 0)]
theorem kc_S_lay_37 : vm_chk m_S_lay 37 k_S_lay_37 = some 39 := by decide +kernel
def k_S_lay_39 : List vm_I := [.inr (.inr (.inl (0, 114, 24, 1, 2)))]
theorem kc_S_lay_39 : vm_chk m_S_lay 39 k_S_lay_39 = some 42 := by decide +kernel
def k_S_lay_42 : List vm_I := [.inl .l2i, .inl (.iload 4), .inl .iadd, .inl (.aload_n 1), .inl (.aload_n 0)]
theorem kc_S_lay_42 : vm_chk m_S_lay 42 k_S_lay_42 = some 48 := by decide +kernel
def k_S_lay_48 : List vm_I := [.inr (.inr (.inl (0, 111, 15, 1, 0)))]
theorem kc_S_lay_48 : vm_chk m_S_lay 48 k_S_lay_48 = some 51 := by decide +kernel
def k_S_lay_51 : List vm_I := [.inl .l2i, .inl (.iload 4), .inl .iadd]
theorem kc_S_lay_51 : vm_chk m_S_lay 51 k_S_lay_51 = some 55 := by decide +kernel
theorem v_S_lay_55 : vm_okV m_S_lay m_T_byteAt 55 73 1 (420, 246, 247, 43, 248) = true := by decide +kernel
theorem v_S_lay_58 : vm_okV m_S_lay m_P_setByte 58 77 2 (421, 413, 414, 44, 415) = true := by decide +kernel
def k_S_lay_61 : List vm_I := [.inr (.inr (.inr (4, 1)))]
theorem kc_S_lay_61 : vm_chk m_S_lay 61 k_S_lay_61 = some 64 := by decide +kernel
theorem d_S_lay_64 : vm_dec m_S_lay 64 (.goto (-33)) 3 = true := by decide +kernel
theorem d_S_lay_67 : vm_dec m_S_lay 67 .return_ 1 = true := by decide +kernel
def k_T_init_0 : List vm_I := [.inl (.aload_n 0)]
theorem kc_T_init_0 : vm_chk m_T_init 0 k_T_init_0 = some 1 := by decide +kernel
theorem d_T_init_1 : vm_dec m_T_init 1 (.invokespecial 3) 3 = true := by decide +kernel
def k_T_init_4 : List vm_I := [.inl (.aload_n 0), .inr (.inl (.int 900, 0))]
theorem kc_T_init_4 : vm_chk m_T_init 4 k_T_init_4 = some 8 := by decide +kernel
-- T_init_8 [8, 'newarray', 'byte', '']
def k_T_init_10 : List vm_I := [.inr (.inr (.inl (3, 64, 9, 3, 0))), .inl (.aload_n 0), .inr (.inl (.int 0, 0)), .inr (.inr (.inl (1, 65, 15, 3, 1)))]
theorem kc_T_init_10 : vm_chk m_T_init 10 k_T_init_10 = some 18 := by decide +kernel
theorem d_T_init_18 : vm_dec m_T_init 18 .return_ 1 = true := by decide +kernel
def k_T_size_0 : List vm_I := [.inl (.aload_n 0), .inr (.inr (.inl (0, 65, 15, 3, 1)))]
theorem kc_T_size_0 : vm_chk m_T_size 0 k_T_size_0 = some 4 := by decide +kernel
theorem d_T_size_4 : vm_dec m_T_size 4 .ireturn 1 = true := by decide +kernel
def k_T_hasRoomFor_0 : List vm_I := [.inl (.iload_n 1), .inr (.inl (.int 900, 0)), .inl (.aload_n 0), .inr (.inr (.inl (0, 65, 15, 3, 1))), .inl .isub]
theorem kc_T_hasRoomFor_0 : vm_chk m_T_hasRoomFor 0 k_T_hasRoomFor_0 = some 9 := by decide +kernel
theorem d_T_hasRoomFor_9 : vm_dec m_T_hasRoomFor 9 (.if_icmp .gt 7) 3 = true := by decide +kernel
def k_T_hasRoomFor_12 : List vm_I := [.inr (.inl (.int 1, 0))]
theorem kc_T_hasRoomFor_12 : vm_chk m_T_hasRoomFor 12 k_T_hasRoomFor_12 = some 13 := by decide +kernel
theorem d_T_hasRoomFor_13 : vm_dec m_T_hasRoomFor 13 (.goto 4) 3 = true := by decide +kernel
def k_T_hasRoomFor_16 : List vm_I := [.inr (.inl (.int 0, 0))]
theorem kc_T_hasRoomFor_16 : vm_chk m_T_hasRoomFor 16 k_T_hasRoomFor_16 = some 17 := by decide +kernel
theorem d_T_hasRoomFor_17 : vm_dec m_T_hasRoomFor 17 .ireturn 1 = true := by decide +kernel
def k_T_has_0 : List vm_I := [.inl (.lload_n 1), .inr (.inl (.long 0, 0))]
theorem kc_T_has_0 : vm_chk m_T_has 0 k_T_has_0 = some 2 := by decide +kernel
theorem dl_T_has_2 : vm_dec m_T_has 2 .lcmp 1 = true := by decide +kernel
theorem d_T_has_2 : vm_dec m_T_has 3 (.ifCond .lt 25) 3 = true := by decide +kernel
def k_T_has_6 : List vm_I := [.inl (.lload_n 3), .inr (.inl (.long 0, 0))]
theorem kc_T_has_6 : vm_chk m_T_has 6 k_T_has_6 = some 8 := by decide +kernel
theorem dl_T_has_8 : vm_dec m_T_has 8 .lcmp 1 = true := by decide +kernel
theorem d_T_has_8 : vm_dec m_T_has 9 (.ifCond .lt 19) 3 = true := by decide +kernel
def k_T_has_12 : List vm_I := [.inl (.lload_n 1), .inl (.lload_n 3), .inl .ladd, .inl (.aload_n 0), .inr (.inr (.inl (0, 65, 15, 3, 1))), .inl .i2l]
theorem kc_T_has_12 : vm_chk m_T_has 12 k_T_has_12 = some 20 := by decide +kernel
theorem dl_T_has_20 : vm_dec m_T_has 20 .lcmp 1 = true := by decide +kernel
theorem d_T_has_20 : vm_dec m_T_has 21 (.ifCond .gt 7) 3 = true := by decide +kernel
def k_T_has_24 : List vm_I := [.inr (.inl (.int 1, 0))]
theorem kc_T_has_24 : vm_chk m_T_has 24 k_T_has_24 = some 25 := by decide +kernel
theorem d_T_has_25 : vm_dec m_T_has 25 (.goto 4) 3 = true := by decide +kernel
def k_T_has_28 : List vm_I := [.inr (.inl (.int 0, 0))]
theorem kc_T_has_28 : vm_chk m_T_has 28 k_T_has_28 = some 29 := by decide +kernel
theorem d_T_has_29 : vm_dec m_T_has 29 .ireturn 1 = true := by decide +kernel
def k_T_append_0 : List vm_I := [.inl (.aload_n 0), .inr (.inr (.inl (0, 65, 15, 3, 1))), .inl (.aload_n 0), .inr (.inr (.inl (0, 64, 9, 3, 0))), .inl .arraylength]
theorem kc_T_append_0 : vm_chk m_T_append 0 k_T_append_0 = some 9 := by decide +kernel
theorem d_T_append_9 : vm_dec m_T_append 9 (.if_icmp .ge 24) 3 = true := by decide +kernel
def k_T_append_12 : List vm_I := [.inl (.aload_n 0), .inr (.inr (.inl (0, 64, 9, 3, 0))), .inl (.aload_n 0), .inr (.inr (.inl (0, 65, 15, 3, 1))), .inl (.iload_n 1), .inl .i2b, .inl .bastore, .inl (.aload_n 0), .inl .dup, .inr (.inr (.inl (0, 65, 15, 3, 1))), .inr (.inl (.int 1, 0)), .inl .iadd, .inr (.inr (.inl (1, 65, 15, 3, 1)))]
theorem kc_T_append_12 : vm_chk m_T_append 12 k_T_append_12 = some 33 := by decide +kernel
theorem d_T_append_33 : vm_dec m_T_append 33 .return_ 1 = true := by decide +kernel
def k_T_setByte_0 : List vm_I := [.inl (.iload_n 1)]
theorem kc_T_setByte_0 : vm_chk m_T_setByte 0 k_T_setByte_0 = some 1 := by decide +kernel
theorem d_T_setByte_1 : vm_dec m_T_setByte 1 (.ifCond .lt 19) 3 = true := by decide +kernel
def k_T_setByte_4 : List vm_I := [.inl (.iload_n 1), .inl (.aload_n 0), .inr (.inr (.inl (0, 65, 15, 3, 1)))]
theorem kc_T_setByte_4 : vm_chk m_T_setByte 4 k_T_setByte_4 = some 9 := by decide +kernel
theorem d_T_setByte_9 : vm_dec m_T_setByte 9 (.if_icmp .ge 11) 3 = true := by decide +kernel
def k_T_setByte_12 : List vm_I := [.inl (.aload_n 0), .inr (.inr (.inl (0, 64, 9, 3, 0))), .inl (.iload_n 1), .inl (.iload_n 2), .inl .i2b, .inl .bastore]
theorem kc_T_setByte_12 : vm_chk m_T_setByte 12 k_T_setByte_12 = some 20 := by decide +kernel
theorem d_T_setByte_20 : vm_dec m_T_setByte 20 .return_ 1 = true := by decide +kernel
def k_T_byteAt_0 : List vm_I := [.inl (.iload_n 1)]
theorem kc_T_byteAt_0 : vm_chk m_T_byteAt 0 k_T_byteAt_0 = some 1 := by decide +kernel
theorem d_T_byteAt_1 : vm_dec m_T_byteAt 1 (.ifCond .lt 24) 3 = true := by decide +kernel
def k_T_byteAt_4 : List vm_I := [.inl (.iload_n 1), .inl (.aload_n 0), .inr (.inr (.inl (0, 65, 15, 3, 1)))]
theorem kc_T_byteAt_4 : vm_chk m_T_byteAt 4 k_T_byteAt_4 = some 9 := by decide +kernel
theorem d_T_byteAt_9 : vm_dec m_T_byteAt 9 (.if_icmp .ge 16) 3 = true := by decide +kernel
def k_T_byteAt_12 : List vm_I := [.inl (.aload_n 0), .inr (.inr (.inl (0, 64, 9, 3, 0))), .inl (.iload_n 1), .inl .baload, .inr (.inl (.int 255, 0)), .inl .iand]
theorem kc_T_byteAt_12 : vm_chk m_T_byteAt 12 k_T_byteAt_12 = some 22 := by decide +kernel
theorem d_T_byteAt_22 : vm_dec m_T_byteAt 22 (.goto 4) 3 = true := by decide +kernel
def k_T_byteAt_25 : List vm_I := [.inr (.inl (.int 0, 0))]
theorem kc_T_byteAt_25 : vm_chk m_T_byteAt 25 k_T_byteAt_25 = some 26 := by decide +kernel
theorem d_T_byteAt_26 : vm_dec m_T_byteAt 26 .ireturn 1 = true := by decide +kernel
def k_T_half_0 : List vm_I := [.inl (.aload_n 0), .inl (.iload_n 1)]
theorem kc_T_half_0 : vm_chk m_T_half 0 k_T_half_0 = some 2 := by decide +kernel
theorem v_T_half_2 : vm_okV m_T_half m_T_byteAt 2 19 1 (281, 246, 247, 43, 248) = true := by decide +kernel
def k_T_half_5 : List vm_I := [.inl (.aload_n 0), .inl (.iload_n 1), .inr (.inl (.int 1, 0)), .inl .iadd]
theorem kc_T_half_5 : vm_chk m_T_half 5 k_T_half_5 = some 9 := by decide +kernel
theorem v_T_half_9 : vm_okV m_T_half m_T_byteAt 9 19 1 (281, 246, 247, 43, 248) = true := by decide +kernel
def k_T_half_12 : List vm_I := [.inr (.inl (.int 8, 0)), .inl .ishl, .inl .ior]
theorem kc_T_half_12 : vm_chk m_T_half 12 k_T_half_12 = some 16 := by decide +kernel
theorem d_T_half_16 : vm_dec m_T_half 16 .ireturn 1 = true := by decide +kernel
def k_T_word_0 : List vm_I := [.inl (.aload_n 0), .inl (.iload_n 1)]
theorem kc_T_word_0 : vm_chk m_T_word 0 k_T_word_0 = some 2 := by decide +kernel
theorem v_T_word_2 : vm_okV m_T_word m_T_byteAt 2 19 1 (281, 246, 247, 43, 248) = true := by decide +kernel
def k_T_word_5 : List vm_I := [.inl (.aload_n 0), .inl (.iload_n 1), .inr (.inl (.int 1, 0)), .inl .iadd]
theorem kc_T_word_5 : vm_chk m_T_word 5 k_T_word_5 = some 9 := by decide +kernel
theorem v_T_word_9 : vm_okV m_T_word m_T_byteAt 9 19 1 (281, 246, 247, 43, 248) = true := by decide +kernel
def k_T_word_12 : List vm_I := [.inr (.inl (.int 8, 0)), .inl .ishl, .inl .ior, .inl (.aload_n 0), .inl (.iload_n 1), .inr (.inl (.int 2, 0)), .inl .iadd]
theorem kc_T_word_12 : vm_chk m_T_word 12 k_T_word_12 = some 20 := by decide +kernel
theorem v_T_word_20 : vm_okV m_T_word m_T_byteAt 20 19 1 (281, 246, 247, 43, 248) = true := by decide +kernel
def k_T_word_23 : List vm_I := [.inr (.inl (.int 16, 0)), .inl .ishl, .inl .ior, .inl (.aload_n 0), .inl (.iload_n 1), .inr (.inl (.int 3, 0)), .inl .iadd]
theorem kc_T_word_23 : vm_chk m_T_word 23 k_T_word_23 = some 31 := by decide +kernel
theorem v_T_word_31 : vm_okV m_T_word m_T_byteAt 31 19 1 (281, 246, 247, 43, 248) = true := by decide +kernel
def k_T_word_34 : List vm_I := [.inr (.inl (.int 24, 0)), .inl .ishl, .inl .ior, .inl (.istore_n 2), .inl (.iload_n 2), .inl .i2l, .inr (.inl (.long 4294967295, 286)), .inl .land]
theorem kc_T_word_34 : vm_chk m_T_word 34 k_T_word_34 = some 45 := by decide +kernel
theorem d_T_word_45 : vm_dec m_T_word 45 .lreturn 1 = true := by decide +kernel
def k_T_lacksLastZero_0 : List vm_I := [.inl (.aload_n 0), .inr (.inr (.inl (0, 65, 15, 3, 1)))]
theorem kc_T_lacksLastZero_0 : vm_chk m_T_lacksLastZero 0 k_T_lacksLastZero_0 = some 4 := by decide +kernel
theorem d_T_lacksLastZero_4 : vm_dec m_T_lacksLastZero 4 (.ifCond .le 20) 3 = true := by decide +kernel
def k_T_lacksLastZero_7 : List vm_I := [.inl (.aload_n 0), .inl (.aload_n 0), .inr (.inr (.inl (0, 65, 15, 3, 1))), .inr (.inl (.int 1, 0)), .inl .isub]
theorem kc_T_lacksLastZero_7 : vm_chk m_T_lacksLastZero 7 k_T_lacksLastZero_7 = some 14 := by decide +kernel
theorem v_T_lacksLastZero_14 : vm_okV m_T_lacksLastZero m_T_byteAt 14 19 1 (281, 246, 247, 43, 248) = true := by decide +kernel
theorem d_T_lacksLastZero_17 : vm_dec m_T_lacksLastZero 17 (.ifCond .eq 7) 3 = true := by decide +kernel
def k_T_lacksLastZero_20 : List vm_I := [.inr (.inl (.int 1, 0))]
theorem kc_T_lacksLastZero_20 : vm_chk m_T_lacksLastZero 20 k_T_lacksLastZero_20 = some 21 := by decide +kernel
theorem d_T_lacksLastZero_21 : vm_dec m_T_lacksLastZero 21 (.goto 4) 3 = true := by decide +kernel
def k_T_lacksLastZero_24 : List vm_I := [.inr (.inl (.int 0, 0))]
theorem kc_T_lacksLastZero_24 : vm_chk m_T_lacksLastZero 24 k_T_lacksLastZero_24 = some 25 := by decide +kernel
theorem d_T_lacksLastZero_25 : vm_dec m_T_lacksLastZero 25 .ireturn 1 = true := by decide +kernel
def k_T_shorten_0 : List vm_I := [.inl (.iload_n 1)]
theorem kc_T_shorten_0 : vm_chk m_T_shorten 0 k_T_shorten_0 = some 1 := by decide +kernel
theorem d_T_shorten_1 : vm_dec m_T_shorten 1 (.ifCond .lt 16) 3 = true := by decide +kernel
def k_T_shorten_4 : List vm_I := [.inl (.iload_n 1), .inl (.aload_n 0), .inr (.inr (.inl (0, 65, 15, 3, 1)))]
theorem kc_T_shorten_4 : vm_chk m_T_shorten 4 k_T_shorten_4 = some 9 := by decide +kernel
theorem d_T_shorten_9 : vm_dec m_T_shorten 9 (.if_icmp .ge 8) 3 = true := by decide +kernel
def k_T_shorten_12 : List vm_I := [.inl (.aload_n 0), .inl (.iload_n 1), .inr (.inr (.inl (1, 65, 15, 3, 1)))]
theorem kc_T_shorten_12 : vm_chk m_T_shorten 12 k_T_shorten_12 = some 17 := by decide +kernel
theorem d_T_shorten_17 : vm_dec m_T_shorten 17 .return_ 1 = true := by decide +kernel
def k_K_bitCount_0 : List vm_I := [.inl (.lload_n 0), .inl (.lload_n 0), .inr (.inl (.int 1, 0)), .inl .lushr, .inr (.inl (.long 6148914691236517205, 310)), .inl .land, .inl .lsub, .inl (.lstore_n 0), .inl (.lload_n 0), .inr (.inl (.long 3689348814741910323, 311)), .inl .land, .inl (.lload_n 0), .inr (.inl (.int 2, 0)), .inl .lushr, .inr (.inl (.long 3689348814741910323, 311)), .inl .land, .inl .ladd, .inl (.lstore_n 0), .inl (.lload_n 0), .inl (.lload_n 0), .inr (.inl (.int 4, 0)), .inl .lushr, .inl .ladd, .inr (.inl (.long 1085102592571150095, 312)), .inl .land, .inl (.lstore_n 0), .inl (.lload_n 0), .inl (.lload_n 0), .inr (.inl (.int 8, 0)), .inl .lushr, .inl .ladd, .inl (.lstore_n 0), .inl (.lload_n 0), .inl (.lload_n 0), .inr (.inl (.int 16, 0)), .inl .lushr, .inl .ladd, .inl (.lstore_n 0), .inl (.lload_n 0), .inl (.lload_n 0), .inr (.inl (.int 32, 0)), .inl .lushr, .inl .ladd, .inl (.lstore_n 0), .inl (.lload_n 0), .inl .l2i, .inr (.inl (.int 127, 0)), .inl .iand]
theorem kc_K_bitCount_0 : vm_chk m_K_bitCount 0 k_K_bitCount_0 = some 60 := by decide +kernel
theorem d_K_bitCount_60 : vm_dec m_K_bitCount 60 .ireturn 1 = true := by decide +kernel
def k_J_floorDiv_0 : List vm_I := [.inl (.iload_n 0), .inl (.iload_n 1), .inl .idiv, .inl (.istore_n 2), .inl (.iload_n 0), .inl (.iload_n 1), .inl .ixor]
theorem kc_J_floorDiv_0 : vm_chk m_J_floorDiv 0 k_J_floorDiv_0 = some 7 := by decide +kernel
theorem d_J_floorDiv_7 : vm_dec m_J_floorDiv 7 (.ifCond .ge 14) 3 = true := by decide +kernel
def k_J_floorDiv_10 : List vm_I := [.inl (.iload_n 2), .inl (.iload_n 1), .inl .imul, .inl (.iload_n 0)]
theorem kc_J_floorDiv_10 : vm_chk m_J_floorDiv 10 k_J_floorDiv_10 = some 14 := by decide +kernel
theorem d_J_floorDiv_14 : vm_dec m_J_floorDiv 14 (.if_icmp .eq 7) 3 = true := by decide +kernel
def k_J_floorDiv_17 : List vm_I := [.inl (.iload_n 2), .inr (.inl (.int 1, 0)), .inl .isub]
theorem kc_J_floorDiv_17 : vm_chk m_J_floorDiv 17 k_J_floorDiv_17 = some 20 := by decide +kernel
theorem d_J_floorDiv_20 : vm_dec m_J_floorDiv 20 .ireturn 1 = true := by decide +kernel
def k_J_floorDiv_21 : List vm_I := [.inl (.iload_n 2)]
theorem kc_J_floorDiv_21 : vm_chk m_J_floorDiv 21 k_J_floorDiv_21 = some 22 := by decide +kernel
theorem d_J_floorDiv_22 : vm_dec m_J_floorDiv 22 .ireturn 1 = true := by decide +kernel
def k_J_floorMod_0 : List vm_I := [.inl (.iload_n 0), .inl (.iload_n 1), .inl .irem, .inl (.istore_n 2), .inl (.iload_n 0), .inl (.iload_n 1), .inl .ixor]
theorem kc_J_floorMod_0 : vm_chk m_J_floorMod 0 k_J_floorMod_0 = some 7 := by decide +kernel
theorem d_J_floorMod_7 : vm_dec m_J_floorMod 7 (.ifCond .ge 11) 3 = true := by decide +kernel
def k_J_floorMod_10 : List vm_I := [.inl (.iload_n 2)]
theorem kc_J_floorMod_10 : vm_chk m_J_floorMod 10 k_J_floorMod_10 = some 11 := by decide +kernel
theorem d_J_floorMod_11 : vm_dec m_J_floorMod 11 (.ifCond .eq 7) 3 = true := by decide +kernel
def k_J_floorMod_14 : List vm_I := [.inl (.iload_n 2), .inl (.iload_n 1), .inl .iadd]
theorem kc_J_floorMod_14 : vm_chk m_J_floorMod 14 k_J_floorMod_14 = some 17 := by decide +kernel
theorem d_J_floorMod_17 : vm_dec m_J_floorMod 17 .ireturn 1 = true := by decide +kernel
def k_J_floorMod_18 : List vm_I := [.inl (.iload_n 2)]
theorem kc_J_floorMod_18 : vm_chk m_J_floorMod 18 k_J_floorMod_18 = some 19 := by decide +kernel
theorem d_J_floorMod_19 : vm_dec m_J_floorMod 19 .ireturn 1 = true := by decide +kernel
def k_J_max_0 : List vm_I := [.inl (.iload_n 0), .inl (.iload_n 1)]
theorem kc_J_max_0 : vm_chk m_J_max 0 k_J_max_0 = some 2 := by decide +kernel
theorem d_J_max_2 : vm_dec m_J_max 2 (.if_icmp .lt 7) 3 = true := by decide +kernel
def k_J_max_5 : List vm_I := [.inl (.iload_n 0)]
theorem kc_J_max_5 : vm_chk m_J_max 5 k_J_max_5 = some 6 := by decide +kernel
theorem d_J_max_6 : vm_dec m_J_max 6 (.goto 4) 3 = true := by decide +kernel
def k_J_max_9 : List vm_I := [.inl (.iload_n 1)]
theorem kc_J_max_9 : vm_chk m_J_max 9 k_J_max_9 = some 10 := by decide +kernel
theorem d_J_max_10 : vm_dec m_J_max 10 .ireturn 1 = true := by decide +kernel
def k_J_min_0 : List vm_I := [.inl (.iload_n 0), .inl (.iload_n 1)]
theorem kc_J_min_0 : vm_chk m_J_min 0 k_J_min_0 = some 2 := by decide +kernel
theorem d_J_min_2 : vm_dec m_J_min 2 (.if_icmp .gt 7) 3 = true := by decide +kernel
def k_J_min_5 : List vm_I := [.inl (.iload_n 0)]
theorem kc_J_min_5 : vm_chk m_J_min 5 k_J_min_5 = some 6 := by decide +kernel
theorem d_J_min_6 : vm_dec m_J_min 6 (.goto 4) 3 = true := by decide +kernel
def k_J_min_9 : List vm_I := [.inl (.iload_n 1)]
theorem kc_J_min_9 : vm_chk m_J_min 9 k_J_min_9 = some 10 := by decide +kernel
theorem d_J_min_10 : vm_dec m_J_min 10 .ireturn 1 = true := by decide +kernel
def k_J_minJ_0 : List vm_I := [.inl (.lload_n 0), .inl (.lload_n 2)]
theorem kc_J_minJ_0 : vm_chk m_J_minJ 0 k_J_minJ_0 = some 2 := by decide +kernel
theorem dl_J_minJ_2 : vm_dec m_J_minJ 2 .lcmp 1 = true := by decide +kernel
theorem d_J_minJ_2 : vm_dec m_J_minJ 3 (.ifCond .gt 7) 3 = true := by decide +kernel
def k_J_minJ_6 : List vm_I := [.inl (.lload_n 0)]
theorem kc_J_minJ_6 : vm_chk m_J_minJ 6 k_J_minJ_6 = some 7 := by decide +kernel
theorem d_J_minJ_7 : vm_dec m_J_minJ 7 (.goto 4) 3 = true := by decide +kernel
def k_J_minJ_10 : List vm_I := [.inl (.lload_n 2)]
theorem kc_J_minJ_10 : vm_chk m_J_minJ 10 k_J_minJ_10 = some 11 := by decide +kernel
theorem d_J_minJ_11 : vm_dec m_J_minJ 11 .lreturn 1 = true := by decide +kernel
end
section
def k_L_init_0 : List vm_I := [.inl (.aload_n 0)]
theorem kc_L_init_0 : vm_chk m_L_init 0 k_L_init_0 = some 1 := by decide +kernel
theorem d_L_init_1 : vm_dec m_L_init 1 (.invokespecial 1) 3 = true := by decide +kernel
def k_L_init_4 : List vm_I := [.inl (.aload_n 0)]
theorem kc_L_init_4 : vm_chk m_L_init 4 k_L_init_4 = some 5 := by decide +kernel
-- L_init_5 [5, 'new', '#7', 'class ImageLoader$Tape']
def k_L_init_8 : List vm_I := [.inl .dup]
theorem kc_L_init_8 : vm_chk m_L_init 8 k_L_init_8 = some 9 := by decide +kernel
-- theorem v_L_init_9 : vm_okI_ m_L_init m_T_init 9 9 0 (60, 61, 43, 62) = true := by decide +kernel
def k_L_init_12 : List vm_I := [.inr (.inr (.inl (3, 181, 10, 4, 0))), .inl (.aload_n 0)]
theorem kc_L_init_12 : vm_chk m_L_init 12 k_L_init_12 = some 16 := by decide +kernel
-- L_init_16 [16, 'new', '#16', 'class ImageLoader$Space']
def k_L_init_19 : List vm_I := [.inl .dup, .inr (.inl (.int 1, 0)), .inr (.inl (.int 64, 0)), .inl (.iload_n 1)]
theorem kc_L_init_19 : vm_chk m_L_init 19 k_L_init_19 = some 24 := by decide +kernel
theorem v_L_init_24 : vm_okS m_L_init m_J_min 24 18 2 (74, 75, 45, 76) = true := by decide +kernel
theorem v_L_init_27 : vm_okS m_L_init m_J_max 27 24 2 (77, 78, 45, 79) = true := by decide +kernel
-- theorem v_L_init_30 : vm_okI_ m_L_init m_P_init 30 27 1 (80, 81, 44, 82) = true := by decide +kernel
def k_L_init_33 : List vm_I := [.inr (.inr (.inl (3, 182, 30, 4, 1))), .inl (.aload_n 0)]
theorem kc_L_init_33 : vm_chk m_L_init 33 k_L_init_33 = some 37 := by decide +kernel
-- L_init_37 [37, 'new', '#34', 'class ImageLoader$Image']
def k_L_init_40 : List vm_I := [.inl .dup]
theorem kc_L_init_40 : vm_chk m_L_init 40 k_L_init_40 = some 41 := by decide +kernel
-- theorem v_L_init_41 : vm_okI_ m_L_init m_I_init 41 36 0 (100, 101, 46, 102) = true := by decide +kernel
def k_L_init_44 : List vm_I := [.inr (.inr (.inl (3, 183, 37, 4, 2))), .inl (.aload_n 0), .inr (.inl (.int (-1), 0)), .inr (.inr (.inl (1, 184, 41, 4, 3))), .inl (.aload_n 0), .inr (.inl (.int (-1), 0)), .inr (.inr (.inl (1, 185, 45, 4, 4))), .inl (.aload_n 0), .inr (.inl (.int (-1), 0)), .inr (.inr (.inl (1, 186, 48, 4, 5))), .inl (.aload_n 0), .inr (.inl (.int (-1), 0)), .inr (.inr (.inl (1, 187, 51, 4, 6))), .inl (.aload_n 0), .inr (.inl (.int 0, 0)), .inr (.inr (.inl (1, 188, 54, 4, 7)))]
theorem kc_L_init_44 : vm_chk m_L_init 44 k_L_init_44 = some 72 := by decide +kernel
theorem d_L_init_72 : vm_dec m_L_init 72 .return_ 1 = true := by decide +kernel
def k_L_add_0 : List vm_I := [.inl (.iload_n 3), .inr (.inl (.int 1, 0))]
theorem kc_L_add_0 : vm_chk m_L_add 0 k_L_add_0 = some 2 := by decide +kernel
theorem d_L_add_2 : vm_dec m_L_add 2 (.if_icmp .lt 9) 3 = true := by decide +kernel
def k_L_add_5 : List vm_I := [.inl (.iload_n 3), .inr (.inl (.int 8, 0))]
theorem kc_L_add_5 : vm_chk m_L_add 5 k_L_add_5 = some 8 := by decide +kernel
theorem d_L_add_8 : vm_dec m_L_add 8 (.if_icmp .le 6) 3 = true := by decide +kernel
def k_L_add_11 : List vm_I := [.inr (.inl (.int (-2), 0))]
theorem kc_L_add_11 : vm_chk m_L_add 11 k_L_add_11 = some 13 := by decide +kernel
theorem d_L_add_13 : vm_dec m_L_add 13 .ireturn 1 = true := by decide +kernel
def k_L_add_14 : List vm_I := [.inl (.aload_n 0), .inr (.inr (.inl (0, 181, 10, 4, 0))), .inl (.iload_n 3)]
theorem kc_L_add_14 : vm_chk m_L_add 14 k_L_add_14 = some 19 := by decide +kernel
theorem v_L_add_19 : vm_okV m_L_add m_T_hasRoomFor 19 57 1 (210, 211, 212, 43, 213) = true := by decide +kernel
theorem d_L_add_22 : vm_dec m_L_add 22 (.ifCond .ne 6) 3 = true := by decide +kernel
def k_L_add_25 : List vm_I := [.inr (.inl (.int (-3), 0))]
theorem kc_L_add_25 : vm_chk m_L_add 25 k_L_add_25 = some 27 := by decide +kernel
theorem d_L_add_27 : vm_dec m_L_add 27 .ireturn 1 = true := by decide +kernel
def k_L_add_28 : List vm_I := [.inr (.inl (.int 0, 0)), .inl (.istore 4)]
theorem kc_L_add_28 : vm_chk m_L_add 28 k_L_add_28 = some 31 := by decide +kernel
def k_L_add_31 : List vm_I := [.inl (.iload 4), .inl (.iload_n 3)]
theorem kc_L_add_31 : vm_chk m_L_add 31 k_L_add_31 = some 34 := by decide +kernel
theorem d_L_add_34 : vm_dec m_L_add 34 (.if_icmp .ge 24) 3 = true := by decide +kernel
def k_L_add_37 : List vm_I := [.inl (.aload_n 0), .inr (.inr (.inl (0, 181, 10, 4, 0))), .inl (.lload_n 1), .inr (.inl (.int 8, 0)), .inl (.iload 4), .inl .imul, .inl .lushr, .inl .l2i]
theorem kc_L_add_37 : vm_chk m_L_add 37 k_L_add_37 = some 49 := by decide +kernel
theorem v_L_add_49 : vm_okV m_L_add m_T_append 49 61 1 (214, 215, 216, 43, 217) = true := by decide +kernel
def k_L_add_52 : List vm_I := [.inr (.inr (.inr (4, 1)))]
theorem kc_L_add_52 : vm_chk m_L_add 52 k_L_add_52 = some 55 := by decide +kernel
theorem d_L_add_55 : vm_dec m_L_add 55 (.goto (-24)) 3 = true := by decide +kernel
def k_L_add_58 : List vm_I := [.inl (.aload_n 0), .inr (.inr (.inl (0, 181, 10, 4, 0)))]
theorem kc_L_add_58 : vm_chk m_L_add 58 k_L_add_58 = some 62 := by decide +kernel
theorem v_L_add_62 : vm_okV m_L_add m_T_size 62 64 0 (218, 219, 220, 43, 221) = true := by decide +kernel
theorem d_L_add_65 : vm_dec m_L_add 65 .ireturn 1 = true := by decide +kernel
def k_L_zeros_0 : List vm_I := [.inl (.iload_n 1), .inr (.inl (.int 1, 0))]
theorem kc_L_zeros_0 : vm_chk m_L_zeros 0 k_L_zeros_0 = some 2 := by decide +kernel
theorem d_L_zeros_2 : vm_dec m_L_zeros 2 (.if_icmp .lt 10) 3 = true := by decide +kernel
def k_L_zeros_5 : List vm_I := [.inl (.iload_n 1), .inr (.inl (.int 900, 0))]
theorem kc_L_zeros_5 : vm_chk m_L_zeros 5 k_L_zeros_5 = some 9 := by decide +kernel
theorem d_L_zeros_9 : vm_dec m_L_zeros 9 (.if_icmp .le 6) 3 = true := by decide +kernel
def k_L_zeros_12 : List vm_I := [.inr (.inl (.int (-2), 0))]
theorem kc_L_zeros_12 : vm_chk m_L_zeros 12 k_L_zeros_12 = some 14 := by decide +kernel
theorem d_L_zeros_14 : vm_dec m_L_zeros 14 .ireturn 1 = true := by decide +kernel
def k_L_zeros_15 : List vm_I := [.inl (.aload_n 0), .inr (.inr (.inl (0, 181, 10, 4, 0))), .inl (.iload_n 1)]
theorem kc_L_zeros_15 : vm_chk m_L_zeros 15 k_L_zeros_15 = some 20 := by decide +kernel
theorem v_L_zeros_20 : vm_okV m_L_zeros m_T_hasRoomFor 20 57 1 (210, 211, 212, 43, 213) = true := by decide +kernel
theorem d_L_zeros_23 : vm_dec m_L_zeros 23 (.ifCond .ne 6) 3 = true := by decide +kernel
def k_L_zeros_26 : List vm_I := [.inr (.inl (.int (-3), 0))]
theorem kc_L_zeros_26 : vm_chk m_L_zeros 26 k_L_zeros_26 = some 28 := by decide +kernel
theorem d_L_zeros_28 : vm_dec m_L_zeros 28 .ireturn 1 = true := by decide +kernel
def k_L_zeros_29 : List vm_I := [.inr (.inl (.int 0, 0)), .inl (.istore_n 2)]
theorem kc_L_zeros_29 : vm_chk m_L_zeros 29 k_L_zeros_29 = some 31 := by decide +kernel
def k_L_zeros_31 : List vm_I := [.inl (.iload_n 2), .inl (.iload_n 1)]
theorem kc_L_zeros_31 : vm_chk m_L_zeros 31 k_L_zeros_31 = some 33 := by decide +kernel
theorem d_L_zeros_33 : vm_dec m_L_zeros 33 (.if_icmp .ge 17) 3 = true := by decide +kernel
def k_L_zeros_36 : List vm_I := [.inl (.aload_n 0), .inr (.inr (.inl (0, 181, 10, 4, 0))), .inr (.inl (.int 0, 0))]
theorem kc_L_zeros_36 : vm_chk m_L_zeros 36 k_L_zeros_36 = some 41 := by decide +kernel
theorem v_L_zeros_41 : vm_okV m_L_zeros m_T_append 41 61 1 (214, 215, 216, 43, 217) = true := by decide +kernel
def k_L_zeros_44 : List vm_I := [.inr (.inr (.inr (2, 1)))]
theorem kc_L_zeros_44 : vm_chk m_L_zeros 44 k_L_zeros_44 = some 47 := by decide +kernel
theorem d_L_zeros_47 : vm_dec m_L_zeros 47 (.goto (-16)) 3 = true := by decide +kernel
def k_L_zeros_50 : List vm_I := [.inl (.aload_n 0), .inr (.inr (.inl (0, 181, 10, 4, 0)))]
theorem kc_L_zeros_50 : vm_chk m_L_zeros 50 k_L_zeros_50 = some 54 := by decide +kernel
theorem v_L_zeros_54 : vm_okV m_L_zeros m_T_size 54 64 0 (218, 219, 220, 43, 221) = true := by decide +kernel
theorem d_L_zeros_57 : vm_dec m_L_zeros 57 .ireturn 1 = true := by decide +kernel
def k_L_poke_0 : List vm_I := [.inl (.iload_n 2)]
theorem kc_L_poke_0 : vm_chk m_L_poke 0 k_L_poke_0 = some 1 := by decide +kernel
theorem v_L_poke_1 : vm_okS m_L_poke m_L_isSize 1 68 1 (230, 231, 42, 232) = true := by decide +kernel
theorem d_L_poke_4 : vm_dec m_L_poke 4 (.ifCond .eq 17) 3 = true := by decide +kernel
def k_L_poke_7 : List vm_I := [.inl (.aload_n 0), .inr (.inr (.inl (0, 181, 10, 4, 0))), .inl (.iload_n 1), .inl .i2l, .inl (.iload_n 2), .inl .i2l]
theorem kc_L_poke_7 : vm_chk m_L_poke 7 k_L_poke_7 = some 15 := by decide +kernel
theorem v_L_poke_15 : vm_okV m_L_poke m_T_has 15 71 2 (233, 234, 235, 43, 236) = true := by decide +kernel
theorem d_L_poke_18 : vm_dec m_L_poke 18 (.ifCond .ne 6) 3 = true := by decide +kernel
def k_L_poke_21 : List vm_I := [.inr (.inl (.int (-2), 0))]
theorem kc_L_poke_21 : vm_chk m_L_poke 21 k_L_poke_21 = some 23 := by decide +kernel
theorem d_L_poke_23 : vm_dec m_L_poke 23 .ireturn 1 = true := by decide +kernel
def k_L_poke_24 : List vm_I := [.inr (.inl (.int 0, 0)), .inl (.istore 4)]
theorem kc_L_poke_24 : vm_chk m_L_poke 24 k_L_poke_24 = some 27 := by decide +kernel
def k_L_poke_27 : List vm_I := [.inl (.iload 4), .inl (.iload_n 2)]
theorem kc_L_poke_27 : vm_chk m_L_poke 27 k_L_poke_27 = some 30 := by decide +kernel
theorem d_L_poke_30 : vm_dec m_L_poke 30 (.if_icmp .ge 27) 3 = true := by decide +kernel
def k_L_poke_33 : List vm_I := [.inl (.aload_n 0), .inr (.inr (.inl (0, 181, 10, 4, 0))), .inl (.iload_n 1), .inl (.iload 4), .inl .iadd, .inl (.iload_n 3), .inr (.inl (.int 8, 0)), .inl (.iload 4), .inl .imul, .inl .iushr]
theorem kc_L_poke_33 : vm_chk m_L_poke 33 k_L_poke_33 = some 48 := by decide +kernel
theorem v_L_poke_48 : vm_okV m_L_poke m_T_setByte 48 75 2 (237, 238, 239, 43, 240) = true := by decide +kernel
def k_L_poke_51 : List vm_I := [.inr (.inr (.inr (4, 1)))]
theorem kc_L_poke_51 : vm_chk m_L_poke 51 k_L_poke_51 = some 54 := by decide +kernel
theorem d_L_poke_54 : vm_dec m_L_poke 54 (.goto (-27)) 3 = true := by decide +kernel
def k_L_poke_57 : List vm_I := [.inr (.inl (.int 0, 0))]
theorem kc_L_poke_57 : vm_chk m_L_poke 57 k_L_poke_57 = some 58 := by decide +kernel
theorem d_L_poke_58 : vm_dec m_L_poke 58 .ireturn 1 = true := by decide +kernel
def k_L_peek_0 : List vm_I := [.inl (.aload_n 0), .inr (.inr (.inl (0, 181, 10, 4, 0))), .inl (.iload_n 1), .inl .i2l, .inr (.inl (.long 1, 0))]
theorem kc_L_peek_0 : vm_chk m_L_peek 0 k_L_peek_0 = some 7 := by decide +kernel
theorem v_L_peek_7 : vm_okV m_L_peek m_T_has 7 71 2 (233, 234, 235, 43, 236) = true := by decide +kernel
theorem d_L_peek_10 : vm_dec m_L_peek 10 (.ifCond .eq 14) 3 = true := by decide +kernel
def k_L_peek_13 : List vm_I := [.inl (.aload_n 0), .inr (.inr (.inl (0, 181, 10, 4, 0))), .inl (.iload_n 1)]
theorem kc_L_peek_13 : vm_chk m_L_peek 13 k_L_peek_13 = some 18 := by decide +kernel
theorem v_L_peek_18 : vm_okV m_L_peek m_T_byteAt 18 79 1 (245, 246, 247, 43, 248) = true := by decide +kernel
theorem d_L_peek_21 : vm_dec m_L_peek 21 (.goto 4) 3 = true := by decide +kernel
def k_L_peek_24 : List vm_I := [.inr (.inl (.int (-1), 0))]
theorem kc_L_peek_24 : vm_chk m_L_peek 24 k_L_peek_24 = some 25 := by decide +kernel
theorem d_L_peek_25 : vm_dec m_L_peek 25 .ireturn 1 = true := by decide +kernel
def k_L_cut_0 : List vm_I := [.inl (.aload_n 0), .inr (.inr (.inl (0, 181, 10, 4, 0)))]
theorem kc_L_cut_0 : vm_chk m_L_cut 0 k_L_cut_0 = some 4 := by decide +kernel
theorem v_L_cut_4 : vm_okV m_L_cut m_T_size 4 64 0 (218, 219, 220, 43, 221) = true := by decide +kernel
def k_L_cut_7 : List vm_I := [.inl (.istore_n 2), .inl (.iload_n 1)]
theorem kc_L_cut_7 : vm_chk m_L_cut 7 k_L_cut_7 = some 9 := by decide +kernel
theorem d_L_cut_9 : vm_dec m_L_cut 9 (.ifCond .lt 8) 3 = true := by decide +kernel
def k_L_cut_12 : List vm_I := [.inl (.iload_n 1), .inl (.iload_n 2)]
theorem kc_L_cut_12 : vm_chk m_L_cut 12 k_L_cut_12 = some 14 := by decide +kernel
theorem d_L_cut_14 : vm_dec m_L_cut 14 (.if_icmp .le 6) 3 = true := by decide +kernel
def k_L_cut_17 : List vm_I := [.inr (.inl (.int (-2), 0))]
theorem kc_L_cut_17 : vm_chk m_L_cut 17 k_L_cut_17 = some 19 := by decide +kernel
theorem d_L_cut_19 : vm_dec m_L_cut 19 .ireturn 1 = true := by decide +kernel
def k_L_cut_20 : List vm_I := [.inl (.aload_n 0), .inr (.inr (.inl (0, 181, 10, 4, 0))), .inl (.iload_n 1)]
theorem kc_L_cut_20 : vm_chk m_L_cut 20 k_L_cut_20 = some 25 := by decide +kernel
theorem v_L_cut_25 : vm_okV m_L_cut m_T_shorten 25 83 1 (253, 254, 255, 43, 256) = true := by decide +kernel
def k_L_cut_28 : List vm_I := [.inl (.iload_n 2), .inl (.iload_n 1), .inl .isub]
theorem kc_L_cut_28 : vm_chk m_L_cut 28 k_L_cut_28 = some 31 := by decide +kernel
theorem d_L_cut_31 : vm_dec m_L_cut 31 .ireturn 1 = true := by decide +kernel
def k_L_load_0 : List vm_I := [.inl (.iload_n 1)]
theorem kc_L_load_0 : vm_chk m_L_load 0 k_L_load_0 = some 1 := by decide +kernel
theorem d_L_load_1 : vm_dec m_L_load 1 (.ifCond .lt 18) 3 = true := by decide +kernel
def k_L_load_4 : List vm_I := [.inl (.iload_n 1), .inr (.inl (.int 16128, 0))]
theorem kc_L_load_4 : vm_chk m_L_load 4 k_L_load_4 = some 8 := by decide +kernel
theorem d_L_load_8 : vm_dec m_L_load 8 (.if_icmp .gt 11) 3 = true := by decide +kernel
def k_L_load_11 : List vm_I := [.inl (.iload_n 1), .inr (.inl (.int 256, 0)), .inl .irem]
theorem kc_L_load_11 : vm_chk m_L_load 11 k_L_load_11 = some 16 := by decide +kernel
theorem d_L_load_16 : vm_dec m_L_load 16 (.ifCond .eq 6) 3 = true := by decide +kernel
def k_L_load_19 : List vm_I := [.inr (.inl (.int (-2), 0))]
theorem kc_L_load_19 : vm_chk m_L_load 19 k_L_load_19 = some 21 := by decide +kernel
theorem d_L_load_21 : vm_dec m_L_load 21 .ireturn 1 = true := by decide +kernel
def k_L_load_22 : List vm_I := [.inl (.aload_n 0), .inr (.inr (.inl (0, 183, 37, 4, 2))), .inl (.aload_n 0), .inr (.inr (.inl (0, 181, 10, 4, 0))), .inl (.aload_n 0), .inr (.inr (.inl (0, 182, 30, 4, 1))), .inl (.iload_n 1)]
theorem kc_L_load_22 : vm_chk m_L_load 22 k_L_load_22 = some 35 := by decide +kernel
theorem v_L_load_35 : vm_okV m_L_load m_I_bring 35 86 3 (261, 262, 263, 46, 264) = true := by decide +kernel
def k_L_load_38 : List vm_I := [.inl (.istore_n 2), .inl (.iload_n 2)]
theorem kc_L_load_38 : vm_chk m_L_load 38 k_L_load_38 = some 40 := by decide +kernel
theorem d_L_load_40 : vm_dec m_L_load 40 (.ifCond .eq 19) 3 = true := by decide +kernel
def k_L_load_43 : List vm_I := [.inl (.aload_n 0), .inl (.aload_n 0), .inr (.inr (.inl (0, 183, 37, 4, 2)))]
theorem kc_L_load_43 : vm_chk m_L_load 43 k_L_load_43 = some 48 := by decide +kernel
theorem v_L_load_48 : vm_okV m_L_load m_I_faultPlace 48 90 0 (459, 460, 461, 46, 462) = true := by decide +kernel
def k_L_load_51 : List vm_I := [.inr (.inr (.inl (1, 184, 41, 4, 3))), .inr (.inl (.int (-10), 0)), .inl (.iload_n 2), .inl .isub]
theorem kc_L_load_51 : vm_chk m_L_load 51 k_L_load_51 = some 58 := by decide +kernel
theorem d_L_load_58 : vm_dec m_L_load 58 .ireturn 1 = true := by decide +kernel
def k_L_load_59 : List vm_I := [.inl (.aload_n 0), .inr (.inl (.int (-1), 0)), .inr (.inr (.inl (1, 184, 41, 4, 3))), .inl (.aload_n 0), .inl (.aload_n 0), .inr (.inr (.inl (0, 183, 37, 4, 2)))]
theorem kc_L_load_59 : vm_chk m_L_load 59 k_L_load_59 = some 69 := by decide +kernel
theorem v_L_load_69 : vm_okV m_L_load m_I_entry 69 92 0 (463, 464, 465, 46, 466) = true := by decide +kernel
def k_L_load_72 : List vm_I := [.inr (.inr (.inl (1, 185, 45, 4, 4))), .inl (.aload_n 0), .inl (.aload_n 0), .inr (.inr (.inl (0, 183, 37, 4, 2)))]
theorem kc_L_load_72 : vm_chk m_L_load 72 k_L_load_72 = some 80 := by decide +kernel
theorem v_L_load_80 : vm_okV m_L_load m_I_pagesWanted 80 95 0 (467, 468, 469, 46, 470) = true := by decide +kernel
def k_L_load_83 : List vm_I := [.inr (.inr (.inl (1, 186, 48, 4, 5))), .inl (.aload_n 0), .inl (.aload_n 0), .inr (.inr (.inl (0, 183, 37, 4, 2)))]
theorem kc_L_load_83 : vm_chk m_L_load 83 k_L_load_83 = some 91 := by decide +kernel
theorem v_L_load_91 : vm_okV m_L_load m_I_base 91 98 0 (471, 472, 473, 46, 474) = true := by decide +kernel
def k_L_load_94 : List vm_I := [.inr (.inr (.inl (1, 187, 51, 4, 6))), .inl (.aload_n 0), .inl .dup, .inr (.inr (.inl (0, 188, 54, 4, 7))), .inr (.inl (.int 1, 0)), .inl .iadd, .inr (.inr (.inl (1, 188, 54, 4, 7))), .inl (.aload_n 0), .inr (.inr (.inl (0, 183, 37, 4, 2)))]
theorem kc_L_load_94 : vm_chk m_L_load 94 k_L_load_94 = some 111 := by decide +kernel
theorem v_L_load_111 : vm_okV m_L_load m_I_relocationCount 111 101 0 (475, 476, 477, 46, 478) = true := by decide +kernel
theorem d_L_load_114 : vm_dec m_L_load 114 .ireturn 1 = true := by decide +kernel
def k_L_told_0 : List vm_I := [.inl (.iload_n 1)]
theorem kc_L_told_0 : vm_chk m_L_told 0 k_L_told_0 = some 1 := by decide +kernel
theorem d_L_told_1 : vm_dec m_L_told 1 (.tableswitch 51 0 3 #[31, 36, 41, 46]) 31 = true := by decide +kernel
def k_L_told_32 : List vm_I := [.inl (.aload_n 0), .inr (.inr (.inl (0, 184, 41, 4, 3)))]
theorem kc_L_told_32 : vm_chk m_L_told 32 k_L_told_32 = some 36 := by decide +kernel
theorem d_L_told_36 : vm_dec m_L_told 36 .ireturn 1 = true := by decide +kernel
def k_L_told_37 : List vm_I := [.inl (.aload_n 0), .inr (.inr (.inl (0, 185, 45, 4, 4)))]
theorem kc_L_told_37 : vm_chk m_L_told 37 k_L_told_37 = some 41 := by decide +kernel
theorem d_L_told_41 : vm_dec m_L_told 41 .ireturn 1 = true := by decide +kernel
def k_L_told_42 : List vm_I := [.inl (.aload_n 0), .inr (.inr (.inl (0, 186, 48, 4, 5)))]
theorem kc_L_told_42 : vm_chk m_L_told 42 k_L_told_42 = some 46 := by decide +kernel
theorem d_L_told_46 : vm_dec m_L_told 46 .ireturn 1 = true := by decide +kernel
def k_L_told_47 : List vm_I := [.inl (.aload_n 0), .inr (.inr (.inl (0, 187, 51, 4, 6)))]
theorem kc_L_told_47 : vm_chk m_L_told 47 k_L_told_47 = some 51 := by decide +kernel
theorem d_L_told_51 : vm_dec m_L_told 51 .ireturn 1 = true := by decide +kernel
def k_L_told_52 : List vm_I := [.inr (.inl (.int (-2), 0))]
theorem kc_L_told_52 : vm_chk m_L_told 52 k_L_told_52 = some 54 := by decide +kernel
theorem d_L_told_54 : vm_dec m_L_told 54 .ireturn 1 = true := by decide +kernel
def k_L_stack_0 : List vm_I := [.inl (.iload_n 1), .inr (.inl (.int 1, 0))]
theorem kc_L_stack_0 : vm_chk m_L_stack 0 k_L_stack_0 = some 2 := by decide +kernel
theorem d_L_stack_2 : vm_dec m_L_stack 2 (.if_icmp .lt 9) 3 = true := by decide +kernel
def k_L_stack_5 : List vm_I := [.inl (.iload_n 1), .inr (.inl (.int 16, 0))]
theorem kc_L_stack_5 : vm_chk m_L_stack 5 k_L_stack_5 = some 8 := by decide +kernel
theorem d_L_stack_8 : vm_dec m_L_stack 8 (.if_icmp .le 6) 3 = true := by decide +kernel
def k_L_stack_11 : List vm_I := [.inr (.inl (.int (-2), 0))]
theorem kc_L_stack_11 : vm_chk m_L_stack 11 k_L_stack_11 = some 13 := by decide +kernel
theorem d_L_stack_13 : vm_dec m_L_stack 13 .ireturn 1 = true := by decide +kernel
def k_L_stack_14 : List vm_I := [.inr (.inl (.int 64, 0)), .inl (.iload_n 1), .inl .isub, .inl (.istore_n 2), .inl (.aload_n 0), .inr (.inr (.inl (0, 182, 30, 4, 1))), .inl (.iload_n 2), .inr (.inl (.int 63, 0))]
theorem kc_L_stack_14 : vm_chk m_L_stack 14 k_L_stack_14 = some 26 := by decide +kernel
theorem v_L_stack_26 : vm_okV m_L_stack m_P_anyMapped 26 104 2 (487, 332, 333, 44, 334) = true := by decide +kernel
theorem d_L_stack_29 : vm_dec m_L_stack 29 (.ifCond .ne 14) 3 = true := by decide +kernel
def k_L_stack_32 : List vm_I := [.inl (.iload_n 1), .inl (.aload_n 0), .inr (.inr (.inl (0, 182, 30, 4, 1)))]
theorem kc_L_stack_32 : vm_chk m_L_stack 32 k_L_stack_32 = some 37 := by decide +kernel
theorem v_L_stack_37 : vm_okV m_L_stack m_P_freeFrames 37 108 0 (488, 357, 358, 44, 359) = true := by decide +kernel
theorem d_L_stack_40 : vm_dec m_L_stack 40 (.if_icmp .le 6) 3 = true := by decide +kernel
def k_L_stack_43 : List vm_I := [.inr (.inl (.int (-3), 0))]
theorem kc_L_stack_43 : vm_chk m_L_stack 43 k_L_stack_43 = some 45 := by decide +kernel
theorem d_L_stack_45 : vm_dec m_L_stack 45 .ireturn 1 = true := by decide +kernel
def k_L_stack_46 : List vm_I := [.inl (.aload_n 0)]
theorem kc_L_stack_46 : vm_chk m_L_stack 46 k_L_stack_46 = some 47 := by decide +kernel
theorem v_L_stack_47 : vm_okV m_L_stack m_L_stackPointer 47 111 0 (489, 491, 18, 42, 492) = true := by decide +kernel
def k_L_stack_50 : List vm_I := [.inl (.istore_n 3), .inl (.iload_n 3), .inl (.iload_n 2), .inr (.inl (.int 256, 0)), .inl .imul]
theorem kc_L_stack_50 : vm_chk m_L_stack 50 k_L_stack_50 = some 57 := by decide +kernel
theorem d_L_stack_57 : vm_dec m_L_stack 57 (.if_icmp .ge 6) 3 = true := by decide +kernel
def k_L_stack_60 : List vm_I := [.inr (.inl (.int (-3), 0))]
theorem kc_L_stack_60 : vm_chk m_L_stack 60 k_L_stack_60 = some 62 := by decide +kernel
theorem d_L_stack_62 : vm_dec m_L_stack 62 .ireturn 1 = true := by decide +kernel
def k_L_stack_63 : List vm_I := [.inl (.aload_n 0), .inr (.inr (.inl (0, 182, 30, 4, 1))), .inl (.iload_n 2), .inr (.inl (.int 63, 0)), .inr (.inl (.int 6, 0))]
theorem kc_L_stack_63 : vm_chk m_L_stack 63 k_L_stack_63 = some 72 := by decide +kernel
theorem v_L_stack_72 : vm_okV m_L_stack m_P_mapAll 72 114 3 (508, 401, 402, 44, 403) = true := by decide +kernel
def k_L_stack_75 : List vm_I := [.inl (.aload_n 0), .inl (.iload_n 3)]
theorem kc_L_stack_75 : vm_chk m_L_stack 75 k_L_stack_75 = some 77 := by decide +kernel
theorem v_L_stack_77 : vm_okV m_L_stack m_L_layArguments 77 118 1 (509, 511, 21, 42, 512) = true := by decide +kernel
def k_L_stack_80 : List vm_I := [.inl (.aload_n 0), .inr (.inr (.inl (0, 181, 10, 4, 0))), .inr (.inl (.int 0, 0))]
theorem kc_L_stack_80 : vm_chk m_L_stack 80 k_L_stack_80 = some 85 := by decide +kernel
theorem v_L_stack_85 : vm_okV m_L_stack m_T_shorten 85 83 1 (253, 254, 255, 43, 256) = true := by decide +kernel
def k_L_stack_88 : List vm_I := [.inl (.iload_n 3)]
theorem kc_L_stack_88 : vm_chk m_L_stack 88 k_L_stack_88 = some 89 := by decide +kernel
theorem d_L_stack_89 : vm_dec m_L_stack 89 .ireturn 1 = true := by decide +kernel
def k_L_read_0 : List vm_I := [.inl (.aload_n 0), .inr (.inr (.inl (0, 182, 30, 4, 1))), .inl (.iload_n 1), .inl (.iload_n 2), .inr (.inl (.int 4, 0))]
theorem kc_L_read_0 : vm_chk m_L_read 0 k_L_read_0 = some 7 := by decide +kernel
theorem v_L_read_7 : vm_okV m_L_read m_P_refusal 7 121 3 (519, 520, 521, 44, 522) = true := by decide +kernel
def k_L_read_10 : List vm_I := [.inl (.istore_n 3), .inl (.iload_n 3)]
theorem kc_L_read_10 : vm_chk m_L_read 10 k_L_read_10 = some 12 := by decide +kernel
theorem d_L_read_12 : vm_dec m_L_read 12 (.ifCond .ne 15) 3 = true := by decide +kernel
def k_L_read_15 : List vm_I := [.inl (.aload_n 0), .inr (.inr (.inl (0, 182, 30, 4, 1))), .inl (.iload_n 1), .inl (.iload_n 2)]
theorem kc_L_read_15 : vm_chk m_L_read 15 k_L_read_15 = some 21 := by decide +kernel
theorem v_L_read_21 : vm_okV m_L_read m_P_number 21 125 2 (527, 435, 436, 44, 437) = true := by decide +kernel
theorem d_L_read_24 : vm_dec m_L_read 24 (.goto 5) 3 = true := by decide +kernel
def k_L_read_27 : List vm_I := [.inl (.iload_n 3), .inl .i2l]
theorem kc_L_read_27 : vm_chk m_L_read 27 k_L_read_27 = some 29 := by decide +kernel
theorem d_L_read_29 : vm_dec m_L_read 29 .lreturn 1 = true := by decide +kernel
def k_L_write_0 : List vm_I := [.inl (.aload_n 0), .inr (.inr (.inl (0, 182, 30, 4, 1))), .inl (.iload_n 1), .inl (.iload_n 2), .inr (.inl (.int 2, 0))]
theorem kc_L_write_0 : vm_chk m_L_write 0 k_L_write_0 = some 7 := by decide +kernel
theorem v_L_write_7 : vm_okV m_L_write m_P_refusal 7 121 3 (519, 520, 521, 44, 522) = true := by decide +kernel
def k_L_write_10 : List vm_I := [.inl (.istore 4), .inl (.iload 4)]
theorem kc_L_write_10 : vm_chk m_L_write 10 k_L_write_10 = some 14 := by decide +kernel
theorem d_L_write_14 : vm_dec m_L_write 14 (.ifCond .ne 13) 3 = true := by decide +kernel
def k_L_write_17 : List vm_I := [.inl (.aload_n 0), .inr (.inr (.inl (0, 182, 30, 4, 1))), .inl (.iload_n 1), .inl (.iload_n 2), .inl (.iload_n 3)]
theorem kc_L_write_17 : vm_chk m_L_write 17 k_L_write_17 = some 24 := by decide +kernel
theorem v_L_write_24 : vm_okV m_L_write m_P_setNumber 24 129 3 (513, 448, 449, 44, 450) = true := by decide +kernel
def k_L_write_27 : List vm_I := [.inl (.iload 4)]
theorem kc_L_write_27 : vm_chk m_L_write 27 k_L_write_27 = some 29 := by decide +kernel
theorem d_L_write_29 : vm_dec m_L_write 29 .ireturn 1 = true := by decide +kernel
def k_L_fetch_0 : List vm_I := [.inl (.aload_n 0), .inr (.inr (.inl (0, 182, 30, 4, 1))), .inl (.iload_n 1), .inr (.inl (.int 4, 0)), .inr (.inl (.int 1, 0))]
theorem kc_L_fetch_0 : vm_chk m_L_fetch 0 k_L_fetch_0 = some 7 := by decide +kernel
theorem v_L_fetch_7 : vm_okV m_L_fetch m_P_refusal 7 121 3 (519, 520, 521, 44, 522) = true := by decide +kernel
def k_L_fetch_10 : List vm_I := [.inl (.istore_n 2), .inl (.iload_n 2)]
theorem kc_L_fetch_10 : vm_chk m_L_fetch 10 k_L_fetch_10 = some 12 := by decide +kernel
theorem d_L_fetch_12 : vm_dec m_L_fetch 12 (.ifCond .ne 15) 3 = true := by decide +kernel
def k_L_fetch_15 : List vm_I := [.inl (.aload_n 0), .inr (.inr (.inl (0, 182, 30, 4, 1))), .inl (.iload_n 1), .inr (.inl (.int 4, 0))]
theorem kc_L_fetch_15 : vm_chk m_L_fetch 15 k_L_fetch_15 = some 21 := by decide +kernel
theorem v_L_fetch_21 : vm_okV m_L_fetch m_P_number 21 125 2 (527, 435, 436, 44, 437) = true := by decide +kernel
theorem d_L_fetch_24 : vm_dec m_L_fetch 24 (.goto 5) 3 = true := by decide +kernel
def k_L_fetch_27 : List vm_I := [.inl (.iload_n 2), .inl .i2l]
theorem kc_L_fetch_27 : vm_chk m_L_fetch 27 k_L_fetch_27 = some 29 := by decide +kernel
theorem d_L_fetch_29 : vm_dec m_L_fetch 29 .lreturn 1 = true := by decide +kernel
def k_L_protect_0 : List vm_I := [.inl (.iload_n 1)]
theorem kc_L_protect_0 : vm_chk m_L_protect 0 k_L_protect_0 = some 1 := by decide +kernel
theorem v_L_protect_1 : vm_okS m_L_protect m_L_isPage 1 132 1 (540, 340, 42, 341) = true := by decide +kernel
theorem d_L_protect_4 : vm_dec m_L_protect 4 (.ifCond .eq 13) 3 = true := by decide +kernel
def k_L_protect_7 : List vm_I := [.inl (.iload_n 2)]
theorem kc_L_protect_7 : vm_chk m_L_protect 7 k_L_protect_7 = some 8 := by decide +kernel
theorem d_L_protect_8 : vm_dec m_L_protect 8 (.ifCond .lt 9) 3 = true := by decide +kernel
def k_L_protect_11 : List vm_I := [.inl (.iload_n 2), .inr (.inl (.int 7, 0))]
theorem kc_L_protect_11 : vm_chk m_L_protect 11 k_L_protect_11 = some 14 := by decide +kernel
theorem d_L_protect_14 : vm_dec m_L_protect 14 (.if_icmp .le 6) 3 = true := by decide +kernel
def k_L_protect_17 : List vm_I := [.inr (.inl (.int (-2), 0))]
theorem kc_L_protect_17 : vm_chk m_L_protect 17 k_L_protect_17 = some 19 := by decide +kernel
theorem d_L_protect_19 : vm_dec m_L_protect 19 .ireturn 1 = true := by decide +kernel
def k_L_protect_20 : List vm_I := [.inl (.aload_n 0), .inr (.inr (.inl (0, 182, 30, 4, 1))), .inl (.iload_n 1)]
theorem kc_L_protect_20 : vm_chk m_L_protect 20 k_L_protect_20 = some 25 := by decide +kernel
theorem v_L_protect_25 : vm_okV m_L_protect m_P_rightsOf 25 135 1 (541, 336, 337, 44, 338) = true := by decide +kernel
def k_L_protect_28 : List vm_I := [.inl (.istore_n 3), .inl (.iload_n 3), .inr (.inl (.int (-1), 0))]
theorem kc_L_protect_28 : vm_chk m_L_protect 28 k_L_protect_28 = some 31 := by decide +kernel
theorem d_L_protect_31 : vm_dec m_L_protect 31 (.if_icmp .ne 6) 3 = true := by decide +kernel
def k_L_protect_34 : List vm_I := [.inr (.inl (.int (-3), 0))]
theorem kc_L_protect_34 : vm_chk m_L_protect 34 k_L_protect_34 = some 36 := by decide +kernel
theorem d_L_protect_36 : vm_dec m_L_protect 36 .ireturn 1 = true := by decide +kernel
def k_L_protect_37 : List vm_I := [.inl (.aload_n 0), .inr (.inr (.inl (0, 182, 30, 4, 1))), .inl (.iload_n 1), .inl (.iload_n 2)]
theorem kc_L_protect_37 : vm_chk m_L_protect 37 k_L_protect_37 = some 43 := by decide +kernel
theorem v_L_protect_43 : vm_okV m_L_protect m_P_setRights 43 138 2 (542, 405, 406, 44, 407) = true := by decide +kernel
def k_L_protect_46 : List vm_I := [.inl (.iload_n 3)]
theorem kc_L_protect_46 : vm_chk m_L_protect 46 k_L_protect_46 = some 47 := by decide +kernel
theorem d_L_protect_47 : vm_dec m_L_protect 47 .ireturn 1 = true := by decide +kernel
def k_L_unmap_0 : List vm_I := [.inl (.iload_n 2), .inr (.inl (.int 1, 0))]
theorem kc_L_unmap_0 : vm_chk m_L_unmap 0 k_L_unmap_0 = some 2 := by decide +kernel
theorem d_L_unmap_2 : vm_dec m_L_unmap 2 (.if_icmp .lt 11) 3 = true := by decide +kernel
def k_L_unmap_5 : List vm_I := [.inl (.iload_n 1), .inl (.iload_n 2)]
theorem kc_L_unmap_5 : vm_chk m_L_unmap 5 k_L_unmap_5 = some 7 := by decide +kernel
theorem v_L_unmap_7 : vm_okS m_L_unmap m_L_arePages 7 141 2 (547, 548, 42, 549) = true := by decide +kernel
theorem d_L_unmap_10 : vm_dec m_L_unmap 10 (.ifCond .ne 6) 3 = true := by decide +kernel
def k_L_unmap_13 : List vm_I := [.inr (.inl (.int (-2), 0))]
theorem kc_L_unmap_13 : vm_chk m_L_unmap 13 k_L_unmap_13 = some 15 := by decide +kernel
theorem d_L_unmap_15 : vm_dec m_L_unmap 15 .ireturn 1 = true := by decide +kernel
def k_L_unmap_16 : List vm_I := [.inl (.aload_n 0), .inr (.inr (.inl (0, 182, 30, 4, 1)))]
theorem kc_L_unmap_16 : vm_chk m_L_unmap 16 k_L_unmap_16 = some 20 := by decide +kernel
theorem v_L_unmap_20 : vm_okV m_L_unmap m_P_mappedPages 20 144 0 (550, 551, 552, 44, 553) = true := by decide +kernel
def k_L_unmap_23 : List vm_I := [.inl (.istore_n 3), .inl (.aload_n 0), .inr (.inr (.inl (0, 182, 30, 4, 1))), .inl (.iload_n 1), .inl (.iload_n 1), .inl (.iload_n 2), .inl .iadd, .inr (.inl (.int 1, 0)), .inl .isub]
theorem kc_L_unmap_23 : vm_chk m_L_unmap 23 k_L_unmap_23 = some 34 := by decide +kernel
theorem v_L_unmap_34 : vm_okV m_L_unmap m_P_releaseAll 34 147 2 (554, 456, 457, 44, 458) = true := by decide +kernel
def k_L_unmap_37 : List vm_I := [.inl (.iload_n 3), .inl (.aload_n 0), .inr (.inr (.inl (0, 182, 30, 4, 1)))]
theorem kc_L_unmap_37 : vm_chk m_L_unmap 37 k_L_unmap_37 = some 42 := by decide +kernel
theorem v_L_unmap_42 : vm_okV m_L_unmap m_P_mappedPages 42 144 0 (550, 551, 552, 44, 553) = true := by decide +kernel
def k_L_unmap_45 : List vm_I := [.inl .isub]
theorem kc_L_unmap_45 : vm_chk m_L_unmap 45 k_L_unmap_45 = some 46 := by decide +kernel
theorem d_L_unmap_46 : vm_dec m_L_unmap 46 .ireturn 1 = true := by decide +kernel
def k_L_rights_0 : List vm_I := [.inl (.iload_n 1)]
theorem kc_L_rights_0 : vm_chk m_L_rights 0 k_L_rights_0 = some 1 := by decide +kernel
theorem v_L_rights_1 : vm_okS m_L_rights m_L_isPage 1 132 1 (540, 340, 42, 341) = true := by decide +kernel
theorem d_L_rights_4 : vm_dec m_L_rights 4 (.ifCond .eq 14) 3 = true := by decide +kernel
def k_L_rights_7 : List vm_I := [.inl (.aload_n 0), .inr (.inr (.inl (0, 182, 30, 4, 1))), .inl (.iload_n 1)]
theorem kc_L_rights_7 : vm_chk m_L_rights 7 k_L_rights_7 = some 12 := by decide +kernel
theorem v_L_rights_12 : vm_okV m_L_rights m_P_rightsOf 12 135 1 (541, 336, 337, 44, 338) = true := by decide +kernel
theorem d_L_rights_15 : vm_dec m_L_rights 15 (.goto 5) 3 = true := by decide +kernel
def k_L_rights_18 : List vm_I := [.inr (.inl (.int (-2), 0))]
theorem kc_L_rights_18 : vm_chk m_L_rights 18 k_L_rights_18 = some 20 := by decide +kernel
theorem d_L_rights_20 : vm_dec m_L_rights 20 .ireturn 1 = true := by decide +kernel
def k_L_count_0 : List vm_I := [.inl (.iload_n 1)]
theorem kc_L_count_0 : vm_chk m_L_count 0 k_L_count_0 = some 1 := by decide +kernel
theorem d_L_count_1 : vm_dec m_L_count 1 (.tableswitch 99 0 6 #[43, 51, 60, 69, 78, 86, 91]) 43 = true := by decide +kernel
def k_L_count_44 : List vm_I := [.inl (.aload_n 0), .inr (.inr (.inl (0, 182, 30, 4, 1)))]
theorem kc_L_count_44 : vm_chk m_L_count 44 k_L_count_44 = some 48 := by decide +kernel
theorem v_L_count_48 : vm_okV m_L_count m_P_mappedPages 48 144 0 (550, 551, 552, 44, 553) = true := by decide +kernel
theorem d_L_count_51 : vm_dec m_L_count 51 .ireturn 1 = true := by decide +kernel
def k_L_count_52 : List vm_I := [.inl (.aload_n 0), .inr (.inr (.inl (0, 182, 30, 4, 1))), .inr (.inl (.int 1, 0))]
theorem kc_L_count_52 : vm_chk m_L_count 52 k_L_count_52 = some 57 := by decide +kernel
theorem v_L_count_57 : vm_okV m_L_count m_P_pagesWith 57 150 1 (563, 564, 565, 44, 566) = true := by decide +kernel
theorem d_L_count_60 : vm_dec m_L_count 60 .ireturn 1 = true := by decide +kernel
def k_L_count_61 : List vm_I := [.inl (.aload_n 0), .inr (.inr (.inl (0, 182, 30, 4, 1))), .inr (.inl (.int 2, 0))]
theorem kc_L_count_61 : vm_chk m_L_count 61 k_L_count_61 = some 66 := by decide +kernel
theorem v_L_count_66 : vm_okV m_L_count m_P_pagesWith 66 150 1 (563, 564, 565, 44, 566) = true := by decide +kernel
theorem d_L_count_69 : vm_dec m_L_count 69 .ireturn 1 = true := by decide +kernel
def k_L_count_70 : List vm_I := [.inl (.aload_n 0), .inr (.inr (.inl (0, 182, 30, 4, 1))), .inr (.inl (.int 4, 0))]
theorem kc_L_count_70 : vm_chk m_L_count 70 k_L_count_70 = some 75 := by decide +kernel
theorem v_L_count_75 : vm_okV m_L_count m_P_pagesWith 75 150 1 (563, 564, 565, 44, 566) = true := by decide +kernel
theorem d_L_count_78 : vm_dec m_L_count 78 .ireturn 1 = true := by decide +kernel
def k_L_count_79 : List vm_I := [.inl (.aload_n 0), .inr (.inr (.inl (0, 181, 10, 4, 0)))]
theorem kc_L_count_79 : vm_chk m_L_count 79 k_L_count_79 = some 83 := by decide +kernel
theorem v_L_count_83 : vm_okV m_L_count m_T_size 83 64 0 (218, 219, 220, 43, 221) = true := by decide +kernel
theorem d_L_count_86 : vm_dec m_L_count 86 .ireturn 1 = true := by decide +kernel
def k_L_count_87 : List vm_I := [.inl (.aload_n 0), .inr (.inr (.inl (0, 188, 54, 4, 7)))]
theorem kc_L_count_87 : vm_chk m_L_count 87 k_L_count_87 = some 91 := by decide +kernel
theorem d_L_count_91 : vm_dec m_L_count 91 .ireturn 1 = true := by decide +kernel
def k_L_count_92 : List vm_I := [.inl (.aload_n 0), .inr (.inr (.inl (0, 182, 30, 4, 1)))]
theorem kc_L_count_92 : vm_chk m_L_count 92 k_L_count_92 = some 96 := by decide +kernel
theorem v_L_count_96 : vm_okV m_L_count m_P_frames 96 153 0 (567, 568, 569, 44, 570) = true := by decide +kernel
theorem d_L_count_99 : vm_dec m_L_count 99 .ireturn 1 = true := by decide +kernel
def k_L_count_100 : List vm_I := [.inr (.inl (.int (-2), 0))]
theorem kc_L_count_100 : vm_chk m_L_count 100 k_L_count_100 = some 102 := by decide +kernel
theorem d_L_count_102 : vm_dec m_L_count 102 .ireturn 1 = true := by decide +kernel
def k_L_sum_0 : List vm_I := [.inl (.iload_n 1), .inl (.iload_n 2)]
theorem kc_L_sum_0 : vm_chk m_L_sum 0 k_L_sum_0 = some 2 := by decide +kernel
theorem v_L_sum_2 : vm_okS m_L_sum m_L_arePages 2 141 2 (547, 548, 42, 549) = true := by decide +kernel
theorem d_L_sum_5 : vm_dec m_L_sum 5 (.ifCond .ne 5) 3 = true := by decide +kernel
def k_L_sum_8 : List vm_I := [.inr (.inl (.int 0, 0))]
theorem kc_L_sum_8 : vm_chk m_L_sum 8 k_L_sum_8 = some 9 := by decide +kernel
theorem d_L_sum_9 : vm_dec m_L_sum 9 .ireturn 1 = true := by decide +kernel
def k_L_sum_10 : List vm_I := [.inr (.inl (.int 7, 0)), .inl (.istore_n 3), .inr (.inl (.int 0, 0)), .inl (.istore 4)]
theorem kc_L_sum_10 : vm_chk m_L_sum 10 k_L_sum_10 = some 16 := by decide +kernel
def k_L_sum_16 : List vm_I := [.inl (.iload 4), .inl (.iload_n 2)]
theorem kc_L_sum_16 : vm_chk m_L_sum 16 k_L_sum_16 = some 19 := by decide +kernel
theorem d_L_sum_19 : vm_dec m_L_sum 19 (.if_icmp .ge 22) 3 = true := by decide +kernel
def k_L_sum_22 : List vm_I := [.inl (.aload_n 0), .inr (.inr (.inl (0, 182, 30, 4, 1))), .inl (.iload_n 3), .inl (.iload_n 1), .inl (.iload 4), .inl .iadd]
theorem kc_L_sum_22 : vm_chk m_L_sum 22 k_L_sum_22 = some 31 := by decide +kernel
theorem v_L_sum_31 : vm_okV m_L_sum m_P_sumOn 31 156 2 (575, 576, 577, 44, 578) = true := by decide +kernel
def k_L_sum_34 : List vm_I := [.inl (.istore_n 3), .inr (.inr (.inr (4, 1)))]
theorem kc_L_sum_34 : vm_chk m_L_sum 34 k_L_sum_34 = some 38 := by decide +kernel
theorem d_L_sum_38 : vm_dec m_L_sum 38 (.goto (-22)) 3 = true := by decide +kernel
def k_L_sum_41 : List vm_I := [.inl (.iload_n 3)]
theorem kc_L_sum_41 : vm_chk m_L_sum 41 k_L_sum_41 = some 42 := by decide +kernel
theorem d_L_sum_42 : vm_dec m_L_sum 42 .ireturn 1 = true := by decide +kernel
def k_L_stackPointer_0 : List vm_I := [.inl (.aload_n 0)]
theorem kc_L_stackPointer_0 : vm_chk m_L_stackPointer 0 k_L_stackPointer_0 = some 1 := by decide +kernel
theorem v_L_stackPointer_1 : vm_okV m_L_stackPointer m_L_argumentCount 1 159 0 (493, 495, 19, 42, 496) = true := by decide +kernel
def k_L_stackPointer_4 : List vm_I := [.inr (.inl (.int 3, 0)), .inl .iadd, .inl (.istore_n 1), .inr (.inl (.int 16384, 0)), .inl (.aload_n 0)]
theorem kc_L_stackPointer_4 : vm_chk m_L_stackPointer 4 k_L_stackPointer_4 = some 11 := by decide +kernel
theorem v_L_stackPointer_11 : vm_okV m_L_stackPointer m_L_argumentBytes 11 162 0 (501, 503, 20, 42, 504) = true := by decide +kernel
def k_L_stackPointer_14 : List vm_I := [.inl .isub, .inr (.inl (.int 4, 0)), .inl (.iload_n 1), .inl .imul, .inl .isub, .inl (.istore_n 2), .inl (.iload_n 2), .inl (.iload_n 2), .inr (.inl (.int 16, 0))]
theorem kc_L_stackPointer_14 : vm_chk m_L_stackPointer 14 k_L_stackPointer_14 = some 24 := by decide +kernel
theorem v_L_stackPointer_24 : vm_okS m_L_stackPointer m_J_floorMod 24 165 2 (505, 506, 45, 507) = true := by decide +kernel
def k_L_stackPointer_27 : List vm_I := [.inl .isub]
theorem kc_L_stackPointer_27 : vm_chk m_L_stackPointer 27 k_L_stackPointer_27 = some 28 := by decide +kernel
theorem d_L_stackPointer_28 : vm_dec m_L_stackPointer 28 .ireturn 1 = true := by decide +kernel
def k_L_argumentBytes_0 : List vm_I := [.inl (.aload_n 0), .inr (.inr (.inl (0, 181, 10, 4, 0)))]
theorem kc_L_argumentBytes_0 : vm_chk m_L_argumentBytes 0 k_L_argumentBytes_0 = some 4 := by decide +kernel
theorem v_L_argumentBytes_4 : vm_okV m_L_argumentBytes m_T_size 4 64 0 (218, 219, 220, 43, 221) = true := by decide +kernel
def k_L_argumentBytes_7 : List vm_I := [.inl (.aload_n 0), .inr (.inr (.inl (0, 181, 10, 4, 0)))]
theorem kc_L_argumentBytes_7 : vm_chk m_L_argumentBytes 7 k_L_argumentBytes_7 = some 11 := by decide +kernel
theorem v_L_argumentBytes_11 : vm_okV m_L_argumentBytes m_T_lacksLastZero 11 168 0 (497, 498, 499, 43, 500) = true := by decide +kernel
theorem d_L_argumentBytes_14 : vm_dec m_L_argumentBytes 14 (.ifCond .eq 7) 3 = true := by decide +kernel
def k_L_argumentBytes_17 : List vm_I := [.inr (.inl (.int 1, 0))]
theorem kc_L_argumentBytes_17 : vm_chk m_L_argumentBytes 17 k_L_argumentBytes_17 = some 18 := by decide +kernel
theorem d_L_argumentBytes_18 : vm_dec m_L_argumentBytes 18 (.goto 4) 3 = true := by decide +kernel
def k_L_argumentBytes_21 : List vm_I := [.inr (.inl (.int 0, 0))]
theorem kc_L_argumentBytes_21 : vm_chk m_L_argumentBytes 21 k_L_argumentBytes_21 = some 22 := by decide +kernel
def k_L_argumentBytes_22 : List vm_I := [.inl .iadd]
theorem kc_L_argumentBytes_22 : vm_chk m_L_argumentBytes 22 k_L_argumentBytes_22 = some 23 := by decide +kernel
theorem d_L_argumentBytes_23 : vm_dec m_L_argumentBytes 23 .ireturn 1 = true := by decide +kernel
def k_L_argumentCount_0 : List vm_I := [.inl (.aload_n 0), .inr (.inr (.inl (0, 181, 10, 4, 0)))]
theorem kc_L_argumentCount_0 : vm_chk m_L_argumentCount 0 k_L_argumentCount_0 = some 4 := by decide +kernel
theorem v_L_argumentCount_4 : vm_okV m_L_argumentCount m_T_lacksLastZero 4 168 0 (497, 498, 499, 43, 500) = true := by decide +kernel
theorem d_L_argumentCount_7 : vm_dec m_L_argumentCount 7 (.ifCond .eq 7) 3 = true := by decide +kernel
def k_L_argumentCount_10 : List vm_I := [.inr (.inl (.int 1, 0))]
theorem kc_L_argumentCount_10 : vm_chk m_L_argumentCount 10 k_L_argumentCount_10 = some 11 := by decide +kernel
theorem d_L_argumentCount_11 : vm_dec m_L_argumentCount 11 (.goto 4) 3 = true := by decide +kernel
def k_L_argumentCount_14 : List vm_I := [.inr (.inl (.int 0, 0))]
theorem kc_L_argumentCount_14 : vm_chk m_L_argumentCount 14 k_L_argumentCount_14 = some 15 := by decide +kernel
def k_L_argumentCount_15 : List vm_I := [.inl (.istore_n 1), .inr (.inl (.int 0, 0)), .inl (.istore_n 2)]
theorem kc_L_argumentCount_15 : vm_chk m_L_argumentCount 15 k_L_argumentCount_15 = some 18 := by decide +kernel
def k_L_argumentCount_18 : List vm_I := [.inl (.iload_n 2), .inl (.aload_n 0), .inr (.inr (.inl (0, 181, 10, 4, 0)))]
theorem kc_L_argumentCount_18 : vm_chk m_L_argumentCount 18 k_L_argumentCount_18 = some 23 := by decide +kernel
theorem v_L_argumentCount_23 : vm_okV m_L_argumentCount m_T_size 23 64 0 (218, 219, 220, 43, 221) = true := by decide +kernel
theorem d_L_argumentCount_26 : vm_dec m_L_argumentCount 26 (.if_icmp .ge 23) 3 = true := by decide +kernel
def k_L_argumentCount_29 : List vm_I := [.inl (.aload_n 0), .inr (.inr (.inl (0, 181, 10, 4, 0))), .inl (.iload_n 2)]
theorem kc_L_argumentCount_29 : vm_chk m_L_argumentCount 29 k_L_argumentCount_29 = some 34 := by decide +kernel
theorem v_L_argumentCount_34 : vm_okV m_L_argumentCount m_T_byteAt 34 79 1 (245, 246, 247, 43, 248) = true := by decide +kernel
theorem d_L_argumentCount_37 : vm_dec m_L_argumentCount 37 (.ifCond .ne 6) 3 = true := by decide +kernel
def k_L_argumentCount_40 : List vm_I := [.inr (.inr (.inr (1, 1)))]
theorem kc_L_argumentCount_40 : vm_chk m_L_argumentCount 40 k_L_argumentCount_40 = some 43 := by decide +kernel
def k_L_argumentCount_43 : List vm_I := [.inr (.inr (.inr (2, 1)))]
theorem kc_L_argumentCount_43 : vm_chk m_L_argumentCount 43 k_L_argumentCount_43 = some 46 := by decide +kernel
theorem d_L_argumentCount_46 : vm_dec m_L_argumentCount 46 (.goto (-28)) 3 = true := by decide +kernel
def k_L_argumentCount_49 : List vm_I := [.inl (.iload_n 1)]
theorem kc_L_argumentCount_49 : vm_chk m_L_argumentCount 49 k_L_argumentCount_49 = some 50 := by decide +kernel
theorem d_L_argumentCount_50 : vm_dec m_L_argumentCount 50 .ireturn 1 = true := by decide +kernel
def k_L_layArguments_0 : List vm_I := [.inr (.inl (.int 16384, 0)), .inl (.aload_n 0)]
theorem kc_L_layArguments_0 : vm_chk m_L_layArguments 0 k_L_layArguments_0 = some 4 := by decide +kernel
theorem v_L_layArguments_4 : vm_okV m_L_layArguments m_L_argumentBytes 4 162 0 (501, 503, 20, 42, 504) = true := by decide +kernel
def k_L_layArguments_7 : List vm_I := [.inl .isub, .inl (.istore_n 2), .inl (.iload_n 1), .inr (.inl (.int 4, 0)), .inl .iadd, .inl (.istore_n 3), .inr (.inl (.int 1, 0)), .inl (.istore 4), .inl (.aload_n 0), .inr (.inr (.inl (0, 182, 30, 4, 1))), .inl (.iload_n 1), .inr (.inl (.int 4, 0)), .inl (.aload_n 0)]
theorem kc_L_layArguments_7 : vm_chk m_L_layArguments 7 k_L_layArguments_7 = some 23 := by decide +kernel
theorem v_L_layArguments_23 : vm_okV m_L_layArguments m_L_argumentCount 23 159 0 (493, 495, 19, 42, 496) = true := by decide +kernel
theorem v_L_layArguments_26 : vm_okV m_L_layArguments m_P_setNumber 26 129 3 (513, 448, 449, 44, 450) = true := by decide +kernel
def k_L_layArguments_29 : List vm_I := [.inr (.inl (.int 0, 0)), .inl (.istore 5)]
theorem kc_L_layArguments_29 : vm_chk m_L_layArguments 29 k_L_layArguments_29 = some 32 := by decide +kernel
def k_L_layArguments_32 : List vm_I := [.inl (.iload 5), .inl (.aload_n 0), .inr (.inr (.inl (0, 181, 10, 4, 0)))]
theorem kc_L_layArguments_32 : vm_chk m_L_layArguments 32 k_L_layArguments_32 = some 38 := by decide +kernel
theorem v_L_layArguments_38 : vm_okV m_L_layArguments m_T_size 38 64 0 (218, 219, 220, 43, 221) = true := by decide +kernel
theorem d_L_layArguments_41 : vm_dec m_L_layArguments 41 (.if_icmp .ge 69) 3 = true := by decide +kernel
def k_L_layArguments_44 : List vm_I := [.inl (.iload 4)]
theorem kc_L_layArguments_44 : vm_chk m_L_layArguments 44 k_L_layArguments_44 = some 46 := by decide +kernel
theorem d_L_layArguments_46 : vm_dec m_L_layArguments 46 (.ifCond .eq 19) 3 = true := by decide +kernel
def k_L_layArguments_49 : List vm_I := [.inl (.aload_n 0), .inr (.inr (.inl (0, 182, 30, 4, 1))), .inl (.iload_n 3), .inr (.inl (.int 4, 0)), .inl (.iload_n 2), .inl (.iload 5), .inl .iadd]
theorem kc_L_layArguments_49 : vm_chk m_L_layArguments 49 k_L_layArguments_49 = some 59 := by decide +kernel
theorem v_L_layArguments_59 : vm_okV m_L_layArguments m_P_setNumber 59 129 3 (513, 448, 449, 44, 450) = true := by decide +kernel
def k_L_layArguments_62 : List vm_I := [.inr (.inr (.inr (3, 4)))]
theorem kc_L_layArguments_62 : vm_chk m_L_layArguments 62 k_L_layArguments_62 = some 65 := by decide +kernel
def k_L_layArguments_65 : List vm_I := [.inl (.aload_n 0), .inr (.inr (.inl (0, 182, 30, 4, 1))), .inl (.iload_n 2), .inl (.iload 5), .inl .iadd, .inl (.aload_n 0), .inr (.inr (.inl (0, 181, 10, 4, 0))), .inl (.iload 5)]
theorem kc_L_layArguments_65 : vm_chk m_L_layArguments 65 k_L_layArguments_65 = some 79 := by decide +kernel
theorem v_L_layArguments_79 : vm_okV m_L_layArguments m_T_byteAt 79 79 1 (245, 246, 247, 43, 248) = true := by decide +kernel
theorem v_L_layArguments_82 : vm_okV m_L_layArguments m_P_setByte 82 172 2 (514, 413, 414, 44, 415) = true := by decide +kernel
def k_L_layArguments_85 : List vm_I := [.inl (.aload_n 0), .inr (.inr (.inl (0, 181, 10, 4, 0))), .inl (.iload 5)]
theorem kc_L_layArguments_85 : vm_chk m_L_layArguments 85 k_L_layArguments_85 = some 91 := by decide +kernel
theorem v_L_layArguments_91 : vm_okV m_L_layArguments m_T_byteAt 91 79 1 (245, 246, 247, 43, 248) = true := by decide +kernel
theorem d_L_layArguments_94 : vm_dec m_L_layArguments 94 (.ifCond .ne 7) 3 = true := by decide +kernel
def k_L_layArguments_97 : List vm_I := [.inr (.inl (.int 1, 0))]
theorem kc_L_layArguments_97 : vm_chk m_L_layArguments 97 k_L_layArguments_97 = some 98 := by decide +kernel
theorem d_L_layArguments_98 : vm_dec m_L_layArguments 98 (.goto 4) 3 = true := by decide +kernel
def k_L_layArguments_101 : List vm_I := [.inr (.inl (.int 0, 0))]
theorem kc_L_layArguments_101 : vm_chk m_L_layArguments 101 k_L_layArguments_101 = some 102 := by decide +kernel
def k_L_layArguments_102 : List vm_I := [.inl (.istore 4), .inr (.inr (.inr (5, 1)))]
theorem kc_L_layArguments_102 : vm_chk m_L_layArguments 102 k_L_layArguments_102 = some 107 := by decide +kernel
theorem d_L_layArguments_107 : vm_dec m_L_layArguments 107 (.goto (-75)) 3 = true := by decide +kernel
theorem d_L_layArguments_110 : vm_dec m_L_layArguments 110 .return_ 1 = true := by decide +kernel
def k_L_isSize_0 : List vm_I := [.inl (.iload_n 0), .inr (.inl (.int 1, 0))]
theorem kc_L_isSize_0 : vm_chk m_L_isSize 0 k_L_isSize_0 = some 2 := by decide +kernel
theorem d_L_isSize_2 : vm_dec m_L_isSize 2 (.if_icmp .eq 13) 3 = true := by decide +kernel
def k_L_isSize_5 : List vm_I := [.inl (.iload_n 0), .inr (.inl (.int 2, 0))]
theorem kc_L_isSize_5 : vm_chk m_L_isSize 5 k_L_isSize_5 = some 7 := by decide +kernel
theorem d_L_isSize_7 : vm_dec m_L_isSize 7 (.if_icmp .eq 8) 3 = true := by decide +kernel
def k_L_isSize_10 : List vm_I := [.inl (.iload_n 0), .inr (.inl (.int 4, 0))]
theorem kc_L_isSize_10 : vm_chk m_L_isSize 10 k_L_isSize_10 = some 12 := by decide +kernel
theorem d_L_isSize_12 : vm_dec m_L_isSize 12 (.if_icmp .ne 7) 3 = true := by decide +kernel
def k_L_isSize_15 : List vm_I := [.inr (.inl (.int 1, 0))]
theorem kc_L_isSize_15 : vm_chk m_L_isSize 15 k_L_isSize_15 = some 16 := by decide +kernel
theorem d_L_isSize_16 : vm_dec m_L_isSize 16 (.goto 4) 3 = true := by decide +kernel
def k_L_isSize_19 : List vm_I := [.inr (.inl (.int 0, 0))]
theorem kc_L_isSize_19 : vm_chk m_L_isSize 19 k_L_isSize_19 = some 20 := by decide +kernel
theorem d_L_isSize_20 : vm_dec m_L_isSize 20 .ireturn 1 = true := by decide +kernel
def k_L_isPage_0 : List vm_I := [.inl (.iload_n 0)]
theorem kc_L_isPage_0 : vm_chk m_L_isPage 0 k_L_isPage_0 = some 1 := by decide +kernel
theorem d_L_isPage_1 : vm_dec m_L_isPage 1 (.ifCond .lt 13) 3 = true := by decide +kernel
def k_L_isPage_4 : List vm_I := [.inl (.iload_n 0), .inr (.inl (.int 64, 0))]
theorem kc_L_isPage_4 : vm_chk m_L_isPage 4 k_L_isPage_4 = some 7 := by decide +kernel
theorem d_L_isPage_7 : vm_dec m_L_isPage 7 (.if_icmp .ge 7) 3 = true := by decide +kernel
def k_L_isPage_10 : List vm_I := [.inr (.inl (.int 1, 0))]
theorem kc_L_isPage_10 : vm_chk m_L_isPage 10 k_L_isPage_10 = some 11 := by decide +kernel
theorem d_L_isPage_11 : vm_dec m_L_isPage 11 (.goto 4) 3 = true := by decide +kernel
def k_L_isPage_14 : List vm_I := [.inr (.inl (.int 0, 0))]
theorem kc_L_isPage_14 : vm_chk m_L_isPage 14 k_L_isPage_14 = some 15 := by decide +kernel
theorem d_L_isPage_15 : vm_dec m_L_isPage 15 .ireturn 1 = true := by decide +kernel
def k_L_arePages_0 : List vm_I := [.inl (.iload_n 1)]
theorem kc_L_arePages_0 : vm_chk m_L_arePages 0 k_L_arePages_0 = some 1 := by decide +kernel
theorem d_L_arePages_1 : vm_dec m_L_arePages 1 (.ifCond .eq 25) 3 = true := by decide +kernel
def k_L_arePages_4 : List vm_I := [.inl (.iload_n 1)]
theorem kc_L_arePages_4 : vm_chk m_L_arePages 4 k_L_arePages_4 = some 5 := by decide +kernel
theorem d_L_arePages_5 : vm_dec m_L_arePages 5 (.ifCond .le 25) 3 = true := by decide +kernel
def k_L_arePages_8 : List vm_I := [.inl (.iload_n 1), .inr (.inl (.int 64, 0))]
theorem kc_L_arePages_8 : vm_chk m_L_arePages 8 k_L_arePages_8 = some 11 := by decide +kernel
theorem d_L_arePages_11 : vm_dec m_L_arePages 11 (.if_icmp .gt 19) 3 = true := by decide +kernel
def k_L_arePages_14 : List vm_I := [.inl (.iload_n 0)]
theorem kc_L_arePages_14 : vm_chk m_L_arePages 14 k_L_arePages_14 = some 15 := by decide +kernel
theorem d_L_arePages_15 : vm_dec m_L_arePages 15 (.ifCond .lt 15) 3 = true := by decide +kernel
def k_L_arePages_18 : List vm_I := [.inl (.iload_n 0), .inr (.inl (.int 64, 0)), .inl (.iload_n 1), .inl .isub]
theorem kc_L_arePages_18 : vm_chk m_L_arePages 18 k_L_arePages_18 = some 23 := by decide +kernel
theorem d_L_arePages_23 : vm_dec m_L_arePages 23 (.if_icmp .gt 7) 3 = true := by decide +kernel
def k_L_arePages_26 : List vm_I := [.inr (.inl (.int 1, 0))]
theorem kc_L_arePages_26 : vm_chk m_L_arePages 26 k_L_arePages_26 = some 27 := by decide +kernel
theorem d_L_arePages_27 : vm_dec m_L_arePages 27 (.goto 4) 3 = true := by decide +kernel
def k_L_arePages_30 : List vm_I := [.inr (.inl (.int 0, 0))]
theorem kc_L_arePages_30 : vm_chk m_L_arePages 30 k_L_arePages_30 = some 31 := by decide +kernel
theorem d_L_arePages_31 : vm_dec m_L_arePages 31 .ireturn 1 = true := by decide +kernel
def k_P_init_0 : List vm_I := [.inl (.aload_n 0)]
theorem kc_P_init_0 : vm_chk m_P_init 0 k_P_init_0 = some 1 := by decide +kernel
theorem d_P_init_1 : vm_dec m_P_init 1 (.invokespecial 3) 3 = true := by decide +kernel
def k_P_init_4 : List vm_I := [.inl (.aload_n 0), .inl (.iload_n 1), .inr (.inr (.inl (3, 86, 9, 2, 2))), .inl (.aload_n 0), .inr (.inl (.int 16384, 0))]
theorem kc_P_init_4 : vm_chk m_P_init 4 k_P_init_4 = some 13 := by decide +kernel
-- P_init_13 [13, 'newarray', 'byte', '']
def k_P_init_15 : List vm_I := [.inr (.inr (.inl (3, 84, 15, 2, 0))), .inl (.aload_n 0), .inr (.inl (.int 64, 0))]
theorem kc_P_init_15 : vm_chk m_P_init 15 k_P_init_15 = some 21 := by decide +kernel
-- P_init_21 [21, 'newarray', 'int', '']
def k_P_init_23 : List vm_I := [.inr (.inr (.inl (3, 85, 19, 2, 1))), .inr (.inl (.int 0, 0)), .inl (.istore_n 2)]
theorem kc_P_init_23 : vm_chk m_P_init 23 k_P_init_23 = some 28 := by decide +kernel
def k_P_init_28 : List vm_I := [.inl (.iload_n 2), .inr (.inl (.int 64, 0))]
theorem kc_P_init_28 : vm_chk m_P_init 28 k_P_init_28 = some 31 := by decide +kernel
theorem d_P_init_31 : vm_dec m_P_init 31 (.if_icmp .ge 16) 3 = true := by decide +kernel
def k_P_init_34 : List vm_I := [.inl (.aload_n 0), .inr (.inr (.inl (0, 85, 19, 2, 1))), .inl (.iload_n 2), .inr (.inl (.int (-1), 0)), .inl .iastore, .inr (.inr (.inr (2, 1)))]
theorem kc_P_init_34 : vm_chk m_P_init 34 k_P_init_34 = some 44 := by decide +kernel
theorem d_P_init_44 : vm_dec m_P_init 44 (.goto (-16)) 3 = true := by decide +kernel
def k_P_init_47 : List vm_I := [.inl (.aload_n 0), .inr (.inl (.int 0, 0)), .inr (.inr (.inl (1, 87, 23, 2, 3)))]
theorem kc_P_init_47 : vm_chk m_P_init 47 k_P_init_47 = some 52 := by decide +kernel
theorem d_P_init_52 : vm_dec m_P_init 52 .return_ 1 = true := by decide +kernel
def k_P_frames_0 : List vm_I := [.inl (.aload_n 0), .inr (.inr (.inl (0, 86, 9, 2, 2)))]
theorem kc_P_frames_0 : vm_chk m_P_frames 0 k_P_frames_0 = some 4 := by decide +kernel
theorem d_P_frames_4 : vm_dec m_P_frames 4 .ireturn 1 = true := by decide +kernel
def k_P_mappedPages_0 : List vm_I := [.inl (.aload_n 0), .inr (.inr (.inl (0, 87, 23, 2, 3)))]
theorem kc_P_mappedPages_0 : vm_chk m_P_mappedPages 0 k_P_mappedPages_0 = some 4 := by decide +kernel
theorem d_P_mappedPages_4 : vm_dec m_P_mappedPages 4 .ireturn 1 = true := by decide +kernel
def k_P_freeFrames_0 : List vm_I := [.inl (.aload_n 0), .inr (.inr (.inl (0, 86, 9, 2, 2))), .inl (.aload_n 0), .inr (.inr (.inl (0, 87, 23, 2, 3))), .inl .isub]
theorem kc_P_freeFrames_0 : vm_chk m_P_freeFrames 0 k_P_freeFrames_0 = some 9 := by decide +kernel
theorem d_P_freeFrames_9 : vm_dec m_P_freeFrames 9 .ireturn 1 = true := by decide +kernel
def k_P_rightsOf_0 : List vm_I := [.inl (.iload_n 1)]
theorem kc_P_rightsOf_0 : vm_chk m_P_rightsOf 0 k_P_rightsOf_0 = some 1 := by decide +kernel
theorem v_P_rightsOf_1 : vm_okN m_P_rightsOf m_L_isPage 1 26 1 (5, 340, 42, 341) = true := by decide +kernel
theorem d_P_rightsOf_4 : vm_dec m_P_rightsOf 4 (.ifCond .eq 12) 3 = true := by decide +kernel
def k_P_rightsOf_7 : List vm_I := [.inl (.aload_n 0), .inr (.inr (.inl (0, 85, 19, 2, 1))), .inl (.iload_n 1), .inl .iaload]
theorem kc_P_rightsOf_7 : vm_chk m_P_rightsOf 7 k_P_rightsOf_7 = some 13 := by decide +kernel
theorem d_P_rightsOf_13 : vm_dec m_P_rightsOf 13 (.goto 4) 3 = true := by decide +kernel
def k_P_rightsOf_16 : List vm_I := [.inr (.inl (.int (-1), 0))]
theorem kc_P_rightsOf_16 : vm_chk m_P_rightsOf 16 k_P_rightsOf_16 = some 17 := by decide +kernel
theorem d_P_rightsOf_17 : vm_dec m_P_rightsOf 17 .ireturn 1 = true := by decide +kernel
def k_P_setRights_0 : List vm_I := [.inl (.iload_n 1)]
theorem kc_P_setRights_0 : vm_chk m_P_setRights 0 k_P_setRights_0 = some 1 := by decide +kernel
theorem v_P_setRights_1 : vm_okN m_P_setRights m_L_isPage 1 26 1 (5, 340, 42, 341) = true := by decide +kernel
theorem d_P_setRights_4 : vm_dec m_P_setRights 4 (.ifCond .eq 10) 3 = true := by decide +kernel
def k_P_setRights_7 : List vm_I := [.inl (.aload_n 0), .inr (.inr (.inl (0, 85, 19, 2, 1))), .inl (.iload_n 1), .inl (.iload_n 2), .inl .iastore]
theorem kc_P_setRights_7 : vm_chk m_P_setRights 7 k_P_setRights_7 = some 14 := by decide +kernel
theorem d_P_setRights_14 : vm_dec m_P_setRights 14 .return_ 1 = true := by decide +kernel
def k_P_anyMapped_0 : List vm_I := [.inl (.iload_n 1), .inl (.istore_n 3)]
theorem kc_P_anyMapped_0 : vm_chk m_P_anyMapped 0 k_P_anyMapped_0 = some 2 := by decide +kernel
def k_P_anyMapped_2 : List vm_I := [.inl (.iload_n 3), .inl (.iload_n 2)]
theorem kc_P_anyMapped_2 : vm_chk m_P_anyMapped 2 k_P_anyMapped_2 = some 4 := by decide +kernel
theorem d_P_anyMapped_4 : vm_dec m_P_anyMapped 4 (.if_icmp .gt 20) 3 = true := by decide +kernel
def k_P_anyMapped_7 : List vm_I := [.inl (.aload_n 0), .inl (.iload_n 3)]
theorem kc_P_anyMapped_7 : vm_chk m_P_anyMapped 7 k_P_anyMapped_7 = some 9 := by decide +kernel
theorem v_P_anyMapped_9 : vm_okV m_P_anyMapped m_P_rightsOf 9 30 1 (335, 336, 337, 44, 338) = true := by decide +kernel
def k_P_anyMapped_12 : List vm_I := [.inr (.inl (.int (-1), 0))]
theorem kc_P_anyMapped_12 : vm_chk m_P_anyMapped 12 k_P_anyMapped_12 = some 13 := by decide +kernel
theorem d_P_anyMapped_13 : vm_dec m_P_anyMapped 13 (.if_icmp .eq 5) 3 = true := by decide +kernel
def k_P_anyMapped_16 : List vm_I := [.inr (.inl (.int 1, 0))]
theorem kc_P_anyMapped_16 : vm_chk m_P_anyMapped 16 k_P_anyMapped_16 = some 17 := by decide +kernel
theorem d_P_anyMapped_17 : vm_dec m_P_anyMapped 17 .ireturn 1 = true := by decide +kernel
def k_P_anyMapped_18 : List vm_I := [.inr (.inr (.inr (3, 1)))]
theorem kc_P_anyMapped_18 : vm_chk m_P_anyMapped 18 k_P_anyMapped_18 = some 21 := by decide +kernel
theorem d_P_anyMapped_21 : vm_dec m_P_anyMapped 21 (.goto (-19)) 3 = true := by decide +kernel
def k_P_anyMapped_24 : List vm_I := [.inr (.inl (.int 0, 0))]
theorem kc_P_anyMapped_24 : vm_chk m_P_anyMapped 24 k_P_anyMapped_24 = some 25 := by decide +kernel
theorem d_P_anyMapped_25 : vm_dec m_P_anyMapped 25 .ireturn 1 = true := by decide +kernel
def k_P_pagesWith_0 : List vm_I := [.inr (.inl (.int 0, 0)), .inl (.istore_n 2), .inr (.inl (.int 0, 0)), .inl (.istore_n 3)]
theorem kc_P_pagesWith_0 : vm_chk m_P_pagesWith 0 k_P_pagesWith_0 = some 4 := by decide +kernel
def k_P_pagesWith_4 : List vm_I := [.inl (.iload_n 3), .inr (.inl (.int 64, 0))]
theorem kc_P_pagesWith_4 : vm_chk m_P_pagesWith 4 k_P_pagesWith_4 = some 7 := by decide +kernel
theorem d_P_pagesWith_7 : vm_dec m_P_pagesWith 7 (.if_icmp .ge 32) 3 = true := by decide +kernel
def k_P_pagesWith_10 : List vm_I := [.inl (.aload_n 0), .inl (.iload_n 3)]
theorem kc_P_pagesWith_10 : vm_chk m_P_pagesWith 10 k_P_pagesWith_10 = some 12 := by decide +kernel
theorem v_P_pagesWith_12 : vm_okV m_P_pagesWith m_P_rightsOf 12 30 1 (335, 336, 337, 44, 338) = true := by decide +kernel
def k_P_pagesWith_15 : List vm_I := [.inl (.istore 4), .inl (.iload 4), .inr (.inl (.int (-1), 0))]
theorem kc_P_pagesWith_15 : vm_chk m_P_pagesWith 15 k_P_pagesWith_15 = some 20 := by decide +kernel
theorem d_P_pagesWith_20 : vm_dec m_P_pagesWith 20 (.if_icmp .eq 13) 3 = true := by decide +kernel
def k_P_pagesWith_23 : List vm_I := [.inl (.iload 4), .inl (.iload_n 1), .inl .iand]
theorem kc_P_pagesWith_23 : vm_chk m_P_pagesWith 23 k_P_pagesWith_23 = some 27 := by decide +kernel
theorem d_P_pagesWith_27 : vm_dec m_P_pagesWith 27 (.ifCond .eq 6) 3 = true := by decide +kernel
def k_P_pagesWith_30 : List vm_I := [.inr (.inr (.inr (2, 1)))]
theorem kc_P_pagesWith_30 : vm_chk m_P_pagesWith 30 k_P_pagesWith_30 = some 33 := by decide +kernel
def k_P_pagesWith_33 : List vm_I := [.inr (.inr (.inr (3, 1)))]
theorem kc_P_pagesWith_33 : vm_chk m_P_pagesWith 33 k_P_pagesWith_33 = some 36 := by decide +kernel
theorem d_P_pagesWith_36 : vm_dec m_P_pagesWith 36 (.goto (-32)) 3 = true := by decide +kernel
def k_P_pagesWith_39 : List vm_I := [.inl (.iload_n 2)]
theorem kc_P_pagesWith_39 : vm_chk m_P_pagesWith 39 k_P_pagesWith_39 = some 40 := by decide +kernel
theorem d_P_pagesWith_40 : vm_dec m_P_pagesWith 40 .ireturn 1 = true := by decide +kernel
def k_P_mapAll_0 : List vm_I := [.inl (.iload_n 1), .inl (.istore 4)]
theorem kc_P_mapAll_0 : vm_chk m_P_mapAll 0 k_P_mapAll_0 = some 3 := by decide +kernel
def k_P_mapAll_3 : List vm_I := [.inl (.iload 4), .inl (.iload_n 2)]
theorem kc_P_mapAll_3 : vm_chk m_P_mapAll 3 k_P_mapAll_3 = some 6 := by decide +kernel
theorem d_P_mapAll_6 : vm_dec m_P_mapAll 6 (.if_icmp .gt 50) 3 = true := by decide +kernel
def k_P_mapAll_9 : List vm_I := [.inl (.iload 4)]
theorem kc_P_mapAll_9 : vm_chk m_P_mapAll 9 k_P_mapAll_9 = some 11 := by decide +kernel
theorem v_P_mapAll_11 : vm_okN m_P_mapAll m_L_isPage 11 26 1 (5, 340, 42, 341) = true := by decide +kernel
theorem d_P_mapAll_14 : vm_dec m_P_mapAll 14 (.ifCond .eq 36) 3 = true := by decide +kernel
def k_P_mapAll_17 : List vm_I := [.inl (.aload_n 0), .inl (.iload 4)]
theorem kc_P_mapAll_17 : vm_chk m_P_mapAll 17 k_P_mapAll_17 = some 20 := by decide +kernel
theorem v_P_mapAll_20 : vm_okV m_P_mapAll m_P_rightsOf 20 30 1 (335, 336, 337, 44, 338) = true := by decide +kernel
def k_P_mapAll_23 : List vm_I := [.inr (.inl (.int (-1), 0))]
theorem kc_P_mapAll_23 : vm_chk m_P_mapAll 23 k_P_mapAll_23 = some 24 := by decide +kernel
theorem d_P_mapAll_24 : vm_dec m_P_mapAll 24 (.if_icmp .ne 26) 3 = true := by decide +kernel
def k_P_mapAll_27 : List vm_I := [.inl (.aload_n 0), .inl (.iload 4), .inl (.iload_n 3)]
theorem kc_P_mapAll_27 : vm_chk m_P_mapAll 27 k_P_mapAll_27 = some 31 := by decide +kernel
theorem v_P_mapAll_31 : vm_okV m_P_mapAll m_P_setRights 31 34 2 (404, 405, 406, 44, 407) = true := by decide +kernel
def k_P_mapAll_34 : List vm_I := [.inl (.aload_n 0), .inl .dup, .inr (.inr (.inl (0, 87, 23, 2, 3))), .inr (.inl (.int 1, 0)), .inl .iadd, .inr (.inr (.inl (1, 87, 23, 2, 3))), .inl (.aload_n 0), .inl (.iload 4)]
theorem kc_P_mapAll_34 : vm_chk m_P_mapAll 34 k_P_mapAll_34 = some 47 := by decide +kernel
theorem v_P_mapAll_47 : vm_okV m_P_mapAll m_P_clear 47 38 1 (408, 410, 12, 44, 411) = true := by decide +kernel
def k_P_mapAll_50 : List vm_I := [.inr (.inr (.inr (4, 1)))]
theorem kc_P_mapAll_50 : vm_chk m_P_mapAll 50 k_P_mapAll_50 = some 53 := by decide +kernel
theorem d_P_mapAll_53 : vm_dec m_P_mapAll 53 (.goto (-50)) 3 = true := by decide +kernel
theorem d_P_mapAll_56 : vm_dec m_P_mapAll 56 .return_ 1 = true := by decide +kernel
def k_P_clear_0 : List vm_I := [.inr (.inl (.int 0, 0)), .inl (.istore_n 2)]
theorem kc_P_clear_0 : vm_chk m_P_clear 0 k_P_clear_0 = some 2 := by decide +kernel
def k_P_clear_2 : List vm_I := [.inl (.iload_n 2), .inr (.inl (.int 256, 0))]
theorem kc_P_clear_2 : vm_chk m_P_clear 2 k_P_clear_2 = some 6 := by decide +kernel
theorem d_P_clear_6 : vm_dec m_P_clear 6 (.if_icmp .ge 21) 3 = true := by decide +kernel
def k_P_clear_9 : List vm_I := [.inl (.aload_n 0), .inl (.iload_n 1), .inr (.inl (.int 256, 0)), .inl .imul, .inl (.iload_n 2), .inl .iadd, .inr (.inl (.int 0, 0))]
theorem kc_P_clear_9 : vm_chk m_P_clear 9 k_P_clear_9 = some 18 := by decide +kernel
theorem v_P_clear_18 : vm_okV m_P_clear m_P_setByte 18 42 2 (412, 413, 414, 44, 415) = true := by decide +kernel
def k_P_clear_21 : List vm_I := [.inr (.inr (.inr (2, 1)))]
theorem kc_P_clear_21 : vm_chk m_P_clear 21 k_P_clear_21 = some 24 := by decide +kernel
theorem d_P_clear_24 : vm_dec m_P_clear 24 (.goto (-22)) 3 = true := by decide +kernel
theorem d_P_clear_27 : vm_dec m_P_clear 27 .return_ 1 = true := by decide +kernel
def k_P_releaseAll_0 : List vm_I := [.inl (.iload_n 1), .inl (.istore_n 3)]
theorem kc_P_releaseAll_0 : vm_chk m_P_releaseAll 0 k_P_releaseAll_0 = some 2 := by decide +kernel
def k_P_releaseAll_2 : List vm_I := [.inl (.iload_n 3), .inl (.iload_n 2)]
theorem kc_P_releaseAll_2 : vm_chk m_P_releaseAll 2 k_P_releaseAll_2 = some 4 := by decide +kernel
theorem d_P_releaseAll_4 : vm_dec m_P_releaseAll 4 (.if_icmp .gt 34) 3 = true := by decide +kernel
def k_P_releaseAll_7 : List vm_I := [.inl (.aload_n 0), .inl (.iload_n 3)]
theorem kc_P_releaseAll_7 : vm_chk m_P_releaseAll 7 k_P_releaseAll_7 = some 9 := by decide +kernel
theorem v_P_releaseAll_9 : vm_okV m_P_releaseAll m_P_rightsOf 9 30 1 (335, 336, 337, 44, 338) = true := by decide +kernel
def k_P_releaseAll_12 : List vm_I := [.inr (.inl (.int (-1), 0))]
theorem kc_P_releaseAll_12 : vm_chk m_P_releaseAll 12 k_P_releaseAll_12 = some 13 := by decide +kernel
theorem d_P_releaseAll_13 : vm_dec m_P_releaseAll 13 (.if_icmp .eq 19) 3 = true := by decide +kernel
def k_P_releaseAll_16 : List vm_I := [.inl (.aload_n 0), .inl (.iload_n 3), .inr (.inl (.int (-1), 0))]
theorem kc_P_releaseAll_16 : vm_chk m_P_releaseAll 16 k_P_releaseAll_16 = some 19 := by decide +kernel
theorem v_P_releaseAll_19 : vm_okV m_P_releaseAll m_P_setRights 19 34 2 (404, 405, 406, 44, 407) = true := by decide +kernel
def k_P_releaseAll_22 : List vm_I := [.inl (.aload_n 0), .inl .dup, .inr (.inr (.inl (0, 87, 23, 2, 3))), .inr (.inl (.int 1, 0)), .inl .isub, .inr (.inr (.inl (1, 87, 23, 2, 3)))]
theorem kc_P_releaseAll_22 : vm_chk m_P_releaseAll 22 k_P_releaseAll_22 = some 32 := by decide +kernel
def k_P_releaseAll_32 : List vm_I := [.inr (.inr (.inr (3, 1)))]
theorem kc_P_releaseAll_32 : vm_chk m_P_releaseAll 32 k_P_releaseAll_32 = some 35 := by decide +kernel
theorem d_P_releaseAll_35 : vm_dec m_P_releaseAll 35 (.goto (-33)) 3 = true := by decide +kernel
theorem d_P_releaseAll_38 : vm_dec m_P_releaseAll 38 .return_ 1 = true := by decide +kernel
def k_P_refusal_0 : List vm_I := [.inl (.iload_n 2)]
theorem kc_P_refusal_0 : vm_chk m_P_refusal 0 k_P_refusal_0 = some 1 := by decide +kernel
theorem v_P_refusal_1 : vm_okN m_P_refusal m_L_isSize 1 45 1 (6, 231, 42, 232) = true := by decide +kernel
theorem d_P_refusal_4 : vm_dec m_P_refusal 4 (.ifCond .ne 6) 3 = true := by decide +kernel
def k_P_refusal_7 : List vm_I := [.inr (.inl (.int (-4), 0))]
theorem kc_P_refusal_7 : vm_chk m_P_refusal 7 k_P_refusal_7 = some 9 := by decide +kernel
theorem d_P_refusal_9 : vm_dec m_P_refusal 9 .ireturn 1 = true := by decide +kernel
def k_P_refusal_10 : List vm_I := [.inl (.iload_n 1), .inl (.iload_n 2), .inr (.inl (.int 1, 0)), .inl .isub, .inl .iand]
theorem kc_P_refusal_10 : vm_chk m_P_refusal 10 k_P_refusal_10 = some 15 := by decide +kernel
theorem d_P_refusal_15 : vm_dec m_P_refusal 15 (.ifCond .eq 6) 3 = true := by decide +kernel
def k_P_refusal_18 : List vm_I := [.inr (.inl (.int (-3), 0))]
theorem kc_P_refusal_18 : vm_chk m_P_refusal 18 k_P_refusal_18 = some 20 := by decide +kernel
theorem d_P_refusal_20 : vm_dec m_P_refusal 20 .ireturn 1 = true := by decide +kernel
def k_P_refusal_21 : List vm_I := [.inl (.aload_n 0), .inl (.iload_n 1), .inr (.inl (.int 256, 0))]
theorem kc_P_refusal_21 : vm_chk m_P_refusal 21 k_P_refusal_21 = some 26 := by decide +kernel
theorem v_P_refusal_26 : vm_okS m_P_refusal m_J_floorDiv 26 48 2 (524, 525, 45, 526) = true := by decide +kernel
theorem v_P_refusal_29 : vm_okV m_P_refusal m_P_rightsOf 29 30 1 (335, 336, 337, 44, 338) = true := by decide +kernel
def k_P_refusal_32 : List vm_I := [.inl (.istore 4), .inl (.iload 4), .inr (.inl (.int (-1), 0))]
theorem kc_P_refusal_32 : vm_chk m_P_refusal 32 k_P_refusal_32 = some 37 := by decide +kernel
theorem d_P_refusal_37 : vm_dec m_P_refusal 37 (.if_icmp .ne 5) 3 = true := by decide +kernel
def k_P_refusal_40 : List vm_I := [.inr (.inl (.int (-1), 0))]
theorem kc_P_refusal_40 : vm_chk m_P_refusal 40 k_P_refusal_40 = some 41 := by decide +kernel
theorem d_P_refusal_41 : vm_dec m_P_refusal 41 .ireturn 1 = true := by decide +kernel
def k_P_refusal_42 : List vm_I := [.inl (.iload 4), .inl (.iload_n 3), .inl .iand]
theorem kc_P_refusal_42 : vm_chk m_P_refusal 42 k_P_refusal_42 = some 46 := by decide +kernel
theorem d_P_refusal_46 : vm_dec m_P_refusal 46 (.ifCond .eq 7) 3 = true := by decide +kernel
def k_P_refusal_49 : List vm_I := [.inr (.inl (.int 0, 0))]
theorem kc_P_refusal_49 : vm_chk m_P_refusal 49 k_P_refusal_49 = some 50 := by decide +kernel
theorem d_P_refusal_50 : vm_dec m_P_refusal 50 (.goto 5) 3 = true := by decide +kernel
def k_P_refusal_53 : List vm_I := [.inr (.inl (.int (-2), 0))]
theorem kc_P_refusal_53 : vm_chk m_P_refusal 53 k_P_refusal_53 = some 55 := by decide +kernel
theorem d_P_refusal_55 : vm_dec m_P_refusal 55 .ireturn 1 = true := by decide +kernel
def k_P_byteAt_0 : List vm_I := [.inl (.iload_n 1)]
theorem kc_P_byteAt_0 : vm_chk m_P_byteAt 0 k_P_byteAt_0 = some 1 := by decide +kernel
theorem d_P_byteAt_1 : vm_dec m_P_byteAt 1 (.ifCond .lt 25) 3 = true := by decide +kernel
def k_P_byteAt_4 : List vm_I := [.inl (.iload_n 1), .inl (.aload_n 0), .inr (.inr (.inl (0, 84, 15, 2, 0))), .inl .arraylength]
theorem kc_P_byteAt_4 : vm_chk m_P_byteAt 4 k_P_byteAt_4 = some 10 := by decide +kernel
theorem d_P_byteAt_10 : vm_dec m_P_byteAt 10 (.if_icmp .ge 16) 3 = true := by decide +kernel
def k_P_byteAt_13 : List vm_I := [.inl (.aload_n 0), .inr (.inr (.inl (0, 84, 15, 2, 0))), .inl (.iload_n 1), .inl .baload, .inr (.inl (.int 255, 0)), .inl .iand]
theorem kc_P_byteAt_13 : vm_chk m_P_byteAt 13 k_P_byteAt_13 = some 23 := by decide +kernel
theorem d_P_byteAt_23 : vm_dec m_P_byteAt 23 (.goto 4) 3 = true := by decide +kernel
def k_P_byteAt_26 : List vm_I := [.inr (.inl (.int 0, 0))]
theorem kc_P_byteAt_26 : vm_chk m_P_byteAt 26 k_P_byteAt_26 = some 27 := by decide +kernel
theorem d_P_byteAt_27 : vm_dec m_P_byteAt 27 .ireturn 1 = true := by decide +kernel
def k_P_setByte_0 : List vm_I := [.inl (.iload_n 1)]
theorem kc_P_setByte_0 : vm_chk m_P_setByte 0 k_P_setByte_0 = some 1 := by decide +kernel
theorem d_P_setByte_1 : vm_dec m_P_setByte 1 (.ifCond .lt 20) 3 = true := by decide +kernel
def k_P_setByte_4 : List vm_I := [.inl (.iload_n 1), .inl (.aload_n 0), .inr (.inr (.inl (0, 84, 15, 2, 0))), .inl .arraylength]
theorem kc_P_setByte_4 : vm_chk m_P_setByte 4 k_P_setByte_4 = some 10 := by decide +kernel
theorem d_P_setByte_10 : vm_dec m_P_setByte 10 (.if_icmp .ge 11) 3 = true := by decide +kernel
def k_P_setByte_13 : List vm_I := [.inl (.aload_n 0), .inr (.inr (.inl (0, 84, 15, 2, 0))), .inl (.iload_n 1), .inl (.iload_n 2), .inl .i2b, .inl .bastore]
theorem kc_P_setByte_13 : vm_chk m_P_setByte 13 k_P_setByte_13 = some 21 := by decide +kernel
theorem d_P_setByte_21 : vm_dec m_P_setByte 21 .return_ 1 = true := by decide +kernel
def k_P_number_0 : List vm_I := [.inr (.inl (.long 0, 0)), .inl (.lstore_n 3), .inr (.inl (.int 0, 0)), .inl (.istore 5)]
theorem kc_P_number_0 : vm_chk m_P_number 0 k_P_number_0 = some 5 := by decide +kernel
def k_P_number_5 : List vm_I := [.inl (.iload 5), .inl (.iload_n 2)]
theorem kc_P_number_5 : vm_chk m_P_number 5 k_P_number_5 = some 8 := by decide +kernel
theorem d_P_number_8 : vm_dec m_P_number 8 (.if_icmp .ge 27) 3 = true := by decide +kernel
def k_P_number_11 : List vm_I := [.inl (.lload_n 3), .inl (.aload_n 0), .inl (.iload_n 1), .inl (.iload 5), .inl .iadd]
theorem kc_P_number_11 : vm_chk m_P_number 11 k_P_number_11 = some 17 := by decide +kernel
theorem v_P_number_17 : vm_okV m_P_number m_P_byteAt 17 54 1 (438, 439, 440, 44, 441) = true := by decide +kernel
def k_P_number_20 : List vm_I := [.inl .i2l, .inr (.inl (.int 8, 0)), .inl (.iload 5), .inl .imul, .inl .lshl, .inl .lor, .inl (.lstore_n 3), .inr (.inr (.inr (5, 1)))]
theorem kc_P_number_20 : vm_chk m_P_number 20 k_P_number_20 = some 32 := by decide +kernel
theorem d_P_number_32 : vm_dec m_P_number 32 (.goto (-27)) 3 = true := by decide +kernel
def k_P_number_35 : List vm_I := [.inl (.lload_n 3)]
theorem kc_P_number_35 : vm_chk m_P_number 35 k_P_number_35 = some 36 := by decide +kernel
theorem d_P_number_36 : vm_dec m_P_number 36 .lreturn 1 = true := by decide +kernel
def k_P_setNumber_0 : List vm_I := [.inr (.inl (.int 0, 0)), .inl (.istore 4)]
theorem kc_P_setNumber_0 : vm_chk m_P_setNumber 0 k_P_setNumber_0 = some 3 := by decide +kernel
def k_P_setNumber_3 : List vm_I := [.inl (.iload 4), .inl (.iload_n 2)]
theorem kc_P_setNumber_3 : vm_chk m_P_setNumber 3 k_P_setNumber_3 = some 6 := by decide +kernel
theorem d_P_setNumber_6 : vm_dec m_P_setNumber 6 (.if_icmp .ge 24) 3 = true := by decide +kernel
def k_P_setNumber_9 : List vm_I := [.inl (.aload_n 0), .inl (.iload_n 1), .inl (.iload 4), .inl .iadd, .inl (.iload_n 3), .inr (.inl (.int 8, 0)), .inl (.iload 4), .inl .imul, .inl .iushr]
theorem kc_P_setNumber_9 : vm_chk m_P_setNumber 9 k_P_setNumber_9 = some 21 := by decide +kernel
theorem v_P_setNumber_21 : vm_okV m_P_setNumber m_P_setByte 21 42 2 (412, 413, 414, 44, 415) = true := by decide +kernel
def k_P_setNumber_24 : List vm_I := [.inr (.inr (.inr (4, 1)))]
theorem kc_P_setNumber_24 : vm_chk m_P_setNumber 24 k_P_setNumber_24 = some 27 := by decide +kernel
theorem d_P_setNumber_27 : vm_dec m_P_setNumber 27 (.goto (-24)) 3 = true := by decide +kernel
theorem d_P_setNumber_30 : vm_dec m_P_setNumber 30 .return_ 1 = true := by decide +kernel
def k_P_sumOn_0 : List vm_I := [.inl (.aload_n 0), .inl (.iload_n 2)]
theorem kc_P_sumOn_0 : vm_chk m_P_sumOn 0 k_P_sumOn_0 = some 2 := by decide +kernel
theorem v_P_sumOn_2 : vm_okV m_P_sumOn m_P_rightsOf 2 30 1 (335, 336, 337, 44, 338) = true := by decide +kernel
def k_P_sumOn_5 : List vm_I := [.inr (.inl (.int (-1), 0))]
theorem kc_P_sumOn_5 : vm_chk m_P_sumOn 5 k_P_sumOn_5 = some 6 := by decide +kernel
theorem d_P_sumOn_6 : vm_dec m_P_sumOn 6 (.if_icmp .eq 7) 3 = true := by decide +kernel
def k_P_sumOn_9 : List vm_I := [.inr (.inl (.int 1, 0))]
theorem kc_P_sumOn_9 : vm_chk m_P_sumOn 9 k_P_sumOn_9 = some 10 := by decide +kernel
theorem d_P_sumOn_10 : vm_dec m_P_sumOn 10 (.goto 4) 3 = true := by decide +kernel
def k_P_sumOn_13 : List vm_I := [.inr (.inl (.int 0, 0))]
theorem kc_P_sumOn_13 : vm_chk m_P_sumOn 13 k_P_sumOn_13 = some 14 := by decide +kernel
def k_P_sumOn_14 : List vm_I := [.inl (.istore_n 3), .inl (.iload_n 1), .inl (.istore 4), .inr (.inl (.int 0, 0)), .inl (.istore 5)]
theorem kc_P_sumOn_14 : vm_chk m_P_sumOn 14 k_P_sumOn_14 = some 21 := by decide +kernel
def k_P_sumOn_21 : List vm_I := [.inl (.iload 5), .inr (.inl (.int 256, 0))]
theorem kc_P_sumOn_21 : vm_chk m_P_sumOn 21 k_P_sumOn_21 = some 26 := by decide +kernel
theorem d_P_sumOn_26 : vm_dec m_P_sumOn 26 (.if_icmp .ge 39) 3 = true := by decide +kernel
def k_P_sumOn_29 : List vm_I := [.inr (.inl (.int 31, 0)), .inl (.iload 4), .inl .imul, .inl (.iload_n 3)]
theorem kc_P_sumOn_29 : vm_chk m_P_sumOn 29 k_P_sumOn_29 = some 35 := by decide +kernel
theorem d_P_sumOn_35 : vm_dec m_P_sumOn 35 (.ifCond .eq 18) 3 = true := by decide +kernel
def k_P_sumOn_38 : List vm_I := [.inl (.aload_n 0), .inl (.iload_n 2), .inr (.inl (.int 256, 0)), .inl .imul, .inl (.iload 5), .inl .iadd]
theorem kc_P_sumOn_38 : vm_chk m_P_sumOn 38 k_P_sumOn_38 = some 47 := by decide +kernel
theorem v_P_sumOn_47 : vm_okV m_P_sumOn m_P_byteAt 47 54 1 (438, 439, 440, 44, 441) = true := by decide +kernel
theorem d_P_sumOn_50 : vm_dec m_P_sumOn 50 (.goto 6) 3 = true := by decide +kernel
def k_P_sumOn_53 : List vm_I := [.inr (.inl (.int 1000, 0))]
theorem kc_P_sumOn_53 : vm_chk m_P_sumOn 53 k_P_sumOn_53 = some 56 := by decide +kernel
def k_P_sumOn_56 : List vm_I := [.inl .iadd, .inl (.istore 4), .inr (.inr (.inr (5, 1)))]
theorem kc_P_sumOn_56 : vm_chk m_P_sumOn 56 k_P_sumOn_56 = some 62 := by decide +kernel
theorem d_P_sumOn_62 : vm_dec m_P_sumOn 62 (.goto (-41)) 3 = true := by decide +kernel
def k_P_sumOn_65 : List vm_I := [.inl (.iload 4)]
theorem kc_P_sumOn_65 : vm_chk m_P_sumOn 65 k_P_sumOn_65 = some 67 := by decide +kernel
theorem d_P_sumOn_67 : vm_dec m_P_sumOn 67 .ireturn 1 = true := by decide +kernel
end
section
def k_I_init_0 : List vm_I := [.inl (.aload_n 0)]
theorem kc_I_init_0 : vm_chk m_I_init 0 k_I_init_0 = some 1 := by decide +kernel
theorem d_I_init_1 : vm_dec m_I_init 1 (.invokespecial 3) 3 = true := by decide +kernel
def k_I_init_4 : List vm_I := [.inl (.aload_n 0), .inr (.inl (.int 8, 0))]
theorem kc_I_init_4 : vm_chk m_I_init 4 k_I_init_4 = some 7 := by decide +kernel
-- I_init_7 [7, 'anewarray', '#11', 'class ImageLoader$Segment']
def k_I_init_10 : List vm_I := [.inr (.inr (.inl (3, 141, 13, 0, 0))), .inr (.inl (.int 0, 0)), .inl (.istore_n 1)]
theorem kc_I_init_10 : vm_chk m_I_init 10 k_I_init_10 = some 15 := by decide +kernel
def k_I_init_15 : List vm_I := [.inl (.iload_n 1), .inr (.inl (.int 8, 0))]
theorem kc_I_init_15 : vm_chk m_I_init 15 k_I_init_15 = some 18 := by decide +kernel
theorem d_I_init_18 : vm_dec m_I_init 18 (.if_icmp .ge 22) 3 = true := by decide +kernel
def k_I_init_21 : List vm_I := [.inl (.aload_n 0), .inr (.inr (.inl (0, 141, 13, 0, 0))), .inl (.iload_n 1)]
theorem kc_I_init_21 : vm_chk m_I_init 21 k_I_init_21 = some 26 := by decide +kernel
-- I_init_26 [26, 'new', '#11', 'class ImageLoader$Segment']
def k_I_init_29 : List vm_I := [.inl .dup]
theorem kc_I_init_29 : vm_chk m_I_init 29 k_I_init_29 = some 30 := by decide +kernel
-- theorem v_I_init_30 : vm_okIN m_I_init m_S_init 30 17 0 (0, 108, 47, 109) = true := by decide +kernel
theorem d_I_init_33 : vm_dec m_I_init 33 .aastore 1 = true := by decide +kernel
def k_I_init_34 : List vm_I := [.inr (.inr (.inr (1, 1)))]
theorem kc_I_init_34 : vm_chk m_I_init 34 k_I_init_34 = some 37 := by decide +kernel
theorem d_I_init_37 : vm_dec m_I_init 37 (.goto (-22)) 3 = true := by decide +kernel
def k_I_init_40 : List vm_I := [.inl (.aload_n 0)]
theorem kc_I_init_40 : vm_chk m_I_init 40 k_I_init_40 = some 41 := by decide +kernel
theorem v_I_init_41 : vm_okV m_I_init m_I_forget 41 18 0 (137, 139, 0, 46, 140) = true := by decide +kernel
theorem d_I_init_44 : vm_dec m_I_init 44 .return_ 1 = true := by decide +kernel
def k_I_faultPlace_0 : List vm_I := [.inl (.aload_n 0), .inr (.inr (.inl (0, 143, 21, 0, 2)))]
theorem kc_I_faultPlace_0 : vm_chk m_I_faultPlace 0 k_I_faultPlace_0 = some 4 := by decide +kernel
theorem d_I_faultPlace_4 : vm_dec m_I_faultPlace 4 .ireturn 1 = true := by decide +kernel
def k_I_base_0 : List vm_I := [.inl (.aload_n 0), .inr (.inr (.inl (0, 144, 25, 0, 3)))]
theorem kc_I_base_0 : vm_chk m_I_base 0 k_I_base_0 = some 4 := by decide +kernel
theorem d_I_base_4 : vm_dec m_I_base 4 .ireturn 1 = true := by decide +kernel
def k_I_entry_0 : List vm_I := [.inl (.aload_n 0), .inr (.inr (.inl (0, 145, 28, 0, 4)))]
theorem kc_I_entry_0 : vm_chk m_I_entry 0 k_I_entry_0 = some 4 := by decide +kernel
theorem d_I_entry_4 : vm_dec m_I_entry 4 .ireturn 1 = true := by decide +kernel
def k_I_pagesWanted_0 : List vm_I := [.inl (.aload_n 0), .inr (.inr (.inl (0, 146, 31, 0, 5)))]
theorem kc_I_pagesWanted_0 : vm_chk m_I_pagesWanted 0 k_I_pagesWanted_0 = some 4 := by decide +kernel
theorem d_I_pagesWanted_4 : vm_dec m_I_pagesWanted 4 .ireturn 1 = true := by decide +kernel
def k_I_relocationCount_0 : List vm_I := [.inl (.aload_n 0), .inr (.inr (.inl (0, 153, 34, 0, 12)))]
theorem kc_I_relocationCount_0 : vm_chk m_I_relocationCount 0 k_I_relocationCount_0 = some 4 := by decide +kernel
theorem d_I_relocationCount_4 : vm_dec m_I_relocationCount 4 .ireturn 1 = true := by decide +kernel
def k_I_bring_0 : List vm_I := [.inl (.aload_n 0)]
theorem kc_I_bring_0 : vm_chk m_I_bring 0 k_I_bring_0 = some 1 := by decide +kernel
theorem v_I_bring_1 : vm_okV m_I_bring m_I_forget 1 18 0 (137, 139, 0, 46, 140) = true := by decide +kernel
def k_I_bring_4 : List vm_I := [.inl (.aload_n 0), .inl (.aload_n 1)]
theorem kc_I_bring_4 : vm_chk m_I_bring 4 k_I_bring_4 = some 6 := by decide +kernel
theorem v_I_bring_6 : vm_okV m_I_bring m_I_headerFault 6 37 1 (265, 267, 1, 46, 268) = true := by decide +kernel
def k_I_bring_9 : List vm_I := [.inl (.istore 4), .inl (.iload 4)]
theorem kc_I_bring_9 : vm_chk m_I_bring 9 k_I_bring_9 = some 13 := by decide +kernel
theorem d_I_bring_13 : vm_dec m_I_bring 13 (.ifCond .eq 6) 3 = true := by decide +kernel
def k_I_bring_16 : List vm_I := [.inl (.iload 4)]
theorem kc_I_bring_16 : vm_chk m_I_bring 16 k_I_bring_16 = some 18 := by decide +kernel
theorem d_I_bring_18 : vm_dec m_I_bring 18 .ireturn 1 = true := by decide +kernel
def k_I_bring_19 : List vm_I := [.inl (.aload_n 0), .inl (.aload_n 1), .inr (.inl (.int 16, 0))]
theorem kc_I_bring_19 : vm_chk m_I_bring 19 k_I_bring_19 = some 23 := by decide +kernel
theorem v_I_bring_23 : vm_okV m_I_bring m_T_half 23 41 1 (277, 278, 279, 43, 280) = true := by decide +kernel
def k_I_bring_26 : List vm_I := [.inr (.inl (.int 2, 0))]
theorem kc_I_bring_26 : vm_chk m_I_bring 26 k_I_bring_26 = some 27 := by decide +kernel
theorem d_I_bring_27 : vm_dec m_I_bring 27 (.if_icmp .ne 7) 3 = true := by decide +kernel
def k_I_bring_30 : List vm_I := [.inr (.inl (.int 0, 0))]
theorem kc_I_bring_30 : vm_chk m_I_bring 30 k_I_bring_30 = some 31 := by decide +kernel
theorem d_I_bring_31 : vm_dec m_I_bring 31 (.goto 4) 3 = true := by decide +kernel
def k_I_bring_34 : List vm_I := [.inl (.iload_n 3)]
theorem kc_I_bring_34 : vm_chk m_I_bring 34 k_I_bring_34 = some 35 := by decide +kernel
def k_I_bring_35 : List vm_I := [.inr (.inr (.inl (1, 144, 25, 0, 3))), .inl (.aload_n 0), .inl (.aload_n 1), .inl (.aload_n 2)]
theorem kc_I_bring_35 : vm_chk m_I_bring 35 k_I_bring_35 = some 41 := by decide +kernel
theorem v_I_bring_41 : vm_okV m_I_bring m_I_headsFault 41 47 2 (288, 290, 3, 46, 291) = true := by decide +kernel
def k_I_bring_44 : List vm_I := [.inl (.istore 4), .inl (.iload 4)]
theorem kc_I_bring_44 : vm_chk m_I_bring 44 k_I_bring_44 = some 48 := by decide +kernel
theorem d_I_bring_48 : vm_dec m_I_bring 48 (.ifCond .ne 10) 3 = true := by decide +kernel
def k_I_bring_51 : List vm_I := [.inl (.aload_n 0), .inl (.aload_n 1)]
theorem kc_I_bring_51 : vm_chk m_I_bring 51 k_I_bring_51 = some 53 := by decide +kernel
theorem v_I_bring_53 : vm_okV m_I_bring m_I_entryFault 53 51 1 (366, 368, 7, 46, 369) = true := by decide +kernel
def k_I_bring_56 : List vm_I := [.inl (.istore 4)]
theorem kc_I_bring_56 : vm_chk m_I_bring 56 k_I_bring_56 = some 58 := by decide +kernel
def k_I_bring_58 : List vm_I := [.inl (.iload 4)]
theorem kc_I_bring_58 : vm_chk m_I_bring 58 k_I_bring_58 = some 60 := by decide +kernel
theorem d_I_bring_60 : vm_dec m_I_bring 60 (.ifCond .ne 10) 3 = true := by decide +kernel
def k_I_bring_63 : List vm_I := [.inl (.aload_n 0), .inl (.aload_n 1)]
theorem kc_I_bring_63 : vm_chk m_I_bring 63 k_I_bring_63 = some 65 := by decide +kernel
theorem v_I_bring_65 : vm_okV m_I_bring m_I_dynamicFault 65 54 1 (374, 376, 8, 46, 377) = true := by decide +kernel
def k_I_bring_68 : List vm_I := [.inl (.istore 4)]
theorem kc_I_bring_68 : vm_chk m_I_bring 68 k_I_bring_68 = some 70 := by decide +kernel
def k_I_bring_70 : List vm_I := [.inl (.iload 4)]
theorem kc_I_bring_70 : vm_chk m_I_bring 70 k_I_bring_70 = some 72 := by decide +kernel
theorem d_I_bring_72 : vm_dec m_I_bring 72 (.ifCond .eq 6) 3 = true := by decide +kernel
def k_I_bring_75 : List vm_I := [.inl (.iload 4)]
theorem kc_I_bring_75 : vm_chk m_I_bring 75 k_I_bring_75 = some 77 := by decide +kernel
theorem d_I_bring_77 : vm_dec m_I_bring 77 .ireturn 1 = true := by decide +kernel
def k_I_bring_78 : List vm_I := [.inl (.aload_n 0), .inl (.aload_n 1), .inl (.aload_n 2)]
theorem kc_I_bring_78 : vm_chk m_I_bring 78 k_I_bring_78 = some 81 := by decide +kernel
theorem v_I_bring_81 : vm_okV m_I_bring m_I_lay 81 57 2 (392, 394, 11, 46, 395) = true := by decide +kernel
def k_I_bring_84 : List vm_I := [.inl (.aload_n 0), .inl (.aload_n 2)]
theorem kc_I_bring_84 : vm_chk m_I_bring 84 k_I_bring_84 = some 86 := by decide +kernel
theorem v_I_bring_86 : vm_okV m_I_bring m_I_relocationsFault 86 61 1 (422, 424, 13, 46, 425) = true := by decide +kernel
def k_I_bring_89 : List vm_I := [.inl (.istore 4), .inl (.iload 4)]
theorem kc_I_bring_89 : vm_chk m_I_bring 89 k_I_bring_89 = some 93 := by decide +kernel
theorem d_I_bring_93 : vm_dec m_I_bring 93 (.ifCond .eq 8) 3 = true := by decide +kernel
def k_I_bring_96 : List vm_I := [.inl (.aload_n 0), .inl (.aload_n 2)]
theorem kc_I_bring_96 : vm_chk m_I_bring 96 k_I_bring_96 = some 98 := by decide +kernel
theorem v_I_bring_98 : vm_okV m_I_bring m_I_takeBack 98 65 1 (451, 453, 17, 46, 454) = true := by decide +kernel
def k_I_bring_101 : List vm_I := [.inl (.iload 4)]
theorem kc_I_bring_101 : vm_chk m_I_bring 101 k_I_bring_101 = some 103 := by decide +kernel
theorem d_I_bring_103 : vm_dec m_I_bring 103 .ireturn 1 = true := by decide +kernel
def k_I_forget_0 : List vm_I := [.inl (.aload_n 0), .inr (.inl (.int 0, 0)), .inr (.inr (.inl (1, 142, 69, 0, 1))), .inl (.aload_n 0), .inr (.inl (.int (-1), 0)), .inr (.inr (.inl (1, 143, 21, 0, 2))), .inl (.aload_n 0), .inr (.inl (.int 0, 0)), .inr (.inr (.inl (1, 144, 25, 0, 3))), .inl (.aload_n 0), .inr (.inl (.int (-1), 0)), .inr (.inr (.inl (1, 145, 28, 0, 4))), .inl (.aload_n 0), .inr (.inl (.int 0, 0)), .inr (.inr (.inl (1, 146, 31, 0, 5))), .inl (.aload_n 0), .inr (.inl (.int (-1), 0)), .inr (.inr (.inl (1, 147, 72, 0, 6))), .inl (.aload_n 0), .inr (.inl (.long 0, 0)), .inr (.inr (.inl (1, 148, 75, 0, 7))), .inl (.aload_n 0), .inr (.inl (.long 0, 0)), .inr (.inr (.inl (1, 149, 79, 0, 8))), .inl (.aload_n 0), .inr (.inl (.long 0, 0)), .inr (.inr (.inl (1, 150, 82, 0, 9))), .inl (.aload_n 0), .inr (.inl (.long 0, 0)), .inr (.inr (.inl (1, 151, 85, 0, 10))), .inl (.aload_n 0), .inr (.inl (.long 0, 0)), .inr (.inr (.inl (1, 152, 88, 0, 11))), .inl (.aload_n 0), .inr (.inl (.int 0, 0)), .inr (.inr (.inl (1, 153, 34, 0, 12)))]
theorem kc_I_forget_0 : vm_chk m_I_forget 0 k_I_forget_0 = some 60 := by decide +kernel
theorem d_I_forget_60 : vm_dec m_I_forget 60 .return_ 1 = true := by decide +kernel
def k_I_fault_0 : List vm_I := [.inl (.aload_n 0), .inl (.iload_n 2), .inr (.inr (.inl (1, 143, 21, 0, 2))), .inl (.iload_n 1)]
theorem kc_I_fault_0 : vm_chk m_I_fault 0 k_I_fault_0 = some 6 := by decide +kernel
theorem d_I_fault_6 : vm_dec m_I_fault 6 .ireturn 1 = true := by decide +kernel
def k_I_headerFault_0 : List vm_I := [.inl (.aload_n 1)]
theorem kc_I_headerFault_0 : vm_chk m_I_headerFault 0 k_I_headerFault_0 = some 1 := by decide +kernel
theorem v_I_headerFault_1 : vm_okV m_I_headerFault m_T_size 1 91 0 (269, 219, 220, 43, 221) = true := by decide +kernel
def k_I_headerFault_4 : List vm_I := [.inr (.inl (.int 52, 0))]
theorem kc_I_headerFault_4 : vm_chk m_I_headerFault 4 k_I_headerFault_4 = some 6 := by decide +kernel
theorem d_I_headerFault_6 : vm_dec m_I_headerFault 6 (.if_icmp .ge 13) 3 = true := by decide +kernel
def k_I_headerFault_9 : List vm_I := [.inl (.aload_n 0), .inr (.inl (.int 1, 0)), .inl (.aload_n 1)]
theorem kc_I_headerFault_9 : vm_chk m_I_headerFault 9 k_I_headerFault_9 = some 12 := by decide +kernel
theorem v_I_headerFault_12 : vm_okV m_I_headerFault m_T_size 12 91 0 (269, 219, 220, 43, 221) = true := by decide +kernel
theorem v_I_headerFault_15 : vm_okV m_I_headerFault m_I_fault 15 95 2 (270, 272, 2, 46, 273) = true := by decide +kernel
theorem d_I_headerFault_18 : vm_dec m_I_headerFault 18 .ireturn 1 = true := by decide +kernel
def k_I_headerFault_19 : List vm_I := [.inr (.inl (.int 0, 0)), .inl (.istore_n 2)]
theorem kc_I_headerFault_19 : vm_chk m_I_headerFault 19 k_I_headerFault_19 = some 21 := by decide +kernel
def k_I_headerFault_21 : List vm_I := [.inl (.iload_n 2), .inr (.inr (.inl (4, 274, 99, 0, 0))), .inl .arraylength]
theorem kc_I_headerFault_21 : vm_chk m_I_headerFault 21 k_I_headerFault_21 = some 26 := by decide +kernel
theorem d_I_headerFault_26 : vm_dec m_I_headerFault 26 (.if_icmp .ge 29) 3 = true := by decide +kernel
def k_I_headerFault_29 : List vm_I := [.inl (.aload_n 1), .inl (.iload_n 2)]
theorem kc_I_headerFault_29 : vm_chk m_I_headerFault 29 k_I_headerFault_29 = some 31 := by decide +kernel
theorem v_I_headerFault_31 : vm_okV m_I_headerFault m_T_byteAt 31 103 1 (276, 246, 247, 43, 248) = true := by decide +kernel
def k_I_headerFault_34 : List vm_I := [.inr (.inr (.inl (4, 274, 99, 0, 0))), .inl (.iload_n 2), .inl .iaload]
theorem kc_I_headerFault_34 : vm_chk m_I_headerFault 34 k_I_headerFault_34 = some 39 := by decide +kernel
theorem d_I_headerFault_39 : vm_dec m_I_headerFault 39 (.if_icmp .eq 10) 3 = true := by decide +kernel
def k_I_headerFault_42 : List vm_I := [.inl (.aload_n 0), .inr (.inl (.int 2, 0)), .inl (.iload_n 2)]
theorem kc_I_headerFault_42 : vm_chk m_I_headerFault 42 k_I_headerFault_42 = some 45 := by decide +kernel
theorem v_I_headerFault_45 : vm_okV m_I_headerFault m_I_fault 45 95 2 (270, 272, 2, 46, 273) = true := by decide +kernel
theorem d_I_headerFault_48 : vm_dec m_I_headerFault 48 .ireturn 1 = true := by decide +kernel
def k_I_headerFault_49 : List vm_I := [.inr (.inr (.inr (2, 1)))]
theorem kc_I_headerFault_49 : vm_chk m_I_headerFault 49 k_I_headerFault_49 = some 52 := by decide +kernel
theorem d_I_headerFault_52 : vm_dec m_I_headerFault 52 (.goto (-31)) 3 = true := by decide +kernel
def k_I_headerFault_55 : List vm_I := [.inl (.aload_n 1), .inr (.inl (.int 16, 0))]
theorem kc_I_headerFault_55 : vm_chk m_I_headerFault 55 k_I_headerFault_55 = some 58 := by decide +kernel
theorem v_I_headerFault_58 : vm_okV m_I_headerFault m_T_half 58 41 1 (277, 278, 279, 43, 280) = true := by decide +kernel
def k_I_headerFault_61 : List vm_I := [.inl (.istore_n 2), .inl (.iload_n 2), .inr (.inl (.int 2, 0))]
theorem kc_I_headerFault_61 : vm_chk m_I_headerFault 61 k_I_headerFault_61 = some 64 := by decide +kernel
theorem d_I_headerFault_64 : vm_dec m_I_headerFault 64 (.if_icmp .eq 16) 3 = true := by decide +kernel
def k_I_headerFault_67 : List vm_I := [.inl (.iload_n 2), .inr (.inl (.int 3, 0))]
theorem kc_I_headerFault_67 : vm_chk m_I_headerFault 67 k_I_headerFault_67 = some 69 := by decide +kernel
theorem d_I_headerFault_69 : vm_dec m_I_headerFault 69 (.if_icmp .eq 11) 3 = true := by decide +kernel
def k_I_headerFault_72 : List vm_I := [.inl (.aload_n 0), .inr (.inl (.int 3, 0)), .inr (.inl (.int 16, 0))]
theorem kc_I_headerFault_72 : vm_chk m_I_headerFault 72 k_I_headerFault_72 = some 76 := by decide +kernel
theorem v_I_headerFault_76 : vm_okV m_I_headerFault m_I_fault 76 95 2 (270, 272, 2, 46, 273) = true := by decide +kernel
theorem d_I_headerFault_79 : vm_dec m_I_headerFault 79 .ireturn 1 = true := by decide +kernel
def k_I_headerFault_80 : List vm_I := [.inl (.aload_n 1), .inr (.inl (.int 18, 0))]
theorem kc_I_headerFault_80 : vm_chk m_I_headerFault 80 k_I_headerFault_80 = some 83 := by decide +kernel
theorem v_I_headerFault_83 : vm_okV m_I_headerFault m_T_half 83 41 1 (277, 278, 279, 43, 280) = true := by decide +kernel
def k_I_headerFault_86 : List vm_I := [.inr (.inl (.int 243, 0))]
theorem kc_I_headerFault_86 : vm_chk m_I_headerFault 86 k_I_headerFault_86 = some 89 := by decide +kernel
theorem d_I_headerFault_89 : vm_dec m_I_headerFault 89 (.if_icmp .eq 11) 3 = true := by decide +kernel
def k_I_headerFault_92 : List vm_I := [.inl (.aload_n 0), .inr (.inl (.int 4, 0)), .inr (.inl (.int 18, 0))]
theorem kc_I_headerFault_92 : vm_chk m_I_headerFault 92 k_I_headerFault_92 = some 96 := by decide +kernel
theorem v_I_headerFault_96 : vm_okV m_I_headerFault m_I_fault 96 95 2 (270, 272, 2, 46, 273) = true := by decide +kernel
theorem d_I_headerFault_99 : vm_dec m_I_headerFault 99 .ireturn 1 = true := by decide +kernel
def k_I_headerFault_100 : List vm_I := [.inl (.aload_n 1), .inr (.inl (.int 20, 0))]
theorem kc_I_headerFault_100 : vm_chk m_I_headerFault 100 k_I_headerFault_100 = some 103 := by decide +kernel
theorem v_I_headerFault_103 : vm_okV m_I_headerFault m_T_word 103 106 1 (282, 283, 284, 43, 285) = true := by decide +kernel
def k_I_headerFault_106 : List vm_I := [.inr (.inl (.long 1, 0))]
theorem kc_I_headerFault_106 : vm_chk m_I_headerFault 106 k_I_headerFault_106 = some 107 := by decide +kernel
theorem dl_I_headerFault_107 : vm_dec m_I_headerFault 107 .lcmp 1 = true := by decide +kernel
theorem d_I_headerFault_107 : vm_dec m_I_headerFault 108 (.ifCond .eq 11) 3 = true := by decide +kernel
def k_I_headerFault_111 : List vm_I := [.inl (.aload_n 0), .inr (.inl (.int 5, 0)), .inr (.inl (.int 20, 0))]
theorem kc_I_headerFault_111 : vm_chk m_I_headerFault 111 k_I_headerFault_111 = some 115 := by decide +kernel
theorem v_I_headerFault_115 : vm_okV m_I_headerFault m_I_fault 115 95 2 (270, 272, 2, 46, 273) = true := by decide +kernel
theorem d_I_headerFault_118 : vm_dec m_I_headerFault 118 .ireturn 1 = true := by decide +kernel
def k_I_headerFault_119 : List vm_I := [.inl (.aload_n 1), .inr (.inl (.int 40, 0))]
theorem kc_I_headerFault_119 : vm_chk m_I_headerFault 119 k_I_headerFault_119 = some 122 := by decide +kernel
theorem v_I_headerFault_122 : vm_okV m_I_headerFault m_T_half 122 41 1 (277, 278, 279, 43, 280) = true := by decide +kernel
def k_I_headerFault_125 : List vm_I := [.inr (.inl (.int 52, 0))]
theorem kc_I_headerFault_125 : vm_chk m_I_headerFault 125 k_I_headerFault_125 = some 127 := by decide +kernel
theorem d_I_headerFault_127 : vm_dec m_I_headerFault 127 (.if_icmp .eq 12) 3 = true := by decide +kernel
def k_I_headerFault_130 : List vm_I := [.inl (.aload_n 0), .inr (.inl (.int 6, 0)), .inr (.inl (.int 40, 0))]
theorem kc_I_headerFault_130 : vm_chk m_I_headerFault 130 k_I_headerFault_130 = some 135 := by decide +kernel
theorem v_I_headerFault_135 : vm_okV m_I_headerFault m_I_fault 135 95 2 (270, 272, 2, 46, 273) = true := by decide +kernel
theorem d_I_headerFault_138 : vm_dec m_I_headerFault 138 .ireturn 1 = true := by decide +kernel
def k_I_headerFault_139 : List vm_I := [.inl (.aload_n 1), .inr (.inl (.int 42, 0))]
theorem kc_I_headerFault_139 : vm_chk m_I_headerFault 139 k_I_headerFault_139 = some 142 := by decide +kernel
theorem v_I_headerFault_142 : vm_okV m_I_headerFault m_T_half 142 41 1 (277, 278, 279, 43, 280) = true := by decide +kernel
def k_I_headerFault_145 : List vm_I := [.inr (.inl (.int 32, 0))]
theorem kc_I_headerFault_145 : vm_chk m_I_headerFault 145 k_I_headerFault_145 = some 147 := by decide +kernel
theorem d_I_headerFault_147 : vm_dec m_I_headerFault 147 (.if_icmp .eq 12) 3 = true := by decide +kernel
def k_I_headerFault_150 : List vm_I := [.inl (.aload_n 0), .inr (.inl (.int 6, 0)), .inr (.inl (.int 42, 0))]
theorem kc_I_headerFault_150 : vm_chk m_I_headerFault 150 k_I_headerFault_150 = some 155 := by decide +kernel
theorem v_I_headerFault_155 : vm_okV m_I_headerFault m_I_fault 155 95 2 (270, 272, 2, 46, 273) = true := by decide +kernel
theorem d_I_headerFault_158 : vm_dec m_I_headerFault 158 .ireturn 1 = true := by decide +kernel
def k_I_headerFault_159 : List vm_I := [.inl (.aload_n 1), .inr (.inl (.int 44, 0))]
theorem kc_I_headerFault_159 : vm_chk m_I_headerFault 159 k_I_headerFault_159 = some 162 := by decide +kernel
theorem v_I_headerFault_162 : vm_okV m_I_headerFault m_T_half 162 41 1 (277, 278, 279, 43, 280) = true := by decide +kernel
def k_I_headerFault_165 : List vm_I := [.inl (.istore_n 3), .inl (.iload_n 3), .inr (.inl (.int 1, 0))]
theorem kc_I_headerFault_165 : vm_chk m_I_headerFault 165 k_I_headerFault_165 = some 168 := by decide +kernel
theorem d_I_headerFault_168 : vm_dec m_I_headerFault 168 (.if_icmp .lt 9) 3 = true := by decide +kernel
def k_I_headerFault_171 : List vm_I := [.inl (.iload_n 3), .inr (.inl (.int 8, 0))]
theorem kc_I_headerFault_171 : vm_chk m_I_headerFault 171 k_I_headerFault_171 = some 174 := by decide +kernel
theorem d_I_headerFault_174 : vm_dec m_I_headerFault 174 (.if_icmp .le 12) 3 = true := by decide +kernel
def k_I_headerFault_177 : List vm_I := [.inl (.aload_n 0), .inr (.inl (.int 7, 0)), .inr (.inl (.int 44, 0))]
theorem kc_I_headerFault_177 : vm_chk m_I_headerFault 177 k_I_headerFault_177 = some 182 := by decide +kernel
theorem v_I_headerFault_182 : vm_okV m_I_headerFault m_I_fault 182 95 2 (270, 272, 2, 46, 273) = true := by decide +kernel
theorem d_I_headerFault_185 : vm_dec m_I_headerFault 185 .ireturn 1 = true := by decide +kernel
def k_I_headerFault_186 : List vm_I := [.inl (.aload_n 1), .inl (.aload_n 1), .inr (.inl (.int 28, 0))]
theorem kc_I_headerFault_186 : vm_chk m_I_headerFault 186 k_I_headerFault_186 = some 190 := by decide +kernel
theorem v_I_headerFault_190 : vm_okV m_I_headerFault m_T_word 190 106 1 (282, 283, 284, 43, 285) = true := by decide +kernel
def k_I_headerFault_193 : List vm_I := [.inr (.inl (.int 32, 0)), .inl (.iload_n 3), .inl .imul, .inl .i2l]
theorem kc_I_headerFault_193 : vm_chk m_I_headerFault 193 k_I_headerFault_193 = some 198 := by decide +kernel
theorem v_I_headerFault_198 : vm_okV m_I_headerFault m_T_has 198 110 2 (287, 234, 235, 43, 236) = true := by decide +kernel
theorem d_I_headerFault_201 : vm_dec m_I_headerFault 201 (.ifCond .eq 7) 3 = true := by decide +kernel
def k_I_headerFault_204 : List vm_I := [.inr (.inl (.int 0, 0))]
theorem kc_I_headerFault_204 : vm_chk m_I_headerFault 204 k_I_headerFault_204 = some 205 := by decide +kernel
theorem d_I_headerFault_205 : vm_dec m_I_headerFault 205 (.goto 11) 3 = true := by decide +kernel
def k_I_headerFault_208 : List vm_I := [.inl (.aload_n 0), .inr (.inl (.int 8, 0)), .inr (.inl (.int 28, 0))]
theorem kc_I_headerFault_208 : vm_chk m_I_headerFault 208 k_I_headerFault_208 = some 213 := by decide +kernel
theorem v_I_headerFault_213 : vm_okV m_I_headerFault m_I_fault 213 95 2 (270, 272, 2, 46, 273) = true := by decide +kernel
theorem d_I_headerFault_216 : vm_dec m_I_headerFault 216 .ireturn 1 = true := by decide +kernel
def k_I_headsFault_0 : List vm_I := [.inl (.aload_n 1), .inr (.inl (.int 44, 0))]
theorem kc_I_headsFault_0 : vm_chk m_I_headsFault 0 k_I_headsFault_0 = some 3 := by decide +kernel
theorem v_I_headsFault_3 : vm_okV m_I_headsFault m_T_half 3 41 1 (277, 278, 279, 43, 280) = true := by decide +kernel
def k_I_headsFault_6 : List vm_I := [.inr (.inl (.int 8, 0))]
theorem kc_I_headsFault_6 : vm_chk m_I_headsFault 6 k_I_headsFault_6 = some 8 := by decide +kernel
theorem v_I_headsFault_8 : vm_okS m_I_headsFault m_J_min 8 114 2 (292, 75, 45, 76) = true := by decide +kernel
def k_I_headsFault_11 : List vm_I := [.inl (.istore_n 3), .inl (.aload_n 1), .inr (.inl (.int 28, 0))]
theorem kc_I_headsFault_11 : vm_chk m_I_headsFault 11 k_I_headsFault_11 = some 15 := by decide +kernel
theorem v_I_headsFault_15 : vm_okV m_I_headsFault m_T_word 15 106 1 (282, 283, 284, 43, 285) = true := by decide +kernel
def k_I_headsFault_18 : List vm_I := [.inl .l2i, .inl (.istore 4), .inr (.inl (.int 0, 0)), .inl (.istore 5)]
theorem kc_I_headsFault_18 : vm_chk m_I_headsFault 18 k_I_headsFault_18 = some 24 := by decide +kernel
def k_I_headsFault_24 : List vm_I := [.inl (.iload 5), .inl (.iload_n 3)]
theorem kc_I_headsFault_24 : vm_chk m_I_headsFault 24 k_I_headsFault_24 = some 27 := by decide +kernel
theorem d_I_headsFault_27 : vm_dec m_I_headsFault 27 (.if_icmp .ge 76) 3 = true := by decide +kernel
def k_I_headsFault_30 : List vm_I := [.inl (.iload 4), .inr (.inl (.int 32, 0)), .inl (.iload 5), .inl .imul, .inl .iadd, .inl (.istore 6), .inl (.aload_n 1), .inl (.iload 6)]
theorem kc_I_headsFault_30 : vm_chk m_I_headsFault 30 k_I_headsFault_30 = some 43 := by decide +kernel
theorem v_I_headsFault_43 : vm_okV m_I_headsFault m_T_word 43 106 1 (282, 283, 284, 43, 285) = true := by decide +kernel
def k_I_headsFault_46 : List vm_I := [.inl (.lstore 7), .inr (.inl (.int 0, 0)), .inl (.istore 9), .inl (.lload 7), .inr (.inl (.long 1, 0))]
theorem kc_I_headsFault_46 : vm_chk m_I_headsFault 46 k_I_headsFault_46 = some 54 := by decide +kernel
theorem dl_I_headsFault_54 : vm_dec m_I_headsFault 54 .lcmp 1 = true := by decide +kernel
theorem d_I_headsFault_54 : vm_dec m_I_headsFault 55 (.ifCond .ne 16) 3 = true := by decide +kernel
def k_I_headsFault_58 : List vm_I := [.inl (.aload_n 0), .inl (.aload_n 1), .inl (.aload_n 2), .inl (.iload 6)]
theorem kc_I_headsFault_58 : vm_chk m_I_headsFault 58 k_I_headsFault_58 = some 63 := by decide +kernel
theorem v_I_headsFault_63 : vm_okV m_I_headsFault m_I_segmentFault 63 119 3 (293, 295, 4, 46, 296) = true := by decide +kernel
def k_I_headsFault_66 : List vm_I := [.inl (.istore 9)]
theorem kc_I_headsFault_66 : vm_chk m_I_headsFault 66 k_I_headsFault_66 = some 68 := by decide +kernel
theorem d_I_headsFault_68 : vm_dec m_I_headsFault 68 (.goto 21) 3 = true := by decide +kernel
def k_I_headsFault_71 : List vm_I := [.inl (.lload 7), .inr (.inl (.long 2, 360))]
theorem kc_I_headsFault_71 : vm_chk m_I_headsFault 71 k_I_headsFault_71 = some 76 := by decide +kernel
theorem dl_I_headsFault_76 : vm_dec m_I_headsFault 76 .lcmp 1 = true := by decide +kernel
theorem d_I_headsFault_76 : vm_dec m_I_headsFault 77 (.ifCond .ne 12) 3 = true := by decide +kernel
def k_I_headsFault_80 : List vm_I := [.inl (.aload_n 0), .inl (.aload_n 1), .inl (.iload 6)]
theorem kc_I_headsFault_80 : vm_chk m_I_headsFault 80 k_I_headsFault_80 = some 84 := by decide +kernel
theorem v_I_headsFault_84 : vm_okV m_I_headsFault m_I_dynamicHeadFault 84 125 2 (361, 363, 6, 46, 364) = true := by decide +kernel
def k_I_headsFault_87 : List vm_I := [.inl (.istore 9)]
theorem kc_I_headsFault_87 : vm_chk m_I_headsFault 87 k_I_headsFault_87 = some 89 := by decide +kernel
def k_I_headsFault_89 : List vm_I := [.inl (.iload 9)]
theorem kc_I_headsFault_89 : vm_chk m_I_headsFault 89 k_I_headsFault_89 = some 91 := by decide +kernel
theorem d_I_headsFault_91 : vm_dec m_I_headsFault 91 (.ifCond .eq 6) 3 = true := by decide +kernel
def k_I_headsFault_94 : List vm_I := [.inl (.iload 9)]
theorem kc_I_headsFault_94 : vm_chk m_I_headsFault 94 k_I_headsFault_94 = some 96 := by decide +kernel
theorem d_I_headsFault_96 : vm_dec m_I_headsFault 96 .ireturn 1 = true := by decide +kernel
def k_I_headsFault_97 : List vm_I := [.inr (.inr (.inr (5, 1)))]
theorem kc_I_headsFault_97 : vm_chk m_I_headsFault 97 k_I_headsFault_97 = some 100 := by decide +kernel
theorem d_I_headsFault_100 : vm_dec m_I_headsFault 100 (.goto (-76)) 3 = true := by decide +kernel
def k_I_headsFault_103 : List vm_I := [.inl (.aload_n 0), .inr (.inr (.inl (0, 146, 31, 0, 5)))]
theorem kc_I_headsFault_103 : vm_chk m_I_headsFault 103 k_I_headsFault_103 = some 107 := by decide +kernel
theorem d_I_headsFault_107 : vm_dec m_I_headsFault 107 (.ifCond .le 7) 3 = true := by decide +kernel
def k_I_headsFault_110 : List vm_I := [.inr (.inl (.int 0, 0))]
theorem kc_I_headsFault_110 : vm_chk m_I_headsFault 110 k_I_headsFault_110 = some 111 := by decide +kernel
theorem d_I_headsFault_111 : vm_dec m_I_headsFault 111 (.goto 11) 3 = true := by decide +kernel
def k_I_headsFault_114 : List vm_I := [.inl (.aload_n 0), .inr (.inl (.int 17, 0)), .inr (.inl (.int 44, 0))]
theorem kc_I_headsFault_114 : vm_chk m_I_headsFault 114 k_I_headsFault_114 = some 119 := by decide +kernel
theorem v_I_headsFault_119 : vm_okV m_I_headsFault m_I_fault 119 95 2 (270, 272, 2, 46, 273) = true := by decide +kernel
theorem d_I_headsFault_122 : vm_dec m_I_headsFault 122 .ireturn 1 = true := by decide +kernel
def k_I_segmentFault_0 : List vm_I := [.inl (.aload_n 0), .inr (.inr (.inl (0, 142, 69, 0, 1)))]
theorem kc_I_segmentFault_0 : vm_chk m_I_segmentFault 0 k_I_segmentFault_0 = some 4 := by decide +kernel
theorem d_I_segmentFault_4 : vm_dec m_I_segmentFault 4 (.ifCond .lt 15) 3 = true := by decide +kernel
def k_I_segmentFault_7 : List vm_I := [.inl (.aload_n 0), .inr (.inr (.inl (0, 142, 69, 0, 1))), .inl (.aload_n 0), .inr (.inr (.inl (0, 141, 13, 0, 0))), .inl .arraylength]
theorem kc_I_segmentFault_7 : vm_chk m_I_segmentFault 7 k_I_segmentFault_7 = some 16 := by decide +kernel
theorem d_I_segmentFault_16 : vm_dec m_I_segmentFault 16 (.if_icmp .lt 12) 3 = true := by decide +kernel
def k_I_segmentFault_19 : List vm_I := [.inl (.aload_n 0), .inr (.inl (.int 7, 0)), .inr (.inl (.int 44, 0))]
theorem kc_I_segmentFault_19 : vm_chk m_I_segmentFault 19 k_I_segmentFault_19 = some 24 := by decide +kernel
theorem v_I_segmentFault_24 : vm_okV m_I_segmentFault m_I_fault 24 95 2 (270, 272, 2, 46, 273) = true := by decide +kernel
theorem d_I_segmentFault_27 : vm_dec m_I_segmentFault 27 .ireturn 1 = true := by decide +kernel
def k_I_segmentFault_28 : List vm_I := [.inl (.aload_n 0), .inr (.inr (.inl (0, 141, 13, 0, 0))), .inl (.aload_n 0), .inr (.inr (.inl (0, 142, 69, 0, 1)))]
theorem kc_I_segmentFault_28 : vm_chk m_I_segmentFault 28 k_I_segmentFault_28 = some 36 := by decide +kernel
theorem d_I_segmentFault_36 : vm_dec m_I_segmentFault 36 .aaload 1 = true := by decide +kernel
def k_I_segmentFault_37 : List vm_I := [.inl (.astore 4), .inl (.aload 4), .inl (.aload_n 1), .inl (.iload_n 3), .inl (.aload_n 0), .inr (.inr (.inl (0, 144, 25, 0, 3)))]
theorem kc_I_segmentFault_37 : vm_chk m_I_segmentFault 37 k_I_segmentFault_37 = some 47 := by decide +kernel
theorem v_I_segmentFault_47 : vm_okV m_I_segmentFault m_S_take 47 129 3 (297, 298, 299, 47, 300) = true := by decide +kernel
def k_I_segmentFault_50 : List vm_I := [.inl (.aload 4)]
theorem kc_I_segmentFault_50 : vm_chk m_I_segmentFault 50 k_I_segmentFault_50 = some 52 := by decide +kernel
def k_I_segmentFault_52 : List vm_I := [.inr (.inr (.inl (2, 3, 133, 1, 4)))]
theorem kc_I_segmentFault_52 : vm_chk m_I_segmentFault 52 k_I_segmentFault_52 = some 55 := by decide +kernel
def k_I_segmentFault_55 : List vm_I := [.inl (.aload 4)]
theorem kc_I_segmentFault_55 : vm_chk m_I_segmentFault 55 k_I_segmentFault_55 = some 57 := by decide +kernel
def k_I_segmentFault_57 : List vm_I := [.inr (.inr (.inl (2, 2, 136, 1, 3)))]
theorem kc_I_segmentFault_57 : vm_chk m_I_segmentFault 57 k_I_segmentFault_57 = some 60 := by decide +kernel
theorem dl_I_segmentFault_60 : vm_dec m_I_segmentFault 60 .lcmp 1 = true := by decide +kernel
theorem d_I_segmentFault_60 : vm_dec m_I_segmentFault 61 (.ifCond .ge 14) 3 = true := by decide +kernel
def k_I_segmentFault_64 : List vm_I := [.inl (.aload_n 0), .inr (.inl (.int 9, 0)), .inl (.iload_n 3), .inr (.inl (.int 20, 0)), .inl .iadd]
theorem kc_I_segmentFault_64 : vm_chk m_I_segmentFault 64 k_I_segmentFault_64 = some 71 := by decide +kernel
theorem v_I_segmentFault_71 : vm_okV m_I_segmentFault m_I_fault 71 95 2 (270, 272, 2, 46, 273) = true := by decide +kernel
theorem d_I_segmentFault_74 : vm_dec m_I_segmentFault 74 .ireturn 1 = true := by decide +kernel
def k_I_segmentFault_75 : List vm_I := [.inl (.aload_n 1), .inl (.aload 4)]
theorem kc_I_segmentFault_75 : vm_chk m_I_segmentFault 75 k_I_segmentFault_75 = some 78 := by decide +kernel
def k_I_segmentFault_78 : List vm_I := [.inr (.inr (.inl (2, 1, 139, 1, 0)))]
theorem kc_I_segmentFault_78 : vm_chk m_I_segmentFault 78 k_I_segmentFault_78 = some 81 := by decide +kernel
def k_I_segmentFault_81 : List vm_I := [.inl (.aload 4)]
theorem kc_I_segmentFault_81 : vm_chk m_I_segmentFault 81 k_I_segmentFault_81 = some 83 := by decide +kernel
def k_I_segmentFault_83 : List vm_I := [.inr (.inr (.inl (2, 2, 136, 1, 3)))]
theorem kc_I_segmentFault_83 : vm_chk m_I_segmentFault 83 k_I_segmentFault_83 = some 86 := by decide +kernel
theorem v_I_segmentFault_86 : vm_okV m_I_segmentFault m_T_has 86 110 2 (287, 234, 235, 43, 236) = true := by decide +kernel
theorem d_I_segmentFault_89 : vm_dec m_I_segmentFault 89 (.ifCond .ne 13) 3 = true := by decide +kernel
def k_I_segmentFault_92 : List vm_I := [.inl (.aload_n 0), .inr (.inl (.int 10, 0)), .inl (.iload_n 3), .inr (.inl (.int 4, 0)), .inl .iadd]
theorem kc_I_segmentFault_92 : vm_chk m_I_segmentFault 92 k_I_segmentFault_92 = some 98 := by decide +kernel
theorem v_I_segmentFault_98 : vm_okV m_I_segmentFault m_I_fault 98 95 2 (270, 272, 2, 46, 273) = true := by decide +kernel
theorem d_I_segmentFault_101 : vm_dec m_I_segmentFault 101 .ireturn 1 = true := by decide +kernel
def k_I_segmentFault_102 : List vm_I := [.inl (.aload 4)]
theorem kc_I_segmentFault_102 : vm_chk m_I_segmentFault 102 k_I_segmentFault_102 = some 104 := by decide +kernel
theorem v_I_segmentFault_104 : vm_okV m_I_segmentFault m_S_isAlignSound 104 142 0 (302, 303, 304, 47, 305) = true := by decide +kernel
theorem d_I_segmentFault_107 : vm_dec m_I_segmentFault 107 (.ifCond .ne 14) 3 = true := by decide +kernel
def k_I_segmentFault_110 : List vm_I := [.inl (.aload_n 0), .inr (.inl (.int 11, 0)), .inl (.iload_n 3), .inr (.inl (.int 28, 0)), .inl .iadd]
theorem kc_I_segmentFault_110 : vm_chk m_I_segmentFault 110 k_I_segmentFault_110 = some 117 := by decide +kernel
theorem v_I_segmentFault_117 : vm_okV m_I_segmentFault m_I_fault 117 95 2 (270, 272, 2, 46, 273) = true := by decide +kernel
theorem d_I_segmentFault_120 : vm_dec m_I_segmentFault 120 .ireturn 1 = true := by decide +kernel
def k_I_segmentFault_121 : List vm_I := [.inl (.aload 4)]
theorem kc_I_segmentFault_121 : vm_chk m_I_segmentFault 121 k_I_segmentFault_121 = some 123 := by decide +kernel
theorem v_I_segmentFault_123 : vm_okV m_I_segmentFault m_S_isAligned 123 146 0 (313, 314, 315, 47, 316) = true := by decide +kernel
theorem d_I_segmentFault_126 : vm_dec m_I_segmentFault 126 (.ifCond .ne 14) 3 = true := by decide +kernel
def k_I_segmentFault_129 : List vm_I := [.inl (.aload_n 0), .inr (.inl (.int 12, 0)), .inl (.iload_n 3), .inr (.inl (.int 8, 0)), .inl .iadd]
theorem kc_I_segmentFault_129 : vm_chk m_I_segmentFault 129 k_I_segmentFault_129 = some 136 := by decide +kernel
theorem v_I_segmentFault_136 : vm_okV m_I_segmentFault m_I_fault 136 95 2 (270, 272, 2, 46, 273) = true := by decide +kernel
theorem d_I_segmentFault_139 : vm_dec m_I_segmentFault 139 .ireturn 1 = true := by decide +kernel
def k_I_segmentFault_140 : List vm_I := [.inl (.aload 4)]
theorem kc_I_segmentFault_140 : vm_chk m_I_segmentFault 140 k_I_segmentFault_140 = some 142 := by decide +kernel
theorem v_I_segmentFault_142 : vm_okV m_I_segmentFault m_S_isInSpace 142 149 0 (317, 318, 319, 47, 320) = true := by decide +kernel
theorem d_I_segmentFault_145 : vm_dec m_I_segmentFault 145 (.ifCond .ne 14) 3 = true := by decide +kernel
def k_I_segmentFault_148 : List vm_I := [.inl (.aload_n 0), .inr (.inl (.int 13, 0)), .inl (.iload_n 3), .inr (.inl (.int 8, 0)), .inl .iadd]
theorem kc_I_segmentFault_148 : vm_chk m_I_segmentFault 148 k_I_segmentFault_148 = some 155 := by decide +kernel
theorem v_I_segmentFault_155 : vm_okV m_I_segmentFault m_I_fault 155 95 2 (270, 272, 2, 46, 273) = true := by decide +kernel
theorem d_I_segmentFault_158 : vm_dec m_I_segmentFault 158 .ireturn 1 = true := by decide +kernel
def k_I_segmentFault_159 : List vm_I := [.inl (.aload_n 2), .inl (.aload 4)]
theorem kc_I_segmentFault_159 : vm_chk m_I_segmentFault 159 k_I_segmentFault_159 = some 162 := by decide +kernel
theorem v_I_segmentFault_162 : vm_okV m_I_segmentFault m_S_firstPage 162 152 0 (322, 323, 324, 47, 325) = true := by decide +kernel
def k_I_segmentFault_165 : List vm_I := [.inl (.aload 4)]
theorem kc_I_segmentFault_165 : vm_chk m_I_segmentFault 165 k_I_segmentFault_165 = some 167 := by decide +kernel
theorem v_I_segmentFault_167 : vm_okV m_I_segmentFault m_S_lastPage 167 155 0 (327, 328, 329, 47, 330) = true := by decide +kernel
theorem v_I_segmentFault_170 : vm_okV m_I_segmentFault m_P_anyMapped 170 158 2 (331, 332, 333, 44, 334) = true := by decide +kernel
theorem d_I_segmentFault_173 : vm_dec m_I_segmentFault 173 (.ifCond .ne 12) 3 = true := by decide +kernel
def k_I_segmentFault_176 : List vm_I := [.inl (.aload_n 0), .inl (.aload 4)]
theorem kc_I_segmentFault_176 : vm_chk m_I_segmentFault 176 k_I_segmentFault_176 = some 179 := by decide +kernel
theorem v_I_segmentFault_179 : vm_okV m_I_segmentFault m_I_meetsEarlier 179 164 1 (342, 344, 5, 46, 345) = true := by decide +kernel
theorem d_I_segmentFault_182 : vm_dec m_I_segmentFault 182 (.ifCond .eq 14) 3 = true := by decide +kernel
def k_I_segmentFault_185 : List vm_I := [.inl (.aload_n 0), .inr (.inl (.int 14, 0)), .inl (.iload_n 3), .inr (.inl (.int 8, 0)), .inl .iadd]
theorem kc_I_segmentFault_185 : vm_chk m_I_segmentFault 185 k_I_segmentFault_185 = some 192 := by decide +kernel
theorem v_I_segmentFault_192 : vm_okV m_I_segmentFault m_I_fault 192 95 2 (270, 272, 2, 46, 273) = true := by decide +kernel
theorem d_I_segmentFault_195 : vm_dec m_I_segmentFault 195 .ireturn 1 = true := by decide +kernel
def k_I_segmentFault_196 : List vm_I := [.inl (.aload_n 0), .inr (.inr (.inl (0, 146, 31, 0, 5))), .inl (.aload 4)]
theorem kc_I_segmentFault_196 : vm_chk m_I_segmentFault 196 k_I_segmentFault_196 = some 202 := by decide +kernel
theorem v_I_segmentFault_202 : vm_okV m_I_segmentFault m_S_pages 202 168 0 (352, 353, 354, 47, 355) = true := by decide +kernel
def k_I_segmentFault_205 : List vm_I := [.inl .iadd, .inl (.aload_n 2)]
theorem kc_I_segmentFault_205 : vm_chk m_I_segmentFault 205 k_I_segmentFault_205 = some 207 := by decide +kernel
theorem v_I_segmentFault_207 : vm_okV m_I_segmentFault m_P_freeFrames 207 171 0 (356, 357, 358, 44, 359) = true := by decide +kernel
theorem d_I_segmentFault_210 : vm_dec m_I_segmentFault 210 (.if_icmp .le 14) 3 = true := by decide +kernel
def k_I_segmentFault_213 : List vm_I := [.inl (.aload_n 0), .inr (.inl (.int 15, 0)), .inl (.iload_n 3), .inr (.inl (.int 20, 0)), .inl .iadd]
theorem kc_I_segmentFault_213 : vm_chk m_I_segmentFault 213 k_I_segmentFault_213 = some 220 := by decide +kernel
theorem v_I_segmentFault_220 : vm_okV m_I_segmentFault m_I_fault 220 95 2 (270, 272, 2, 46, 273) = true := by decide +kernel
theorem d_I_segmentFault_223 : vm_dec m_I_segmentFault 223 .ireturn 1 = true := by decide +kernel
def k_I_segmentFault_224 : List vm_I := [.inl (.aload_n 0), .inl .dup, .inr (.inr (.inl (0, 146, 31, 0, 5))), .inl (.aload 4)]
theorem kc_I_segmentFault_224 : vm_chk m_I_segmentFault 224 k_I_segmentFault_224 = some 231 := by decide +kernel
theorem v_I_segmentFault_231 : vm_okV m_I_segmentFault m_S_pages 231 168 0 (352, 353, 354, 47, 355) = true := by decide +kernel
def k_I_segmentFault_234 : List vm_I := [.inl .iadd, .inr (.inr (.inl (1, 146, 31, 0, 5))), .inl (.aload_n 0), .inl .dup, .inr (.inr (.inl (0, 142, 69, 0, 1))), .inr (.inl (.int 1, 0)), .inl .iadd, .inr (.inr (.inl (1, 142, 69, 0, 1))), .inr (.inl (.int 0, 0))]
theorem kc_I_segmentFault_234 : vm_chk m_I_segmentFault 234 k_I_segmentFault_234 = some 249 := by decide +kernel
theorem d_I_segmentFault_249 : vm_dec m_I_segmentFault 249 .ireturn 1 = true := by decide +kernel
def k_I_meetsEarlier_0 : List vm_I := [.inr (.inl (.int 0, 0)), .inl (.istore_n 2)]
theorem kc_I_meetsEarlier_0 : vm_chk m_I_meetsEarlier 0 k_I_meetsEarlier_0 = some 2 := by decide +kernel
def k_I_meetsEarlier_2 : List vm_I := [.inl (.iload_n 2), .inl (.aload_n 0), .inr (.inr (.inl (0, 142, 69, 0, 1)))]
theorem kc_I_meetsEarlier_2 : vm_chk m_I_meetsEarlier 2 k_I_meetsEarlier_2 = some 7 := by decide +kernel
theorem d_I_meetsEarlier_7 : vm_dec m_I_meetsEarlier 7 (.if_icmp .ge 33) 3 = true := by decide +kernel
def k_I_meetsEarlier_10 : List vm_I := [.inl (.iload_n 2), .inl (.aload_n 0), .inr (.inr (.inl (0, 141, 13, 0, 0))), .inl .arraylength]
theorem kc_I_meetsEarlier_10 : vm_chk m_I_meetsEarlier 10 k_I_meetsEarlier_10 = some 16 := by decide +kernel
theorem d_I_meetsEarlier_16 : vm_dec m_I_meetsEarlier 16 (.if_icmp .ge 24) 3 = true := by decide +kernel
def k_I_meetsEarlier_19 : List vm_I := [.inl (.aload_n 1), .inl (.aload_n 0), .inr (.inr (.inl (0, 141, 13, 0, 0))), .inl (.iload_n 2)]
theorem kc_I_meetsEarlier_19 : vm_chk m_I_meetsEarlier 19 k_I_meetsEarlier_19 = some 25 := by decide +kernel
theorem d_I_meetsEarlier_25 : vm_dec m_I_meetsEarlier 25 .aaload 1 = true := by decide +kernel
theorem v_I_meetsEarlier_26 : vm_okV m_I_meetsEarlier m_S_sharesPageWith 26 174 1 (346, 347, 348, 47, 349) = true := by decide +kernel
theorem d_I_meetsEarlier_29 : vm_dec m_I_meetsEarlier 29 (.ifCond .eq 5) 3 = true := by decide +kernel
def k_I_meetsEarlier_32 : List vm_I := [.inr (.inl (.int 1, 0))]
theorem kc_I_meetsEarlier_32 : vm_chk m_I_meetsEarlier 32 k_I_meetsEarlier_32 = some 33 := by decide +kernel
theorem d_I_meetsEarlier_33 : vm_dec m_I_meetsEarlier 33 .ireturn 1 = true := by decide +kernel
def k_I_meetsEarlier_34 : List vm_I := [.inr (.inr (.inr (2, 1)))]
theorem kc_I_meetsEarlier_34 : vm_chk m_I_meetsEarlier 34 k_I_meetsEarlier_34 = some 37 := by decide +kernel
theorem d_I_meetsEarlier_37 : vm_dec m_I_meetsEarlier 37 (.goto (-35)) 3 = true := by decide +kernel
def k_I_meetsEarlier_40 : List vm_I := [.inr (.inl (.int 0, 0))]
theorem kc_I_meetsEarlier_40 : vm_chk m_I_meetsEarlier 40 k_I_meetsEarlier_40 = some 41 := by decide +kernel
theorem d_I_meetsEarlier_41 : vm_dec m_I_meetsEarlier 41 .ireturn 1 = true := by decide +kernel
def k_I_dynamicHeadFault_0 : List vm_I := [.inl (.aload_n 1), .inl (.iload_n 2), .inr (.inl (.int 16, 0)), .inl .iadd]
theorem kc_I_dynamicHeadFault_0 : vm_chk m_I_dynamicHeadFault 0 k_I_dynamicHeadFault_0 = some 5 := by decide +kernel
theorem v_I_dynamicHeadFault_5 : vm_okV m_I_dynamicHeadFault m_T_word 5 106 1 (282, 283, 284, 43, 285) = true := by decide +kernel
def k_I_dynamicHeadFault_8 : List vm_I := [.inl (.lstore_n 3), .inl (.aload_n 1), .inl (.aload_n 1), .inl (.iload_n 2), .inr (.inl (.int 4, 0)), .inl .iadd]
theorem kc_I_dynamicHeadFault_8 : vm_chk m_I_dynamicHeadFault 8 k_I_dynamicHeadFault_8 = some 14 := by decide +kernel
theorem v_I_dynamicHeadFault_14 : vm_okV m_I_dynamicHeadFault m_T_word 14 106 1 (282, 283, 284, 43, 285) = true := by decide +kernel
def k_I_dynamicHeadFault_17 : List vm_I := [.inl (.lload_n 3)]
theorem kc_I_dynamicHeadFault_17 : vm_chk m_I_dynamicHeadFault 17 k_I_dynamicHeadFault_17 = some 18 := by decide +kernel
theorem v_I_dynamicHeadFault_18 : vm_okV m_I_dynamicHeadFault m_T_has 18 110 2 (287, 234, 235, 43, 236) = true := by decide +kernel
theorem d_I_dynamicHeadFault_21 : vm_dec m_I_dynamicHeadFault 21 (.ifCond .ne 13) 3 = true := by decide +kernel
def k_I_dynamicHeadFault_24 : List vm_I := [.inl (.aload_n 0), .inr (.inl (.int 10, 0)), .inl (.iload_n 2), .inr (.inl (.int 4, 0)), .inl .iadd]
theorem kc_I_dynamicHeadFault_24 : vm_chk m_I_dynamicHeadFault 24 k_I_dynamicHeadFault_24 = some 30 := by decide +kernel
theorem v_I_dynamicHeadFault_30 : vm_okV m_I_dynamicHeadFault m_I_fault 30 95 2 (270, 272, 2, 46, 273) = true := by decide +kernel
theorem d_I_dynamicHeadFault_33 : vm_dec m_I_dynamicHeadFault 33 .ireturn 1 = true := by decide +kernel
def k_I_dynamicHeadFault_34 : List vm_I := [.inl (.lload_n 3), .inr (.inl (.long 8, 365)), .inl .lrem, .inr (.inl (.long 0, 0))]
theorem kc_I_dynamicHeadFault_34 : vm_chk m_I_dynamicHeadFault 34 k_I_dynamicHeadFault_34 = some 40 := by decide +kernel
theorem dl_I_dynamicHeadFault_40 : vm_dec m_I_dynamicHeadFault 40 .lcmp 1 = true := by decide +kernel
theorem d_I_dynamicHeadFault_40 : vm_dec m_I_dynamicHeadFault 41 (.ifCond .eq 14) 3 = true := by decide +kernel
def k_I_dynamicHeadFault_44 : List vm_I := [.inl (.aload_n 0), .inr (.inl (.int 16, 0)), .inl (.iload_n 2), .inr (.inl (.int 16, 0)), .inl .iadd]
theorem kc_I_dynamicHeadFault_44 : vm_chk m_I_dynamicHeadFault 44 k_I_dynamicHeadFault_44 = some 51 := by decide +kernel
theorem v_I_dynamicHeadFault_51 : vm_okV m_I_dynamicHeadFault m_I_fault 51 95 2 (270, 272, 2, 46, 273) = true := by decide +kernel
theorem d_I_dynamicHeadFault_54 : vm_dec m_I_dynamicHeadFault 54 .ireturn 1 = true := by decide +kernel
def k_I_dynamicHeadFault_55 : List vm_I := [.inl (.aload_n 0), .inl (.iload_n 2), .inr (.inr (.inl (1, 147, 72, 0, 6))), .inr (.inl (.int 0, 0))]
theorem kc_I_dynamicHeadFault_55 : vm_chk m_I_dynamicHeadFault 55 k_I_dynamicHeadFault_55 = some 61 := by decide +kernel
theorem d_I_dynamicHeadFault_61 : vm_dec m_I_dynamicHeadFault 61 .ireturn 1 = true := by decide +kernel
def k_I_entryFault_0 : List vm_I := [.inl (.aload_n 1), .inr (.inl (.int 24, 0))]
theorem kc_I_entryFault_0 : vm_chk m_I_entryFault 0 k_I_entryFault_0 = some 3 := by decide +kernel
theorem v_I_entryFault_3 : vm_okV m_I_entryFault m_T_word 3 106 1 (282, 283, 284, 43, 285) = true := by decide +kernel
def k_I_entryFault_6 : List vm_I := [.inl (.aload_n 0), .inr (.inr (.inl (0, 144, 25, 0, 3))), .inl .i2l, .inl .ladd, .inl (.lstore_n 2), .inr (.inl (.int 0, 0)), .inl (.istore 4)]
theorem kc_I_entryFault_6 : vm_chk m_I_entryFault 6 k_I_entryFault_6 = some 16 := by decide +kernel
def k_I_entryFault_16 : List vm_I := [.inl (.iload 4), .inl (.aload_n 0), .inr (.inr (.inl (0, 142, 69, 0, 1)))]
theorem kc_I_entryFault_16 : vm_chk m_I_entryFault 16 k_I_entryFault_16 = some 22 := by decide +kernel
theorem d_I_entryFault_22 : vm_dec m_I_entryFault 22 (.if_icmp .ge 55) 3 = true := by decide +kernel
def k_I_entryFault_25 : List vm_I := [.inl (.iload 4), .inl (.aload_n 0), .inr (.inr (.inl (0, 141, 13, 0, 0))), .inl .arraylength]
theorem kc_I_entryFault_25 : vm_chk m_I_entryFault 25 k_I_entryFault_25 = some 32 := by decide +kernel
theorem d_I_entryFault_32 : vm_dec m_I_entryFault 32 (.if_icmp .ge 45) 3 = true := by decide +kernel
def k_I_entryFault_35 : List vm_I := [.inl (.aload_n 0), .inr (.inr (.inl (0, 141, 13, 0, 0))), .inl (.iload 4)]
theorem kc_I_entryFault_35 : vm_chk m_I_entryFault 35 k_I_entryFault_35 = some 41 := by decide +kernel
theorem d_I_entryFault_41 : vm_dec m_I_entryFault 41 .aaload 1 = true := by decide +kernel
def k_I_entryFault_42 : List vm_I := [.inl (.astore 5), .inl (.aload 5), .inl (.lload_n 2)]
theorem kc_I_entryFault_42 : vm_chk m_I_entryFault 42 k_I_entryFault_42 = some 47 := by decide +kernel
theorem v_I_entryFault_47 : vm_okV m_I_entryFault m_S_holds 47 179 1 (370, 371, 372, 47, 373) = true := by decide +kernel
theorem d_I_entryFault_50 : vm_dec m_I_entryFault 50 (.ifCond .eq 21) 3 = true := by decide +kernel
def k_I_entryFault_53 : List vm_I := [.inl (.aload 5)]
theorem kc_I_entryFault_53 : vm_chk m_I_entryFault 53 k_I_entryFault_53 = some 55 := by decide +kernel
def k_I_entryFault_55 : List vm_I := [.inr (.inr (.inl (2, 4, 183, 1, 6)))]
theorem kc_I_entryFault_55 : vm_chk m_I_entryFault 55 k_I_entryFault_55 = some 58 := by decide +kernel
def k_I_entryFault_58 : List vm_I := [.inr (.inl (.int 1, 0)), .inl .iand]
theorem kc_I_entryFault_58 : vm_chk m_I_entryFault 58 k_I_entryFault_58 = some 60 := by decide +kernel
theorem d_I_entryFault_60 : vm_dec m_I_entryFault 60 (.ifCond .eq 11) 3 = true := by decide +kernel
def k_I_entryFault_63 : List vm_I := [.inl (.aload_n 0), .inl (.lload_n 2), .inl .l2i, .inr (.inr (.inl (1, 145, 28, 0, 4))), .inr (.inl (.int 0, 0))]
theorem kc_I_entryFault_63 : vm_chk m_I_entryFault 63 k_I_entryFault_63 = some 70 := by decide +kernel
theorem d_I_entryFault_70 : vm_dec m_I_entryFault 70 .ireturn 1 = true := by decide +kernel
def k_I_entryFault_71 : List vm_I := [.inr (.inr (.inr (4, 1)))]
theorem kc_I_entryFault_71 : vm_chk m_I_entryFault 71 k_I_entryFault_71 = some 74 := by decide +kernel
theorem d_I_entryFault_74 : vm_dec m_I_entryFault 74 (.goto (-58)) 3 = true := by decide +kernel
def k_I_entryFault_77 : List vm_I := [.inl (.aload_n 0), .inr (.inl (.int 18, 0)), .inr (.inl (.int 24, 0))]
theorem kc_I_entryFault_77 : vm_chk m_I_entryFault 77 k_I_entryFault_77 = some 82 := by decide +kernel
theorem v_I_entryFault_82 : vm_okV m_I_entryFault m_I_fault 82 95 2 (270, 272, 2, 46, 273) = true := by decide +kernel
theorem d_I_entryFault_85 : vm_dec m_I_entryFault 85 .ireturn 1 = true := by decide +kernel
def k_I_dynamicFault_0 : List vm_I := [.inl (.aload_n 0), .inr (.inr (.inl (0, 147, 72, 0, 6))), .inr (.inl (.int (-1), 0))]
theorem kc_I_dynamicFault_0 : vm_chk m_I_dynamicFault 0 k_I_dynamicFault_0 = some 5 := by decide +kernel
theorem d_I_dynamicFault_5 : vm_dec m_I_dynamicFault 5 (.if_icmp .ne 5) 3 = true := by decide +kernel
def k_I_dynamicFault_8 : List vm_I := [.inr (.inl (.int 0, 0))]
theorem kc_I_dynamicFault_8 : vm_chk m_I_dynamicFault 8 k_I_dynamicFault_8 = some 9 := by decide +kernel
theorem d_I_dynamicFault_9 : vm_dec m_I_dynamicFault 9 .ireturn 1 = true := by decide +kernel
def k_I_dynamicFault_10 : List vm_I := [.inl (.aload_n 0), .inl (.aload_n 1)]
theorem kc_I_dynamicFault_10 : vm_chk m_I_dynamicFault 10 k_I_dynamicFault_10 = some 12 := by decide +kernel
theorem v_I_dynamicFault_12 : vm_okV m_I_dynamicFault m_I_takeDynamicPairs 12 186 1 (378, 380, 9, 46, 381) = true := by decide +kernel
def k_I_dynamicFault_15 : List vm_I := [.inl (.aload_n 0), .inr (.inr (.inl (0, 149, 79, 0, 8))), .inr (.inl (.long 12, 390)), .inl .lrem, .inr (.inl (.long 0, 0))]
theorem kc_I_dynamicFault_15 : vm_chk m_I_dynamicFault 15 k_I_dynamicFault_15 = some 24 := by decide +kernel
theorem dl_I_dynamicFault_24 : vm_dec m_I_dynamicFault 24 .lcmp 1 = true := by decide +kernel
theorem d_I_dynamicFault_24 : vm_dec m_I_dynamicFault 25 (.ifCond .ne 42) 3 = true := by decide +kernel
def k_I_dynamicFault_28 : List vm_I := [.inl (.aload_n 0), .inr (.inr (.inl (0, 149, 79, 0, 8))), .inr (.inl (.long 12, 390)), .inl .ldiv, .inr (.inl (.long 60, 391))]
theorem kc_I_dynamicFault_28 : vm_chk m_I_dynamicFault 28 k_I_dynamicFault_28 = some 39 := by decide +kernel
theorem dl_I_dynamicFault_39 : vm_dec m_I_dynamicFault 39 .lcmp 1 = true := by decide +kernel
theorem d_I_dynamicFault_39 : vm_dec m_I_dynamicFault 40 (.ifCond .gt 27) 3 = true := by decide +kernel
def k_I_dynamicFault_43 : List vm_I := [.inl (.aload_n 0), .inr (.inr (.inl (0, 149, 79, 0, 8))), .inr (.inl (.long 0, 0))]
theorem kc_I_dynamicFault_43 : vm_chk m_I_dynamicFault 43 k_I_dynamicFault_43 = some 48 := by decide +kernel
theorem dl_I_dynamicFault_48 : vm_dec m_I_dynamicFault 48 .lcmp 1 = true := by decide +kernel
theorem d_I_dynamicFault_48 : vm_dec m_I_dynamicFault 49 (.ifCond .eq 14) 3 = true := by decide +kernel
def k_I_dynamicFault_52 : List vm_I := [.inl (.aload_n 0), .inr (.inr (.inl (0, 150, 82, 0, 9))), .inr (.inl (.long 12, 390))]
theorem kc_I_dynamicFault_52 : vm_chk m_I_dynamicFault 52 k_I_dynamicFault_52 = some 59 := by decide +kernel
theorem dl_I_dynamicFault_59 : vm_dec m_I_dynamicFault 59 .lcmp 1 = true := by decide +kernel
theorem d_I_dynamicFault_59 : vm_dec m_I_dynamicFault 60 (.ifCond .ne 7) 3 = true := by decide +kernel
def k_I_dynamicFault_63 : List vm_I := [.inr (.inl (.int 1, 0))]
theorem kc_I_dynamicFault_63 : vm_chk m_I_dynamicFault 63 k_I_dynamicFault_63 = some 64 := by decide +kernel
theorem d_I_dynamicFault_64 : vm_dec m_I_dynamicFault 64 (.goto 4) 3 = true := by decide +kernel
def k_I_dynamicFault_67 : List vm_I := [.inr (.inl (.int 0, 0))]
theorem kc_I_dynamicFault_67 : vm_chk m_I_dynamicFault 67 k_I_dynamicFault_67 = some 68 := by decide +kernel
def k_I_dynamicFault_68 : List vm_I := [.inl (.istore_n 2), .inl (.iload_n 2)]
theorem kc_I_dynamicFault_68 : vm_chk m_I_dynamicFault 68 k_I_dynamicFault_68 = some 70 := by decide +kernel
theorem d_I_dynamicFault_70 : vm_dec m_I_dynamicFault 70 (.ifCond .ne 14) 3 = true := by decide +kernel
def k_I_dynamicFault_73 : List vm_I := [.inl (.aload_n 0), .inr (.inl (.int 19, 0)), .inl (.aload_n 0), .inr (.inr (.inl (0, 147, 72, 0, 6)))]
theorem kc_I_dynamicFault_73 : vm_chk m_I_dynamicFault 73 k_I_dynamicFault_73 = some 80 := by decide +kernel
theorem v_I_dynamicFault_80 : vm_okV m_I_dynamicFault m_I_fault 80 95 2 (270, 272, 2, 46, 273) = true := by decide +kernel
theorem d_I_dynamicFault_83 : vm_dec m_I_dynamicFault 83 .ireturn 1 = true := by decide +kernel
def k_I_dynamicFault_84 : List vm_I := [.inl (.aload_n 0), .inl (.aload_n 0), .inr (.inr (.inl (0, 149, 79, 0, 8))), .inr (.inl (.long 12, 390)), .inl .ldiv, .inl .l2i, .inr (.inr (.inl (1, 153, 34, 0, 12))), .inr (.inl (.int 0, 0))]
theorem kc_I_dynamicFault_84 : vm_chk m_I_dynamicFault 84 k_I_dynamicFault_84 = some 98 := by decide +kernel
theorem d_I_dynamicFault_98 : vm_dec m_I_dynamicFault 98 .ireturn 1 = true := by decide +kernel
def k_I_takeDynamicPairs_0 : List vm_I := [.inl (.aload_n 1), .inl (.aload_n 0), .inr (.inr (.inl (0, 147, 72, 0, 6))), .inr (.inl (.int 4, 0)), .inl .iadd]
theorem kc_I_takeDynamicPairs_0 : vm_chk m_I_takeDynamicPairs 0 k_I_takeDynamicPairs_0 = some 7 := by decide +kernel
theorem v_I_takeDynamicPairs_7 : vm_okV m_I_takeDynamicPairs m_T_word 7 106 1 (282, 283, 284, 43, 285) = true := by decide +kernel
def k_I_takeDynamicPairs_10 : List vm_I := [.inl .l2i, .inl (.istore_n 2), .inl (.aload_n 1), .inl (.aload_n 0), .inr (.inr (.inl (0, 147, 72, 0, 6))), .inr (.inl (.int 16, 0)), .inl .iadd]
theorem kc_I_takeDynamicPairs_10 : vm_chk m_I_takeDynamicPairs 10 k_I_takeDynamicPairs_10 = some 20 := by decide +kernel
theorem v_I_takeDynamicPairs_20 : vm_okV m_I_takeDynamicPairs m_T_word 20 106 1 (282, 283, 284, 43, 285) = true := by decide +kernel
def k_I_takeDynamicPairs_23 : List vm_I := [.inr (.inl (.long 8, 365)), .inl .ldiv, .inl .l2i, .inl (.istore_n 3), .inr (.inl (.int 0, 0)), .inl (.istore 4)]
theorem kc_I_takeDynamicPairs_23 : vm_chk m_I_takeDynamicPairs 23 k_I_takeDynamicPairs_23 = some 32 := by decide +kernel
def k_I_takeDynamicPairs_32 : List vm_I := [.inl (.iload 4), .inl (.iload_n 3)]
theorem kc_I_takeDynamicPairs_32 : vm_chk m_I_takeDynamicPairs 32 k_I_takeDynamicPairs_32 = some 35 := by decide +kernel
theorem d_I_takeDynamicPairs_35 : vm_dec m_I_takeDynamicPairs 35 (.if_icmp .ge 49) 3 = true := by decide +kernel
def k_I_takeDynamicPairs_38 : List vm_I := [.inl (.aload_n 1), .inl (.iload_n 2), .inr (.inl (.int 8, 0)), .inl (.iload 4), .inl .imul, .inl .iadd]
theorem kc_I_takeDynamicPairs_38 : vm_chk m_I_takeDynamicPairs 38 k_I_takeDynamicPairs_38 = some 46 := by decide +kernel
theorem v_I_takeDynamicPairs_46 : vm_okV m_I_takeDynamicPairs m_T_word 46 106 1 (282, 283, 284, 43, 285) = true := by decide +kernel
def k_I_takeDynamicPairs_49 : List vm_I := [.inl (.lstore 5), .inl (.lload 5), .inr (.inl (.long 0, 0))]
theorem kc_I_takeDynamicPairs_49 : vm_chk m_I_takeDynamicPairs 49 k_I_takeDynamicPairs_49 = some 54 := by decide +kernel
theorem dl_I_takeDynamicPairs_54 : vm_dec m_I_takeDynamicPairs 54 .lcmp 1 = true := by decide +kernel
theorem d_I_takeDynamicPairs_54 : vm_dec m_I_takeDynamicPairs 55 (.ifCond .ne 4) 3 = true := by decide +kernel
theorem d_I_takeDynamicPairs_58 : vm_dec m_I_takeDynamicPairs 58 .return_ 1 = true := by decide +kernel
def k_I_takeDynamicPairs_59 : List vm_I := [.inl (.aload_n 0), .inl (.lload 5), .inl (.aload_n 1), .inl (.iload_n 2), .inr (.inl (.int 8, 0)), .inl (.iload 4), .inl .imul, .inl .iadd, .inr (.inl (.int 4, 0)), .inl .iadd]
theorem kc_I_takeDynamicPairs_59 : vm_chk m_I_takeDynamicPairs 59 k_I_takeDynamicPairs_59 = some 72 := by decide +kernel
theorem v_I_takeDynamicPairs_72 : vm_okV m_I_takeDynamicPairs m_T_word 72 106 1 (282, 283, 284, 43, 285) = true := by decide +kernel
theorem v_I_takeDynamicPairs_75 : vm_okV m_I_takeDynamicPairs m_I_takeDynamicPair 75 194 2 (382, 384, 10, 46, 385) = true := by decide +kernel
def k_I_takeDynamicPairs_78 : List vm_I := [.inr (.inr (.inr (4, 1)))]
theorem kc_I_takeDynamicPairs_78 : vm_chk m_I_takeDynamicPairs 78 k_I_takeDynamicPairs_78 = some 81 := by decide +kernel
theorem d_I_takeDynamicPairs_81 : vm_dec m_I_takeDynamicPairs 81 (.goto (-49)) 3 = true := by decide +kernel
theorem d_I_takeDynamicPairs_84 : vm_dec m_I_takeDynamicPairs 84 .return_ 1 = true := by decide +kernel
def k_I_takeDynamicPair_0 : List vm_I := [.inl (.lload_n 1), .inr (.inl (.long 7, 386))]
theorem kc_I_takeDynamicPair_0 : vm_chk m_I_takeDynamicPair 0 k_I_takeDynamicPair_0 = some 4 := by decide +kernel
theorem dl_I_takeDynamicPair_4 : vm_dec m_I_takeDynamicPair 4 .lcmp 1 = true := by decide +kernel
theorem d_I_takeDynamicPair_4 : vm_dec m_I_takeDynamicPair 5 (.ifCond .ne 11) 3 = true := by decide +kernel
def k_I_takeDynamicPair_8 : List vm_I := [.inl (.aload_n 0), .inl (.lload_n 3), .inr (.inr (.inl (1, 148, 75, 0, 7)))]
theorem kc_I_takeDynamicPair_8 : vm_chk m_I_takeDynamicPair 8 k_I_takeDynamicPair_8 = some 13 := by decide +kernel
theorem d_I_takeDynamicPair_13 : vm_dec m_I_takeDynamicPair 13 (.goto 64) 3 = true := by decide +kernel
def k_I_takeDynamicPair_16 : List vm_I := [.inl (.lload_n 1), .inr (.inl (.long 8, 365))]
theorem kc_I_takeDynamicPair_16 : vm_chk m_I_takeDynamicPair 16 k_I_takeDynamicPair_16 = some 20 := by decide +kernel
theorem dl_I_takeDynamicPair_20 : vm_dec m_I_takeDynamicPair 20 .lcmp 1 = true := by decide +kernel
theorem d_I_takeDynamicPair_20 : vm_dec m_I_takeDynamicPair 21 (.ifCond .ne 11) 3 = true := by decide +kernel
def k_I_takeDynamicPair_24 : List vm_I := [.inl (.aload_n 0), .inl (.lload_n 3), .inr (.inr (.inl (1, 149, 79, 0, 8)))]
theorem kc_I_takeDynamicPair_24 : vm_chk m_I_takeDynamicPair 24 k_I_takeDynamicPair_24 = some 29 := by decide +kernel
theorem d_I_takeDynamicPair_29 : vm_dec m_I_takeDynamicPair 29 (.goto 48) 3 = true := by decide +kernel
def k_I_takeDynamicPair_32 : List vm_I := [.inl (.lload_n 1), .inr (.inl (.long 9, 387))]
theorem kc_I_takeDynamicPair_32 : vm_chk m_I_takeDynamicPair 32 k_I_takeDynamicPair_32 = some 36 := by decide +kernel
theorem dl_I_takeDynamicPair_36 : vm_dec m_I_takeDynamicPair 36 .lcmp 1 = true := by decide +kernel
theorem d_I_takeDynamicPair_36 : vm_dec m_I_takeDynamicPair 37 (.ifCond .ne 11) 3 = true := by decide +kernel
def k_I_takeDynamicPair_40 : List vm_I := [.inl (.aload_n 0), .inl (.lload_n 3), .inr (.inr (.inl (1, 150, 82, 0, 9)))]
theorem kc_I_takeDynamicPair_40 : vm_chk m_I_takeDynamicPair 40 k_I_takeDynamicPair_40 = some 45 := by decide +kernel
theorem d_I_takeDynamicPair_45 : vm_dec m_I_takeDynamicPair 45 (.goto 32) 3 = true := by decide +kernel
def k_I_takeDynamicPair_48 : List vm_I := [.inl (.lload_n 1), .inr (.inl (.long 6, 388))]
theorem kc_I_takeDynamicPair_48 : vm_chk m_I_takeDynamicPair 48 k_I_takeDynamicPair_48 = some 52 := by decide +kernel
theorem dl_I_takeDynamicPair_52 : vm_dec m_I_takeDynamicPair 52 .lcmp 1 = true := by decide +kernel
theorem d_I_takeDynamicPair_52 : vm_dec m_I_takeDynamicPair 53 (.ifCond .ne 11) 3 = true := by decide +kernel
def k_I_takeDynamicPair_56 : List vm_I := [.inl (.aload_n 0), .inl (.lload_n 3), .inr (.inr (.inl (1, 151, 85, 0, 10)))]
theorem kc_I_takeDynamicPair_56 : vm_chk m_I_takeDynamicPair 56 k_I_takeDynamicPair_56 = some 61 := by decide +kernel
theorem d_I_takeDynamicPair_61 : vm_dec m_I_takeDynamicPair 61 (.goto 16) 3 = true := by decide +kernel
def k_I_takeDynamicPair_64 : List vm_I := [.inl (.lload_n 1), .inr (.inl (.long 11, 389))]
theorem kc_I_takeDynamicPair_64 : vm_chk m_I_takeDynamicPair 64 k_I_takeDynamicPair_64 = some 68 := by decide +kernel
theorem dl_I_takeDynamicPair_68 : vm_dec m_I_takeDynamicPair 68 .lcmp 1 = true := by decide +kernel
theorem d_I_takeDynamicPair_68 : vm_dec m_I_takeDynamicPair 69 (.ifCond .ne 8) 3 = true := by decide +kernel
def k_I_takeDynamicPair_72 : List vm_I := [.inl (.aload_n 0), .inl (.lload_n 3), .inr (.inr (.inl (1, 152, 88, 0, 11)))]
theorem kc_I_takeDynamicPair_72 : vm_chk m_I_takeDynamicPair 72 k_I_takeDynamicPair_72 = some 77 := by decide +kernel
theorem d_I_takeDynamicPair_77 : vm_dec m_I_takeDynamicPair 77 .return_ 1 = true := by decide +kernel
def k_I_lay_0 : List vm_I := [.inr (.inl (.int 0, 0)), .inl (.istore_n 3)]
theorem kc_I_lay_0 : vm_chk m_I_lay 0 k_I_lay_0 = some 2 := by decide +kernel
def k_I_lay_2 : List vm_I := [.inl (.iload_n 3), .inl (.aload_n 0), .inr (.inr (.inl (0, 142, 69, 0, 1)))]
theorem kc_I_lay_2 : vm_chk m_I_lay 2 k_I_lay_2 = some 7 := by decide +kernel
theorem d_I_lay_7 : vm_dec m_I_lay 7 (.if_icmp .ge 29) 3 = true := by decide +kernel
def k_I_lay_10 : List vm_I := [.inl (.iload_n 3), .inl (.aload_n 0), .inr (.inr (.inl (0, 141, 13, 0, 0))), .inl .arraylength]
theorem kc_I_lay_10 : vm_chk m_I_lay 10 k_I_lay_10 = some 16 := by decide +kernel
theorem d_I_lay_16 : vm_dec m_I_lay 16 (.if_icmp .ge 20) 3 = true := by decide +kernel
def k_I_lay_19 : List vm_I := [.inl (.aload_n 0), .inr (.inr (.inl (0, 141, 13, 0, 0))), .inl (.iload_n 3)]
theorem kc_I_lay_19 : vm_chk m_I_lay 19 k_I_lay_19 = some 24 := by decide +kernel
theorem d_I_lay_24 : vm_dec m_I_lay 24 .aaload 1 = true := by decide +kernel
def k_I_lay_25 : List vm_I := [.inl (.aload_n 1), .inl (.aload_n 2)]
theorem kc_I_lay_25 : vm_chk m_I_lay 25 k_I_lay_25 = some 27 := by decide +kernel
theorem v_I_lay_27 : vm_okV m_I_lay m_S_lay 27 206 2 (396, 397, 398, 47, 399) = true := by decide +kernel
def k_I_lay_30 : List vm_I := [.inr (.inr (.inr (3, 1)))]
theorem kc_I_lay_30 : vm_chk m_I_lay 30 k_I_lay_30 = some 33 := by decide +kernel
theorem d_I_lay_33 : vm_dec m_I_lay 33 (.goto (-31)) 3 = true := by decide +kernel
theorem d_I_lay_36 : vm_dec m_I_lay 36 .return_ 1 = true := by decide +kernel
def k_I_takeBack_0 : List vm_I := [.inr (.inl (.int 0, 0)), .inl (.istore_n 2)]
theorem kc_I_takeBack_0 : vm_chk m_I_takeBack 0 k_I_takeBack_0 = some 2 := by decide +kernel
def k_I_takeBack_2 : List vm_I := [.inl (.iload_n 2), .inl (.aload_n 0), .inr (.inr (.inl (0, 142, 69, 0, 1)))]
theorem kc_I_takeBack_2 : vm_chk m_I_takeBack 2 k_I_takeBack_2 = some 7 := by decide +kernel
theorem d_I_takeBack_7 : vm_dec m_I_takeBack 7 (.if_icmp .ge 40) 3 = true := by decide +kernel
def k_I_takeBack_10 : List vm_I := [.inl (.iload_n 2), .inl (.aload_n 0), .inr (.inr (.inl (0, 141, 13, 0, 0))), .inl .arraylength]
theorem kc_I_takeBack_10 : vm_chk m_I_takeBack 10 k_I_takeBack_10 = some 16 := by decide +kernel
theorem d_I_takeBack_16 : vm_dec m_I_takeBack 16 (.if_icmp .ge 31) 3 = true := by decide +kernel
def k_I_takeBack_19 : List vm_I := [.inl (.aload_n 1), .inl (.aload_n 0), .inr (.inr (.inl (0, 141, 13, 0, 0))), .inl (.iload_n 2)]
theorem kc_I_takeBack_19 : vm_chk m_I_takeBack 19 k_I_takeBack_19 = some 25 := by decide +kernel
theorem d_I_takeBack_25 : vm_dec m_I_takeBack 25 .aaload 1 = true := by decide +kernel
theorem v_I_takeBack_26 : vm_okV m_I_takeBack m_S_firstPage 26 152 0 (322, 323, 324, 47, 325) = true := by decide +kernel
def k_I_takeBack_29 : List vm_I := [.inl (.aload_n 0), .inr (.inr (.inl (0, 141, 13, 0, 0))), .inl (.iload_n 2)]
theorem kc_I_takeBack_29 : vm_chk m_I_takeBack 29 k_I_takeBack_29 = some 34 := by decide +kernel
theorem d_I_takeBack_34 : vm_dec m_I_takeBack 34 .aaload 1 = true := by decide +kernel
theorem v_I_takeBack_35 : vm_okV m_I_takeBack m_S_lastPage 35 155 0 (327, 328, 329, 47, 330) = true := by decide +kernel
theorem v_I_takeBack_38 : vm_okV m_I_takeBack m_P_releaseAll 38 207 2 (455, 456, 457, 44, 458) = true := by decide +kernel
def k_I_takeBack_41 : List vm_I := [.inr (.inr (.inr (2, 1)))]
theorem kc_I_takeBack_41 : vm_chk m_I_takeBack 41 k_I_takeBack_41 = some 44 := by decide +kernel
theorem d_I_takeBack_44 : vm_dec m_I_takeBack 44 (.goto (-42)) 3 = true := by decide +kernel
theorem d_I_takeBack_47 : vm_dec m_I_takeBack 47 .return_ 1 = true := by decide +kernel
def k_I_relocationsFault_0 : List vm_I := [.inr (.inl (.int 0, 0)), .inl (.istore_n 2)]
theorem kc_I_relocationsFault_0 : vm_chk m_I_relocationsFault 0 k_I_relocationsFault_0 = some 2 := by decide +kernel
def k_I_relocationsFault_2 : List vm_I := [.inl (.iload_n 2), .inl (.aload_n 0), .inr (.inr (.inl (0, 153, 34, 0, 12)))]
theorem kc_I_relocationsFault_2 : vm_chk m_I_relocationsFault 2 k_I_relocationsFault_2 = some 7 := by decide +kernel
theorem d_I_relocationsFault_7 : vm_dec m_I_relocationsFault 7 (.if_icmp .ge 27) 3 = true := by decide +kernel
def k_I_relocationsFault_10 : List vm_I := [.inl (.aload_n 0), .inl (.aload_n 1), .inl (.iload_n 2)]
theorem kc_I_relocationsFault_10 : vm_chk m_I_relocationsFault 10 k_I_relocationsFault_10 = some 13 := by decide +kernel
theorem v_I_relocationsFault_13 : vm_okV m_I_relocationsFault m_I_relocationFault 13 211 2 (426, 428, 14, 46, 429) = true := by decide +kernel
def k_I_relocationsFault_16 : List vm_I := [.inl (.istore_n 3), .inl (.iload_n 3)]
theorem kc_I_relocationsFault_16 : vm_chk m_I_relocationsFault 16 k_I_relocationsFault_16 = some 18 := by decide +kernel
theorem d_I_relocationsFault_18 : vm_dec m_I_relocationsFault 18 (.ifCond .eq 10) 3 = true := by decide +kernel
def k_I_relocationsFault_21 : List vm_I := [.inl (.aload_n 0), .inl (.iload_n 3), .inl (.iload_n 2)]
theorem kc_I_relocationsFault_21 : vm_chk m_I_relocationsFault 21 k_I_relocationsFault_21 = some 24 := by decide +kernel
theorem v_I_relocationsFault_24 : vm_okV m_I_relocationsFault m_I_fault 24 95 2 (270, 272, 2, 46, 273) = true := by decide +kernel
theorem d_I_relocationsFault_27 : vm_dec m_I_relocationsFault 27 .ireturn 1 = true := by decide +kernel
def k_I_relocationsFault_28 : List vm_I := [.inr (.inr (.inr (2, 1)))]
theorem kc_I_relocationsFault_28 : vm_chk m_I_relocationsFault 28 k_I_relocationsFault_28 = some 31 := by decide +kernel
theorem d_I_relocationsFault_31 : vm_dec m_I_relocationsFault 31 (.goto (-29)) 3 = true := by decide +kernel
def k_I_relocationsFault_34 : List vm_I := [.inr (.inl (.int 0, 0))]
theorem kc_I_relocationsFault_34 : vm_chk m_I_relocationsFault 34 k_I_relocationsFault_34 = some 35 := by decide +kernel
theorem d_I_relocationsFault_35 : vm_dec m_I_relocationsFault 35 .ireturn 1 = true := by decide +kernel
def k_I_relocationFault_0 : List vm_I := [.inl (.aload_n 0), .inr (.inr (.inl (0, 148, 75, 0, 7))), .inl .l2i, .inl (.aload_n 0), .inr (.inr (.inl (0, 144, 25, 0, 3))), .inl .iadd, .inr (.inl (.int 12, 0)), .inl (.iload_n 2), .inl .imul, .inl .iadd, .inl (.istore_n 3), .inl (.aload_n 0), .inl (.iload_n 3), .inr (.inl (.int 12, 0))]
theorem kc_I_relocationFault_0 : vm_chk m_I_relocationFault 0 k_I_relocationFault_0 = some 20 := by decide +kernel
theorem v_I_relocationFault_20 : vm_okV m_I_relocationFault m_I_areHeld 20 215 2 (430, 432, 15, 46, 433) = true := by decide +kernel
theorem d_I_relocationFault_23 : vm_dec m_I_relocationFault 23 (.ifCond .ne 6) 3 = true := by decide +kernel
def k_I_relocationFault_26 : List vm_I := [.inr (.inl (.int 20, 0))]
theorem kc_I_relocationFault_26 : vm_chk m_I_relocationFault 26 k_I_relocationFault_26 = some 28 := by decide +kernel
theorem d_I_relocationFault_28 : vm_dec m_I_relocationFault 28 .ireturn 1 = true := by decide +kernel
def k_I_relocationFault_29 : List vm_I := [.inl (.aload_n 1), .inl (.iload_n 3), .inr (.inl (.int 4, 0))]
theorem kc_I_relocationFault_29 : vm_chk m_I_relocationFault 29 k_I_relocationFault_29 = some 32 := by decide +kernel
theorem v_I_relocationFault_32 : vm_okV m_I_relocationFault m_P_number 32 218 2 (434, 435, 436, 44, 437) = true := by decide +kernel
def k_I_relocationFault_35 : List vm_I := [.inl .l2i, .inl (.aload_n 0), .inr (.inr (.inl (0, 144, 25, 0, 3))), .inl .iadd, .inl (.istore 4), .inl (.aload_n 1), .inl (.iload_n 3), .inr (.inl (.int 4, 0)), .inl .iadd, .inr (.inl (.int 4, 0))]
theorem kc_I_relocationFault_35 : vm_chk m_I_relocationFault 35 k_I_relocationFault_35 = some 48 := by decide +kernel
theorem v_I_relocationFault_48 : vm_okV m_I_relocationFault m_P_number 48 218 2 (434, 435, 436, 44, 437) = true := by decide +kernel
def k_I_relocationFault_51 : List vm_I := [.inl .l2i, .inl (.istore 5), .inl (.aload_n 1), .inl (.iload_n 3), .inr (.inl (.int 8, 0)), .inl .iadd, .inr (.inl (.int 4, 0))]
theorem kc_I_relocationFault_51 : vm_chk m_I_relocationFault 51 k_I_relocationFault_51 = some 60 := by decide +kernel
theorem v_I_relocationFault_60 : vm_okV m_I_relocationFault m_P_number 60 218 2 (434, 435, 436, 44, 437) = true := by decide +kernel
def k_I_relocationFault_63 : List vm_I := [.inl .l2i, .inl (.istore 6), .inl (.aload_n 0), .inl (.iload 4), .inr (.inl (.int 4, 0))]
theorem kc_I_relocationFault_63 : vm_chk m_I_relocationFault 63 k_I_relocationFault_63 = some 70 := by decide +kernel
theorem v_I_relocationFault_70 : vm_okV m_I_relocationFault m_I_areHeld 70 215 2 (430, 432, 15, 46, 433) = true := by decide +kernel
theorem d_I_relocationFault_73 : vm_dec m_I_relocationFault 73 (.ifCond .ne 6) 3 = true := by decide +kernel
def k_I_relocationFault_76 : List vm_I := [.inr (.inl (.int 20, 0))]
theorem kc_I_relocationFault_76 : vm_chk m_I_relocationFault 76 k_I_relocationFault_76 = some 78 := by decide +kernel
theorem d_I_relocationFault_78 : vm_dec m_I_relocationFault 78 .ireturn 1 = true := by decide +kernel
def k_I_relocationFault_79 : List vm_I := [.inl (.iload 5), .inr (.inl (.int 255, 0)), .inl .iand]
theorem kc_I_relocationFault_79 : vm_chk m_I_relocationFault 79 k_I_relocationFault_79 = some 85 := by decide +kernel
theorem d_I_relocationFault_85 : vm_dec m_I_relocationFault 85 (.tableswitch 64 0 3 #[31, 33, 64, 48]) 31 = true := by decide +kernel
def k_I_relocationFault_116 : List vm_I := [.inr (.inl (.int 0, 0))]
theorem kc_I_relocationFault_116 : vm_chk m_I_relocationFault 116 k_I_relocationFault_116 = some 117 := by decide +kernel
theorem d_I_relocationFault_117 : vm_dec m_I_relocationFault 117 .ireturn 1 = true := by decide +kernel
def k_I_relocationFault_118 : List vm_I := [.inl (.aload_n 0), .inl (.aload_n 1), .inl (.iload 4), .inl (.iload 5), .inr (.inl (.int 8, 0)), .inl .iushr, .inl (.iload 6)]
theorem kc_I_relocationFault_118 : vm_chk m_I_relocationFault 118 k_I_relocationFault_118 = some 129 := by decide +kernel
theorem v_I_relocationFault_129 : vm_okV m_I_relocationFault m_I_symbolFault 129 222 4 (442, 444, 16, 46, 445) = true := by decide +kernel
theorem d_I_relocationFault_132 : vm_dec m_I_relocationFault 132 .ireturn 1 = true := by decide +kernel
def k_I_relocationFault_133 : List vm_I := [.inl (.aload_n 1), .inl (.iload 4), .inr (.inl (.int 4, 0)), .inl (.aload_n 0), .inr (.inr (.inl (0, 144, 25, 0, 3))), .inl (.iload 6), .inl .iadd]
theorem kc_I_relocationFault_133 : vm_chk m_I_relocationFault 133 k_I_relocationFault_133 = some 144 := by decide +kernel
theorem v_I_relocationFault_144 : vm_okV m_I_relocationFault m_P_setNumber 144 226 3 (447, 448, 449, 44, 450) = true := by decide +kernel
def k_I_relocationFault_147 : List vm_I := [.inr (.inl (.int 0, 0))]
theorem kc_I_relocationFault_147 : vm_chk m_I_relocationFault 147 k_I_relocationFault_147 = some 148 := by decide +kernel
theorem d_I_relocationFault_148 : vm_dec m_I_relocationFault 148 .ireturn 1 = true := by decide +kernel
def k_I_relocationFault_149 : List vm_I := [.inr (.inl (.int 21, 0))]
theorem kc_I_relocationFault_149 : vm_chk m_I_relocationFault 149 k_I_relocationFault_149 = some 151 := by decide +kernel
theorem d_I_relocationFault_151 : vm_dec m_I_relocationFault 151 .ireturn 1 = true := by decide +kernel
def k_I_symbolFault_0 : List vm_I := [.inl (.aload_n 0), .inr (.inr (.inl (0, 151, 85, 0, 10))), .inl .l2i, .inl (.aload_n 0), .inr (.inr (.inl (0, 144, 25, 0, 3))), .inl .iadd, .inr (.inl (.int 16, 0)), .inl (.iload_n 3), .inl .imul, .inl .iadd, .inl (.istore 5), .inl (.aload_n 0), .inr (.inr (.inl (0, 152, 88, 0, 11))), .inr (.inl (.long 16, 446))]
theorem kc_I_symbolFault_0 : vm_chk m_I_symbolFault 0 k_I_symbolFault_0 = some 24 := by decide +kernel
theorem dl_I_symbolFault_24 : vm_dec m_I_symbolFault 24 .lcmp 1 = true := by decide +kernel
theorem d_I_symbolFault_24 : vm_dec m_I_symbolFault 25 (.ifCond .ne 14) 3 = true := by decide +kernel
def k_I_symbolFault_28 : List vm_I := [.inl (.aload_n 0), .inl (.iload 5), .inr (.inl (.int 16, 0))]
theorem kc_I_symbolFault_28 : vm_chk m_I_symbolFault 28 k_I_symbolFault_28 = some 33 := by decide +kernel
theorem v_I_symbolFault_33 : vm_okV m_I_symbolFault m_I_areHeld 33 215 2 (430, 432, 15, 46, 433) = true := by decide +kernel
theorem d_I_symbolFault_36 : vm_dec m_I_symbolFault 36 (.ifCond .ne 6) 3 = true := by decide +kernel
def k_I_symbolFault_39 : List vm_I := [.inr (.inl (.int 22, 0))]
theorem kc_I_symbolFault_39 : vm_chk m_I_symbolFault 39 k_I_symbolFault_39 = some 41 := by decide +kernel
theorem d_I_symbolFault_41 : vm_dec m_I_symbolFault 41 .ireturn 1 = true := by decide +kernel
def k_I_symbolFault_42 : List vm_I := [.inl (.iload_n 3)]
theorem kc_I_symbolFault_42 : vm_chk m_I_symbolFault 42 k_I_symbolFault_42 = some 43 := by decide +kernel
theorem d_I_symbolFault_43 : vm_dec m_I_symbolFault 43 (.ifCond .eq 21) 3 = true := by decide +kernel
def k_I_symbolFault_46 : List vm_I := [.inl (.aload_n 1), .inl (.iload 5), .inr (.inl (.int 14, 0)), .inl .iadd, .inr (.inl (.int 2, 0))]
theorem kc_I_symbolFault_46 : vm_chk m_I_symbolFault 46 k_I_symbolFault_46 = some 53 := by decide +kernel
theorem v_I_symbolFault_53 : vm_okV m_I_symbolFault m_P_number 53 218 2 (434, 435, 436, 44, 437) = true := by decide +kernel
def k_I_symbolFault_56 : List vm_I := [.inr (.inl (.long 0, 0))]
theorem kc_I_symbolFault_56 : vm_chk m_I_symbolFault 56 k_I_symbolFault_56 = some 57 := by decide +kernel
theorem dl_I_symbolFault_57 : vm_dec m_I_symbolFault 57 .lcmp 1 = true := by decide +kernel
theorem d_I_symbolFault_57 : vm_dec m_I_symbolFault 58 (.ifCond .ne 6) 3 = true := by decide +kernel
def k_I_symbolFault_61 : List vm_I := [.inr (.inl (.int 23, 0))]
theorem kc_I_symbolFault_61 : vm_chk m_I_symbolFault 61 k_I_symbolFault_61 = some 63 := by decide +kernel
theorem d_I_symbolFault_63 : vm_dec m_I_symbolFault 63 .ireturn 1 = true := by decide +kernel
def k_I_symbolFault_64 : List vm_I := [.inl (.iload_n 3)]
theorem kc_I_symbolFault_64 : vm_chk m_I_symbolFault 64 k_I_symbolFault_64 = some 65 := by decide +kernel
theorem d_I_symbolFault_65 : vm_dec m_I_symbolFault 65 (.ifCond .ne 7) 3 = true := by decide +kernel
def k_I_symbolFault_68 : List vm_I := [.inr (.inl (.int 0, 0))]
theorem kc_I_symbolFault_68 : vm_chk m_I_symbolFault 68 k_I_symbolFault_68 = some 69 := by decide +kernel
theorem d_I_symbolFault_69 : vm_dec m_I_symbolFault 69 (.goto 18) 3 = true := by decide +kernel
def k_I_symbolFault_72 : List vm_I := [.inl (.aload_n 1), .inl (.iload 5), .inr (.inl (.int 4, 0)), .inl .iadd, .inr (.inl (.int 4, 0))]
theorem kc_I_symbolFault_72 : vm_chk m_I_symbolFault 72 k_I_symbolFault_72 = some 78 := by decide +kernel
theorem v_I_symbolFault_78 : vm_okV m_I_symbolFault m_P_number 78 218 2 (434, 435, 436, 44, 437) = true := by decide +kernel
def k_I_symbolFault_81 : List vm_I := [.inl .l2i, .inl (.aload_n 0), .inr (.inr (.inl (0, 144, 25, 0, 3))), .inl .iadd]
theorem kc_I_symbolFault_81 : vm_chk m_I_symbolFault 81 k_I_symbolFault_81 = some 87 := by decide +kernel
def k_I_symbolFault_87 : List vm_I := [.inl (.istore 6), .inl (.aload_n 1), .inl (.iload_n 2), .inr (.inl (.int 4, 0)), .inl (.iload 4), .inl (.iload 6), .inl .iadd]
theorem kc_I_symbolFault_87 : vm_chk m_I_symbolFault 87 k_I_symbolFault_87 = some 97 := by decide +kernel
theorem v_I_symbolFault_97 : vm_okV m_I_symbolFault m_P_setNumber 97 226 3 (447, 448, 449, 44, 450) = true := by decide +kernel
def k_I_symbolFault_100 : List vm_I := [.inr (.inl (.int 0, 0))]
theorem kc_I_symbolFault_100 : vm_chk m_I_symbolFault 100 k_I_symbolFault_100 = some 101 := by decide +kernel
theorem d_I_symbolFault_101 : vm_dec m_I_symbolFault 101 .ireturn 1 = true := by decide +kernel
def k_I_areHeld_0 : List vm_I := [.inr (.inl (.int 0, 0)), .inl (.istore_n 3), .inr (.inl (.int 0, 0)), .inl (.istore 4)]
theorem kc_I_areHeld_0 : vm_chk m_I_areHeld 0 k_I_areHeld_0 = some 5 := by decide +kernel
def k_I_areHeld_5 : List vm_I := [.inl (.iload 4), .inl (.aload_n 0), .inr (.inr (.inl (0, 142, 69, 0, 1)))]
theorem kc_I_areHeld_5 : vm_chk m_I_areHeld 5 k_I_areHeld_5 = some 11 := by decide +kernel
theorem d_I_areHeld_11 : vm_dec m_I_areHeld 11 (.if_icmp .ge 55) 3 = true := by decide +kernel
def k_I_areHeld_14 : List vm_I := [.inl (.iload 4), .inl (.aload_n 0), .inr (.inr (.inl (0, 141, 13, 0, 0))), .inl .arraylength]
theorem kc_I_areHeld_14 : vm_chk m_I_areHeld 14 k_I_areHeld_14 = some 21 := by decide +kernel
theorem d_I_areHeld_21 : vm_dec m_I_areHeld 21 (.if_icmp .ge 45) 3 = true := by decide +kernel
def k_I_areHeld_24 : List vm_I := [.inr (.inl (.int 0, 0)), .inl (.istore 5)]
theorem kc_I_areHeld_24 : vm_chk m_I_areHeld 24 k_I_areHeld_24 = some 27 := by decide +kernel
def k_I_areHeld_27 : List vm_I := [.inl (.iload 5), .inl (.iload_n 2)]
theorem kc_I_areHeld_27 : vm_chk m_I_areHeld 27 k_I_areHeld_27 = some 30 := by decide +kernel
theorem d_I_areHeld_30 : vm_dec m_I_areHeld 30 (.if_icmp .ge 30) 3 = true := by decide +kernel
def k_I_areHeld_33 : List vm_I := [.inl (.aload_n 0), .inr (.inr (.inl (0, 141, 13, 0, 0))), .inl (.iload 4)]
theorem kc_I_areHeld_33 : vm_chk m_I_areHeld 33 k_I_areHeld_33 = some 39 := by decide +kernel
theorem d_I_areHeld_39 : vm_dec m_I_areHeld 39 .aaload 1 = true := by decide +kernel
def k_I_areHeld_40 : List vm_I := [.inl (.iload_n 1), .inl (.iload 5), .inl .iadd, .inl .i2l]
theorem kc_I_areHeld_40 : vm_chk m_I_areHeld 40 k_I_areHeld_40 = some 45 := by decide +kernel
theorem v_I_areHeld_45 : vm_okV m_I_areHeld m_S_holds 45 179 1 (370, 371, 372, 47, 373) = true := by decide +kernel
theorem d_I_areHeld_48 : vm_dec m_I_areHeld 48 (.ifCond .eq 6) 3 = true := by decide +kernel
def k_I_areHeld_51 : List vm_I := [.inr (.inr (.inr (3, 1)))]
theorem kc_I_areHeld_51 : vm_chk m_I_areHeld 51 k_I_areHeld_51 = some 54 := by decide +kernel
def k_I_areHeld_54 : List vm_I := [.inr (.inr (.inr (5, 1)))]
theorem kc_I_areHeld_54 : vm_chk m_I_areHeld 54 k_I_areHeld_54 = some 57 := by decide +kernel
theorem d_I_areHeld_57 : vm_dec m_I_areHeld 57 (.goto (-30)) 3 = true := by decide +kernel
def k_I_areHeld_60 : List vm_I := [.inr (.inr (.inr (4, 1)))]
theorem kc_I_areHeld_60 : vm_chk m_I_areHeld 60 k_I_areHeld_60 = some 63 := by decide +kernel
theorem d_I_areHeld_63 : vm_dec m_I_areHeld 63 (.goto (-58)) 3 = true := by decide +kernel
def k_I_areHeld_66 : List vm_I := [.inl (.iload_n 3), .inl (.iload_n 2)]
theorem kc_I_areHeld_66 : vm_chk m_I_areHeld 66 k_I_areHeld_66 = some 68 := by decide +kernel
theorem d_I_areHeld_68 : vm_dec m_I_areHeld 68 (.if_icmp .ne 7) 3 = true := by decide +kernel
def k_I_areHeld_71 : List vm_I := [.inr (.inl (.int 1, 0))]
theorem kc_I_areHeld_71 : vm_chk m_I_areHeld 71 k_I_areHeld_71 = some 72 := by decide +kernel
theorem d_I_areHeld_72 : vm_dec m_I_areHeld 72 (.goto 4) 3 = true := by decide +kernel
def k_I_areHeld_75 : List vm_I := [.inr (.inl (.int 0, 0))]
theorem kc_I_areHeld_75 : vm_chk m_I_areHeld 75 k_I_areHeld_75 = some 76 := by decide +kernel
theorem d_I_areHeld_76 : vm_dec m_I_areHeld 76 .ireturn 1 = true := by decide +kernel
end
section
def k_M_init_0 : List vm_I := [.inl (.aload_n 0)]
theorem kc_M_init_0 : vm_chk m_M_init 0 k_M_init_0 = some 1 := by decide +kernel
theorem d_M_init_1 : vm_dec m_M_init 1 (.invokespecial 1) 3 = true := by decide +kernel
def k_M_init_4 : List vm_I := [.inl (.aload_n 0), .inr (.inl (.int 900, 0))]
theorem kc_M_init_4 : vm_chk m_M_init 4 k_M_init_4 = some 8 := by decide +kernel
-- M_init_8 [8, 'newarray', 'int', '']
def k_M_init_10 : List vm_I := [.inr (.inr (.inl (3, 591, 7, 5, 3))), .inl (.aload_n 0), .inr (.inl (.int 64, 0))]
theorem kc_M_init_10 : vm_chk m_M_init 10 k_M_init_10 = some 16 := by decide +kernel
-- M_init_16 [16, 'newarray', 'boolean', '']
def k_M_init_18 : List vm_I := [.inr (.inr (.inl (3, 592, 13, 5, 4))), .inl (.aload_n 0), .inr (.inl (.int 64, 0))]
theorem kc_M_init_18 : vm_chk m_M_init 18 k_M_init_18 = some 24 := by decide +kernel
-- M_init_24 [24, 'newarray', 'int', '']
def k_M_init_26 : List vm_I := [.inr (.inr (.inl (3, 593, 17, 5, 5))), .inl (.aload_n 0), .inr (.inl (.int 16384, 0))]
theorem kc_M_init_26 : vm_chk m_M_init 26 k_M_init_26 = some 33 := by decide +kernel
-- M_init_33 [33, 'newarray', 'int', '']
def k_M_init_35 : List vm_I := [.inr (.inr (.inl (3, 594, 20, 5, 6))), .inl (.aload_n 0), .inr (.inl (.int 8, 0))]
theorem kc_M_init_35 : vm_chk m_M_init 35 k_M_init_35 = some 41 := by decide +kernel
-- M_init_41 [41, 'newarray', 'long', '']
def k_M_init_43 : List vm_I := [.inr (.inr (.inl (3, 596, 23, 5, 8))), .inl (.aload_n 0), .inr (.inl (.int 8, 0))]
theorem kc_M_init_43 : vm_chk m_M_init 43 k_M_init_43 = some 49 := by decide +kernel
-- M_init_49 [49, 'newarray', 'long', '']
def k_M_init_51 : List vm_I := [.inr (.inr (.inl (3, 597, 27, 5, 9))), .inl (.aload_n 0), .inr (.inl (.int 8, 0))]
theorem kc_M_init_51 : vm_chk m_M_init 51 k_M_init_51 = some 57 := by decide +kernel
-- M_init_57 [57, 'newarray', 'int', '']
def k_M_init_59 : List vm_I := [.inr (.inr (.inl (3, 598, 30, 5, 10))), .inl (.aload_n 0), .inr (.inl (.int 8, 0))]
theorem kc_M_init_59 : vm_chk m_M_init 59 k_M_init_59 = some 65 := by decide +kernel
-- M_init_65 [65, 'newarray', 'int', '']
def k_M_init_67 : List vm_I := [.inr (.inr (.inl (3, 599, 33, 5, 11))), .inl (.aload_n 0), .inr (.inl (.int 8, 0))]
theorem kc_M_init_67 : vm_chk m_M_init 67 k_M_init_67 = some 73 := by decide +kernel
-- M_init_73 [73, 'newarray', 'int', '']
def k_M_init_75 : List vm_I := [.inr (.inr (.inl (3, 600, 36, 5, 12))), .inl (.aload_n 0), .inr (.inl (.int 64, 0))]
theorem kc_M_init_75 : vm_chk m_M_init 75 k_M_init_75 = some 81 := by decide +kernel
-- M_init_81 [81, 'newarray', 'boolean', '']
def k_M_init_83 : List vm_I := [.inr (.inr (.inl (3, 601, 39, 5, 13))), .inl (.aload_n 0), .inr (.inl (.int 12, 0))]
theorem kc_M_init_83 : vm_chk m_M_init 83 k_M_init_83 = some 89 := by decide +kernel
-- M_init_89 [89, 'newarray', 'long', '']
def k_M_init_91 : List vm_I := [.inr (.inr (.inl (3, 605, 42, 5, 17))), .inl (.aload_n 0), .inr (.inl (.int (-1), 0)), .inr (.inr (.inl (1, 607, 45, 5, 19))), .inl (.aload_n 0), .inr (.inl (.int (-1), 0)), .inr (.inr (.inl (1, 608, 49, 5, 20))), .inl (.aload_n 0), .inr (.inl (.int (-1), 0)), .inr (.inr (.inl (1, 609, 52, 5, 21))), .inl (.aload_n 0), .inr (.inl (.int (-1), 0)), .inr (.inr (.inl (1, 610, 55, 5, 22))), .inl (.aload_n 0), .inl (.iload_n 1), .inr (.inl (.int 1, 0))]
theorem kc_M_init_91 : vm_chk m_M_init 91 k_M_init_91 = some 117 := by decide +kernel
theorem d_M_init_117 : vm_dec m_M_init 117 (.if_icmp .ge 7) 3 = true := by decide +kernel
def k_M_init_120 : List vm_I := [.inr (.inl (.int 1, 0))]
theorem kc_M_init_120 : vm_chk m_M_init 120 k_M_init_120 = some 121 := by decide +kernel
theorem d_M_init_121 : vm_dec m_M_init 121 (.goto 15) 3 = true := by decide +kernel
def k_M_init_124 : List vm_I := [.inl (.iload_n 1), .inr (.inl (.int 64, 0))]
theorem kc_M_init_124 : vm_chk m_M_init 124 k_M_init_124 = some 127 := by decide +kernel
theorem d_M_init_127 : vm_dec m_M_init 127 (.if_icmp .le 8) 3 = true := by decide +kernel
def k_M_init_130 : List vm_I := [.inr (.inl (.int 64, 0))]
theorem kc_M_init_130 : vm_chk m_M_init 130 k_M_init_130 = some 132 := by decide +kernel
theorem d_M_init_132 : vm_dec m_M_init 132 (.goto 4) 3 = true := by decide +kernel
def k_M_init_135 : List vm_I := [.inl (.iload_n 1)]
theorem kc_M_init_135 : vm_chk m_M_init 135 k_M_init_135 = some 136 := by decide +kernel
def k_M_init_136 : List vm_I := [.inr (.inr (.inl (3, 589, 58, 5, 1)))]
theorem kc_M_init_136 : vm_chk m_M_init 136 k_M_init_136 = some 139 := by decide +kernel
theorem d_M_init_139 : vm_dec m_M_init 139 .return_ 1 = true := by decide +kernel
def k_M_in_0 : List vm_I := [.inl (.iload_n 0), .inl (.iload_n 1)]
theorem kc_M_in_0 : vm_chk m_M_in 0 k_M_in_0 = some 2 := by decide +kernel
theorem d_M_in_2 : vm_dec m_M_in 2 (.if_icmp .lt 12) 3 = true := by decide +kernel
def k_M_in_5 : List vm_I := [.inl (.iload_n 0), .inl (.iload_n 2)]
theorem kc_M_in_5 : vm_chk m_M_in 5 k_M_in_5 = some 7 := by decide +kernel
theorem d_M_in_7 : vm_dec m_M_in 7 (.if_icmp .gt 7) 3 = true := by decide +kernel
def k_M_in_10 : List vm_I := [.inr (.inl (.int 1, 0))]
theorem kc_M_in_10 : vm_chk m_M_in 10 k_M_in_10 = some 11 := by decide +kernel
theorem d_M_in_11 : vm_dec m_M_in 11 (.goto 4) 3 = true := by decide +kernel
def k_M_in_14 : List vm_I := [.inr (.inl (.int 0, 0))]
theorem kc_M_in_14 : vm_chk m_M_in 14 k_M_in_14 = some 15 := by decide +kernel
theorem d_M_in_15 : vm_dec m_M_in 15 .ireturn 1 = true := by decide +kernel
def k_M_add_0 : List vm_I := [.inl (.aload_n 0), .inr (.inl (.int 0, 0)), .inr (.inr (.inl (1, 588, 61, 5, 0))), .inl (.iload_n 3), .inr (.inl (.int 1, 0)), .inr (.inl (.int 8, 0))]
theorem kc_M_add_0 : vm_chk m_M_add 0 k_M_add_0 = some 9 := by decide +kernel
theorem v_M_add_9 : vm_okS m_M_add m_M_in 9 64 3 (667, 668, 48, 669) = true := by decide +kernel
theorem d_M_add_12 : vm_dec m_M_add 12 (.ifCond .ne 6) 3 = true := by decide +kernel
def k_M_add_15 : List vm_I := [.inr (.inl (.int (-2), 0))]
theorem kc_M_add_15 : vm_chk m_M_add 15 k_M_add_15 = some 17 := by decide +kernel
theorem d_M_add_17 : vm_dec m_M_add 17 .ireturn 1 = true := by decide +kernel
def k_M_add_18 : List vm_I := [.inl (.aload_n 0), .inr (.inr (.inl (0, 590, 68, 5, 2))), .inl (.iload_n 3), .inl .iadd, .inr (.inl (.int 900, 0))]
theorem kc_M_add_18 : vm_chk m_M_add 18 k_M_add_18 = some 27 := by decide +kernel
theorem d_M_add_27 : vm_dec m_M_add 27 (.if_icmp .le 6) 3 = true := by decide +kernel
def k_M_add_30 : List vm_I := [.inr (.inl (.int (-3), 0))]
theorem kc_M_add_30 : vm_chk m_M_add 30 k_M_add_30 = some 32 := by decide +kernel
theorem d_M_add_32 : vm_dec m_M_add 32 .ireturn 1 = true := by decide +kernel
def k_M_add_33 : List vm_I := [.inr (.inl (.int 0, 0)), .inl (.istore 4)]
theorem kc_M_add_33 : vm_chk m_M_add 33 k_M_add_33 = some 36 := by decide +kernel
def k_M_add_36 : List vm_I := [.inl (.iload 4), .inl (.iload_n 3)]
theorem kc_M_add_36 : vm_chk m_M_add 36 k_M_add_36 = some 39 := by decide +kernel
theorem d_M_add_39 : vm_dec m_M_add 39 (.if_icmp .ge 40) 3 = true := by decide +kernel
def k_M_add_42 : List vm_I := [.inl (.aload_n 0), .inr (.inr (.inl (0, 591, 7, 5, 3))), .inl (.aload_n 0), .inr (.inr (.inl (0, 590, 68, 5, 2))), .inl (.lload_n 1), .inr (.inl (.int 8, 0)), .inl (.iload 4), .inl .imul, .inl .lshr, .inr (.inl (.long 255, 670)), .inl .land, .inl .l2i, .inl .iastore, .inl (.aload_n 0), .inl .dup, .inr (.inr (.inl (0, 590, 68, 5, 2))), .inr (.inl (.int 1, 0)), .inl .iadd, .inr (.inr (.inl (1, 590, 68, 5, 2))), .inr (.inr (.inr (4, 1)))]
theorem kc_M_add_42 : vm_chk m_M_add 42 k_M_add_42 = some 76 := by decide +kernel
theorem d_M_add_76 : vm_dec m_M_add 76 (.goto (-40)) 3 = true := by decide +kernel
def k_M_add_79 : List vm_I := [.inl (.aload_n 0), .inr (.inr (.inl (0, 590, 68, 5, 2)))]
theorem kc_M_add_79 : vm_chk m_M_add 79 k_M_add_79 = some 83 := by decide +kernel
theorem d_M_add_83 : vm_dec m_M_add 83 .ireturn 1 = true := by decide +kernel
def k_M_zeros_0 : List vm_I := [.inl (.aload_n 0), .inr (.inl (.int 0, 0)), .inr (.inr (.inl (1, 588, 61, 5, 0))), .inl (.iload_n 1), .inr (.inl (.int 1, 0)), .inr (.inl (.int 900, 0))]
theorem kc_M_zeros_0 : vm_chk m_M_zeros 0 k_M_zeros_0 = some 10 := by decide +kernel
theorem v_M_zeros_10 : vm_okS m_M_zeros m_M_in 10 64 3 (667, 668, 48, 669) = true := by decide +kernel
theorem d_M_zeros_13 : vm_dec m_M_zeros 13 (.ifCond .ne 6) 3 = true := by decide +kernel
def k_M_zeros_16 : List vm_I := [.inr (.inl (.int (-2), 0))]
theorem kc_M_zeros_16 : vm_chk m_M_zeros 16 k_M_zeros_16 = some 18 := by decide +kernel
theorem d_M_zeros_18 : vm_dec m_M_zeros 18 .ireturn 1 = true := by decide +kernel
def k_M_zeros_19 : List vm_I := [.inl (.aload_n 0), .inr (.inr (.inl (0, 590, 68, 5, 2))), .inl (.iload_n 1), .inl .iadd, .inr (.inl (.int 900, 0))]
theorem kc_M_zeros_19 : vm_chk m_M_zeros 19 k_M_zeros_19 = some 28 := by decide +kernel
theorem d_M_zeros_28 : vm_dec m_M_zeros 28 (.if_icmp .le 6) 3 = true := by decide +kernel
def k_M_zeros_31 : List vm_I := [.inr (.inl (.int (-3), 0))]
theorem kc_M_zeros_31 : vm_chk m_M_zeros 31 k_M_zeros_31 = some 33 := by decide +kernel
theorem d_M_zeros_33 : vm_dec m_M_zeros 33 .ireturn 1 = true := by decide +kernel
def k_M_zeros_34 : List vm_I := [.inr (.inl (.int 0, 0)), .inl (.istore_n 2)]
theorem kc_M_zeros_34 : vm_chk m_M_zeros 34 k_M_zeros_34 = some 36 := by decide +kernel
def k_M_zeros_36 : List vm_I := [.inl (.iload_n 2), .inl (.iload_n 1)]
theorem kc_M_zeros_36 : vm_chk m_M_zeros 36 k_M_zeros_36 = some 38 := by decide +kernel
theorem d_M_zeros_38 : vm_dec m_M_zeros 38 (.if_icmp .ge 29) 3 = true := by decide +kernel
def k_M_zeros_41 : List vm_I := [.inl (.aload_n 0), .inr (.inr (.inl (0, 591, 7, 5, 3))), .inl (.aload_n 0), .inr (.inr (.inl (0, 590, 68, 5, 2))), .inr (.inl (.int 0, 0)), .inl .iastore, .inl (.aload_n 0), .inl .dup, .inr (.inr (.inl (0, 590, 68, 5, 2))), .inr (.inl (.int 1, 0)), .inl .iadd, .inr (.inr (.inl (1, 590, 68, 5, 2))), .inr (.inr (.inr (2, 1)))]
theorem kc_M_zeros_41 : vm_chk m_M_zeros 41 k_M_zeros_41 = some 64 := by decide +kernel
theorem d_M_zeros_64 : vm_dec m_M_zeros 64 (.goto (-28)) 3 = true := by decide +kernel
def k_M_zeros_67 : List vm_I := [.inl (.aload_n 0), .inr (.inr (.inl (0, 590, 68, 5, 2)))]
theorem kc_M_zeros_67 : vm_chk m_M_zeros 67 k_M_zeros_67 = some 71 := by decide +kernel
theorem d_M_zeros_71 : vm_dec m_M_zeros 71 .ireturn 1 = true := by decide +kernel
def k_M_isWide_0 : List vm_I := [.inl (.iload_n 0), .inr (.inl (.int 1, 0))]
theorem kc_M_isWide_0 : vm_chk m_M_isWide 0 k_M_isWide_0 = some 2 := by decide +kernel
theorem d_M_isWide_2 : vm_dec m_M_isWide 2 (.if_icmp .eq 13) 3 = true := by decide +kernel
def k_M_isWide_5 : List vm_I := [.inl (.iload_n 0), .inr (.inl (.int 2, 0))]
theorem kc_M_isWide_5 : vm_chk m_M_isWide 5 k_M_isWide_5 = some 7 := by decide +kernel
theorem d_M_isWide_7 : vm_dec m_M_isWide 7 (.if_icmp .eq 8) 3 = true := by decide +kernel
def k_M_isWide_10 : List vm_I := [.inl (.iload_n 0), .inr (.inl (.int 4, 0))]
theorem kc_M_isWide_10 : vm_chk m_M_isWide 10 k_M_isWide_10 = some 12 := by decide +kernel
theorem d_M_isWide_12 : vm_dec m_M_isWide 12 (.if_icmp .ne 7) 3 = true := by decide +kernel
def k_M_isWide_15 : List vm_I := [.inr (.inl (.int 1, 0))]
theorem kc_M_isWide_15 : vm_chk m_M_isWide 15 k_M_isWide_15 = some 16 := by decide +kernel
theorem d_M_isWide_16 : vm_dec m_M_isWide 16 (.goto 4) 3 = true := by decide +kernel
def k_M_isWide_19 : List vm_I := [.inr (.inl (.int 0, 0))]
theorem kc_M_isWide_19 : vm_chk m_M_isWide 19 k_M_isWide_19 = some 20 := by decide +kernel
theorem d_M_isWide_20 : vm_dec m_M_isWide 20 .ireturn 1 = true := by decide +kernel
def k_M_poke_0 : List vm_I := [.inl (.aload_n 0), .inr (.inl (.int 0, 0)), .inr (.inr (.inl (1, 588, 61, 5, 0))), .inl (.iload_n 2)]
theorem kc_M_poke_0 : vm_chk m_M_poke 0 k_M_poke_0 = some 6 := by decide +kernel
theorem v_M_poke_6 : vm_okS m_M_poke m_M_isWide 6 73 1 (679, 680, 48, 681) = true := by decide +kernel
theorem d_M_poke_9 : vm_dec m_M_poke 9 (.ifCond .eq 17) 3 = true := by decide +kernel
def k_M_poke_12 : List vm_I := [.inl (.iload_n 1), .inr (.inl (.int 0, 0)), .inl (.aload_n 0), .inr (.inr (.inl (0, 590, 68, 5, 2))), .inl (.iload_n 2), .inl .isub]
theorem kc_M_poke_12 : vm_chk m_M_poke 12 k_M_poke_12 = some 20 := by decide +kernel
theorem v_M_poke_20 : vm_okS m_M_poke m_M_in 20 64 3 (667, 668, 48, 669) = true := by decide +kernel
theorem d_M_poke_23 : vm_dec m_M_poke 23 (.ifCond .ne 6) 3 = true := by decide +kernel
def k_M_poke_26 : List vm_I := [.inr (.inl (.int (-2), 0))]
theorem kc_M_poke_26 : vm_chk m_M_poke 26 k_M_poke_26 = some 28 := by decide +kernel
theorem d_M_poke_28 : vm_dec m_M_poke 28 .ireturn 1 = true := by decide +kernel
def k_M_poke_29 : List vm_I := [.inr (.inl (.int 0, 0)), .inl (.istore 4)]
theorem kc_M_poke_29 : vm_chk m_M_poke 29 k_M_poke_29 = some 32 := by decide +kernel
def k_M_poke_32 : List vm_I := [.inl (.iload 4), .inl (.iload_n 2)]
theorem kc_M_poke_32 : vm_chk m_M_poke 32 k_M_poke_32 = some 35 := by decide +kernel
theorem d_M_poke_35 : vm_dec m_M_poke 35 (.if_icmp .ge 29) 3 = true := by decide +kernel
def k_M_poke_38 : List vm_I := [.inl (.aload_n 0), .inr (.inr (.inl (0, 591, 7, 5, 3))), .inl (.iload_n 1), .inl (.iload 4), .inl .iadd, .inl (.iload_n 3), .inr (.inl (.int 8, 0)), .inl (.iload 4), .inl .imul, .inl .ishr, .inr (.inl (.int 255, 0)), .inl .iand, .inl .iastore, .inr (.inr (.inr (4, 1)))]
theorem kc_M_poke_38 : vm_chk m_M_poke 38 k_M_poke_38 = some 61 := by decide +kernel
theorem d_M_poke_61 : vm_dec m_M_poke 61 (.goto (-29)) 3 = true := by decide +kernel
def k_M_poke_64 : List vm_I := [.inr (.inl (.int 0, 0))]
theorem kc_M_poke_64 : vm_chk m_M_poke 64 k_M_poke_64 = some 65 := by decide +kernel
theorem d_M_poke_65 : vm_dec m_M_poke 65 .ireturn 1 = true := by decide +kernel
def k_M_peek_0 : List vm_I := [.inl (.aload_n 0), .inr (.inl (.int 0, 0)), .inr (.inr (.inl (1, 588, 61, 5, 0))), .inl (.iload_n 1), .inr (.inl (.int 0, 0)), .inl (.aload_n 0), .inr (.inr (.inl (0, 590, 68, 5, 2))), .inr (.inl (.int 1, 0)), .inl .isub]
theorem kc_M_peek_0 : vm_chk m_M_peek 0 k_M_peek_0 = some 13 := by decide +kernel
theorem v_M_peek_13 : vm_okS m_M_peek m_M_in 13 64 3 (667, 668, 48, 669) = true := by decide +kernel
theorem d_M_peek_16 : vm_dec m_M_peek 16 (.ifCond .eq 12) 3 = true := by decide +kernel
def k_M_peek_19 : List vm_I := [.inl (.aload_n 0), .inr (.inr (.inl (0, 591, 7, 5, 3))), .inl (.iload_n 1), .inl .iaload]
theorem kc_M_peek_19 : vm_chk m_M_peek 19 k_M_peek_19 = some 25 := by decide +kernel
theorem d_M_peek_25 : vm_dec m_M_peek 25 (.goto 4) 3 = true := by decide +kernel
def k_M_peek_28 : List vm_I := [.inr (.inl (.int (-1), 0))]
theorem kc_M_peek_28 : vm_chk m_M_peek 28 k_M_peek_28 = some 29 := by decide +kernel
theorem d_M_peek_29 : vm_dec m_M_peek 29 .ireturn 1 = true := by decide +kernel
def k_M_cut_0 : List vm_I := [.inl (.aload_n 0), .inr (.inl (.int 0, 0)), .inr (.inr (.inl (1, 588, 61, 5, 0))), .inl (.iload_n 1), .inr (.inl (.int 0, 0)), .inl (.aload_n 0), .inr (.inr (.inl (0, 590, 68, 5, 2)))]
theorem kc_M_cut_0 : vm_chk m_M_cut 0 k_M_cut_0 = some 11 := by decide +kernel
theorem v_M_cut_11 : vm_okS m_M_cut m_M_in 11 64 3 (667, 668, 48, 669) = true := by decide +kernel
theorem d_M_cut_14 : vm_dec m_M_cut 14 (.ifCond .ne 6) 3 = true := by decide +kernel
def k_M_cut_17 : List vm_I := [.inr (.inl (.int (-2), 0))]
theorem kc_M_cut_17 : vm_chk m_M_cut 17 k_M_cut_17 = some 19 := by decide +kernel
theorem d_M_cut_19 : vm_dec m_M_cut 19 .ireturn 1 = true := by decide +kernel
def k_M_cut_20 : List vm_I := [.inl (.aload_n 0), .inr (.inr (.inl (0, 590, 68, 5, 2))), .inl (.iload_n 1), .inl .isub, .inl (.istore_n 2), .inl (.aload_n 0), .inl (.iload_n 1), .inr (.inr (.inl (1, 590, 68, 5, 2))), .inl (.iload_n 2)]
theorem kc_M_cut_20 : vm_chk m_M_cut 20 k_M_cut_20 = some 33 := by decide +kernel
theorem d_M_cut_33 : vm_dec m_M_cut 33 .ireturn 1 = true := by decide +kernel
def k_M_half_0 : List vm_I := [.inl (.aload_n 0), .inr (.inr (.inl (0, 591, 7, 5, 3))), .inl (.iload_n 1), .inl .iaload, .inl (.aload_n 0), .inr (.inr (.inl (0, 591, 7, 5, 3))), .inl (.iload_n 1), .inr (.inl (.int 1, 0)), .inl .iadd, .inl .iaload, .inr (.inl (.int 8, 0)), .inl .ishl, .inl .ior]
theorem kc_M_half_0 : vm_chk m_M_half 0 k_M_half_0 = some 18 := by decide +kernel
theorem d_M_half_18 : vm_dec m_M_half 18 .ireturn 1 = true := by decide +kernel
def k_M_word_0 : List vm_I := [.inl (.aload_n 0), .inl (.iload_n 1)]
theorem kc_M_word_0 : vm_chk m_M_word 0 k_M_word_0 = some 2 := by decide +kernel
theorem v_M_word_2 : vm_okV m_M_word m_M_half 2 77 1 (702, 704, 24, 48, 705) = true := by decide +kernel
def k_M_word_5 : List vm_I := [.inl .i2l, .inl (.aload_n 0), .inl (.iload_n 1), .inr (.inl (.int 2, 0)), .inl .iadd]
theorem kc_M_word_5 : vm_chk m_M_word 5 k_M_word_5 = some 10 := by decide +kernel
theorem v_M_word_10 : vm_okV m_M_word m_M_half 10 77 1 (702, 704, 24, 48, 705) = true := by decide +kernel
def k_M_word_13 : List vm_I := [.inl .i2l, .inr (.inl (.int 16, 0)), .inl .lshl, .inl .lor]
theorem kc_M_word_13 : vm_chk m_M_word 13 k_M_word_13 = some 18 := by decide +kernel
theorem d_M_word_18 : vm_dec m_M_word 18 .lreturn 1 = true := by decide +kernel
def k_M_fail_0 : List vm_I := [.inl (.aload_n 0), .inl (.iload_n 1), .inr (.inr (.inl (1, 606, 81, 5, 18))), .inl (.aload_n 0), .inl (.iload_n 2), .inr (.inr (.inl (1, 607, 45, 5, 19))), .inr (.inl (.int 0, 0))]
theorem kc_M_fail_0 : vm_chk m_M_fail 0 k_M_fail_0 = some 11 := by decide +kernel
theorem d_M_fail_11 : vm_dec m_M_fail 11 .ireturn 1 = true := by decide +kernel
def k_M_isHeader_0 : List vm_I := [.inl (.aload_n 0), .inr (.inr (.inl (0, 590, 68, 5, 2))), .inr (.inl (.int 52, 0))]
theorem kc_M_isHeader_0 : vm_chk m_M_isHeader 0 k_M_isHeader_0 = some 6 := by decide +kernel
theorem d_M_isHeader_6 : vm_dec m_M_isHeader 6 (.if_icmp .ge 13) 3 = true := by decide +kernel
def k_M_isHeader_9 : List vm_I := [.inl (.aload_n 0), .inr (.inl (.int 1, 0)), .inl (.aload_n 0), .inr (.inr (.inl (0, 590, 68, 5, 2)))]
theorem kc_M_isHeader_9 : vm_chk m_M_isHeader 9 k_M_isHeader_9 = some 15 := by decide +kernel
theorem v_M_isHeader_15 : vm_okV m_M_isHeader m_M_fail 15 84 2 (698, 700, 23, 48, 701) = true := by decide +kernel
theorem d_M_isHeader_18 : vm_dec m_M_isHeader 18 .ireturn 1 = true := by decide +kernel
def k_M_isHeader_19 : List vm_I := [.inr (.inl (.int 0, 0)), .inl (.istore_n 1)]
theorem kc_M_isHeader_19 : vm_chk m_M_isHeader 19 k_M_isHeader_19 = some 21 := by decide +kernel
def k_M_isHeader_21 : List vm_I := [.inl (.iload_n 1), .inr (.inl (.int 7, 0))]
theorem kc_M_isHeader_21 : vm_chk m_M_isHeader 21 k_M_isHeader_21 = some 24 := by decide +kernel
theorem d_M_isHeader_24 : vm_dec m_M_isHeader 24 (.if_icmp .ge 67) 3 = true := by decide +kernel
def k_M_isHeader_27 : List vm_I := [.inl (.iload_n 1)]
theorem kc_M_isHeader_27 : vm_chk m_M_isHeader 27 k_M_isHeader_27 = some 28 := by decide +kernel
theorem d_M_isHeader_28 : vm_dec m_M_isHeader 28 (.ifCond .ne 8) 3 = true := by decide +kernel
def k_M_isHeader_31 : List vm_I := [.inr (.inl (.int 127, 0))]
theorem kc_M_isHeader_31 : vm_chk m_M_isHeader 31 k_M_isHeader_31 = some 33 := by decide +kernel
theorem d_M_isHeader_33 : vm_dec m_M_isHeader 33 (.goto 34) 3 = true := by decide +kernel
def k_M_isHeader_36 : List vm_I := [.inl (.iload_n 1), .inr (.inl (.int 1, 0))]
theorem kc_M_isHeader_36 : vm_chk m_M_isHeader 36 k_M_isHeader_36 = some 38 := by decide +kernel
theorem d_M_isHeader_38 : vm_dec m_M_isHeader 38 (.if_icmp .ne 8) 3 = true := by decide +kernel
def k_M_isHeader_41 : List vm_I := [.inr (.inl (.int 69, 0))]
theorem kc_M_isHeader_41 : vm_chk m_M_isHeader 41 k_M_isHeader_41 = some 43 := by decide +kernel
theorem d_M_isHeader_43 : vm_dec m_M_isHeader 43 (.goto 24) 3 = true := by decide +kernel
def k_M_isHeader_46 : List vm_I := [.inl (.iload_n 1), .inr (.inl (.int 2, 0))]
theorem kc_M_isHeader_46 : vm_chk m_M_isHeader 46 k_M_isHeader_46 = some 48 := by decide +kernel
theorem d_M_isHeader_48 : vm_dec m_M_isHeader 48 (.if_icmp .ne 8) 3 = true := by decide +kernel
def k_M_isHeader_51 : List vm_I := [.inr (.inl (.int 76, 0))]
theorem kc_M_isHeader_51 : vm_chk m_M_isHeader 51 k_M_isHeader_51 = some 53 := by decide +kernel
theorem d_M_isHeader_53 : vm_dec m_M_isHeader 53 (.goto 14) 3 = true := by decide +kernel
def k_M_isHeader_56 : List vm_I := [.inl (.iload_n 1), .inr (.inl (.int 3, 0))]
theorem kc_M_isHeader_56 : vm_chk m_M_isHeader 56 k_M_isHeader_56 = some 58 := by decide +kernel
theorem d_M_isHeader_58 : vm_dec m_M_isHeader 58 (.if_icmp .ne 8) 3 = true := by decide +kernel
def k_M_isHeader_61 : List vm_I := [.inr (.inl (.int 70, 0))]
theorem kc_M_isHeader_61 : vm_chk m_M_isHeader 61 k_M_isHeader_61 = some 63 := by decide +kernel
theorem d_M_isHeader_63 : vm_dec m_M_isHeader 63 (.goto 4) 3 = true := by decide +kernel
def k_M_isHeader_66 : List vm_I := [.inr (.inl (.int 1, 0))]
theorem kc_M_isHeader_66 : vm_chk m_M_isHeader 66 k_M_isHeader_66 = some 67 := by decide +kernel
def k_M_isHeader_67 : List vm_I := [.inl (.istore_n 2), .inl (.aload_n 0), .inr (.inr (.inl (0, 591, 7, 5, 3))), .inl (.iload_n 1), .inl .iaload, .inl (.iload_n 2)]
theorem kc_M_isHeader_67 : vm_chk m_M_isHeader 67 k_M_isHeader_67 = some 75 := by decide +kernel
theorem d_M_isHeader_75 : vm_dec m_M_isHeader 75 (.if_icmp .eq 10) 3 = true := by decide +kernel
def k_M_isHeader_78 : List vm_I := [.inl (.aload_n 0), .inr (.inl (.int 2, 0)), .inl (.iload_n 1)]
theorem kc_M_isHeader_78 : vm_chk m_M_isHeader 78 k_M_isHeader_78 = some 81 := by decide +kernel
theorem v_M_isHeader_81 : vm_okV m_M_isHeader m_M_fail 81 84 2 (698, 700, 23, 48, 701) = true := by decide +kernel
theorem d_M_isHeader_84 : vm_dec m_M_isHeader 84 .ireturn 1 = true := by decide +kernel
def k_M_isHeader_85 : List vm_I := [.inr (.inr (.inr (1, 1)))]
theorem kc_M_isHeader_85 : vm_chk m_M_isHeader 85 k_M_isHeader_85 = some 88 := by decide +kernel
theorem d_M_isHeader_88 : vm_dec m_M_isHeader 88 (.goto (-67)) 3 = true := by decide +kernel
def k_M_isHeader_91 : List vm_I := [.inl (.aload_n 0), .inr (.inl (.int 16, 0))]
theorem kc_M_isHeader_91 : vm_chk m_M_isHeader 91 k_M_isHeader_91 = some 94 := by decide +kernel
theorem v_M_isHeader_94 : vm_okV m_M_isHeader m_M_half 94 77 1 (702, 704, 24, 48, 705) = true := by decide +kernel
def k_M_isHeader_97 : List vm_I := [.inr (.inl (.int 2, 0))]
theorem kc_M_isHeader_97 : vm_chk m_M_isHeader 97 k_M_isHeader_97 = some 98 := by decide +kernel
theorem d_M_isHeader_98 : vm_dec m_M_isHeader 98 (.if_icmp .eq 21) 3 = true := by decide +kernel
def k_M_isHeader_101 : List vm_I := [.inl (.aload_n 0), .inr (.inl (.int 16, 0))]
theorem kc_M_isHeader_101 : vm_chk m_M_isHeader 101 k_M_isHeader_101 = some 104 := by decide +kernel
theorem v_M_isHeader_104 : vm_okV m_M_isHeader m_M_half 104 77 1 (702, 704, 24, 48, 705) = true := by decide +kernel
def k_M_isHeader_107 : List vm_I := [.inr (.inl (.int 3, 0))]
theorem kc_M_isHeader_107 : vm_chk m_M_isHeader 107 k_M_isHeader_107 = some 108 := by decide +kernel
theorem d_M_isHeader_108 : vm_dec m_M_isHeader 108 (.if_icmp .eq 11) 3 = true := by decide +kernel
def k_M_isHeader_111 : List vm_I := [.inl (.aload_n 0), .inr (.inl (.int 3, 0)), .inr (.inl (.int 16, 0))]
theorem kc_M_isHeader_111 : vm_chk m_M_isHeader 111 k_M_isHeader_111 = some 115 := by decide +kernel
theorem v_M_isHeader_115 : vm_okV m_M_isHeader m_M_fail 115 84 2 (698, 700, 23, 48, 701) = true := by decide +kernel
theorem d_M_isHeader_118 : vm_dec m_M_isHeader 118 .ireturn 1 = true := by decide +kernel
def k_M_isHeader_119 : List vm_I := [.inl (.aload_n 0), .inr (.inl (.int 18, 0))]
theorem kc_M_isHeader_119 : vm_chk m_M_isHeader 119 k_M_isHeader_119 = some 122 := by decide +kernel
theorem v_M_isHeader_122 : vm_okV m_M_isHeader m_M_half 122 77 1 (702, 704, 24, 48, 705) = true := by decide +kernel
def k_M_isHeader_125 : List vm_I := [.inr (.inl (.int 243, 0))]
theorem kc_M_isHeader_125 : vm_chk m_M_isHeader 125 k_M_isHeader_125 = some 128 := by decide +kernel
theorem d_M_isHeader_128 : vm_dec m_M_isHeader 128 (.if_icmp .eq 11) 3 = true := by decide +kernel
def k_M_isHeader_131 : List vm_I := [.inl (.aload_n 0), .inr (.inl (.int 4, 0)), .inr (.inl (.int 18, 0))]
theorem kc_M_isHeader_131 : vm_chk m_M_isHeader 131 k_M_isHeader_131 = some 135 := by decide +kernel
theorem v_M_isHeader_135 : vm_okV m_M_isHeader m_M_fail 135 84 2 (698, 700, 23, 48, 701) = true := by decide +kernel
theorem d_M_isHeader_138 : vm_dec m_M_isHeader 138 .ireturn 1 = true := by decide +kernel
def k_M_isHeader_139 : List vm_I := [.inl (.aload_n 0), .inr (.inl (.int 20, 0))]
theorem kc_M_isHeader_139 : vm_chk m_M_isHeader 139 k_M_isHeader_139 = some 142 := by decide +kernel
theorem v_M_isHeader_142 : vm_okV m_M_isHeader m_M_word 142 88 1 (706, 708, 25, 48, 709) = true := by decide +kernel
def k_M_isHeader_145 : List vm_I := [.inr (.inl (.long 1, 0))]
theorem kc_M_isHeader_145 : vm_chk m_M_isHeader 145 k_M_isHeader_145 = some 146 := by decide +kernel
theorem dl_M_isHeader_146 : vm_dec m_M_isHeader 146 .lcmp 1 = true := by decide +kernel
theorem d_M_isHeader_146 : vm_dec m_M_isHeader 147 (.ifCond .eq 11) 3 = true := by decide +kernel
def k_M_isHeader_150 : List vm_I := [.inl (.aload_n 0), .inr (.inl (.int 5, 0)), .inr (.inl (.int 20, 0))]
theorem kc_M_isHeader_150 : vm_chk m_M_isHeader 150 k_M_isHeader_150 = some 154 := by decide +kernel
theorem v_M_isHeader_154 : vm_okV m_M_isHeader m_M_fail 154 84 2 (698, 700, 23, 48, 701) = true := by decide +kernel
theorem d_M_isHeader_157 : vm_dec m_M_isHeader 157 .ireturn 1 = true := by decide +kernel
def k_M_isHeader_158 : List vm_I := [.inl (.aload_n 0), .inr (.inl (.int 40, 0))]
theorem kc_M_isHeader_158 : vm_chk m_M_isHeader 158 k_M_isHeader_158 = some 161 := by decide +kernel
theorem v_M_isHeader_161 : vm_okV m_M_isHeader m_M_half 161 77 1 (702, 704, 24, 48, 705) = true := by decide +kernel
def k_M_isHeader_164 : List vm_I := [.inr (.inl (.int 52, 0))]
theorem kc_M_isHeader_164 : vm_chk m_M_isHeader 164 k_M_isHeader_164 = some 166 := by decide +kernel
theorem d_M_isHeader_166 : vm_dec m_M_isHeader 166 (.if_icmp .eq 12) 3 = true := by decide +kernel
def k_M_isHeader_169 : List vm_I := [.inl (.aload_n 0), .inr (.inl (.int 6, 0)), .inr (.inl (.int 40, 0))]
theorem kc_M_isHeader_169 : vm_chk m_M_isHeader 169 k_M_isHeader_169 = some 174 := by decide +kernel
theorem v_M_isHeader_174 : vm_okV m_M_isHeader m_M_fail 174 84 2 (698, 700, 23, 48, 701) = true := by decide +kernel
theorem d_M_isHeader_177 : vm_dec m_M_isHeader 177 .ireturn 1 = true := by decide +kernel
def k_M_isHeader_178 : List vm_I := [.inl (.aload_n 0), .inr (.inl (.int 42, 0))]
theorem kc_M_isHeader_178 : vm_chk m_M_isHeader 178 k_M_isHeader_178 = some 181 := by decide +kernel
theorem v_M_isHeader_181 : vm_okV m_M_isHeader m_M_half 181 77 1 (702, 704, 24, 48, 705) = true := by decide +kernel
def k_M_isHeader_184 : List vm_I := [.inr (.inl (.int 32, 0))]
theorem kc_M_isHeader_184 : vm_chk m_M_isHeader 184 k_M_isHeader_184 = some 186 := by decide +kernel
theorem d_M_isHeader_186 : vm_dec m_M_isHeader 186 (.if_icmp .eq 12) 3 = true := by decide +kernel
def k_M_isHeader_189 : List vm_I := [.inl (.aload_n 0), .inr (.inl (.int 6, 0)), .inr (.inl (.int 42, 0))]
theorem kc_M_isHeader_189 : vm_chk m_M_isHeader 189 k_M_isHeader_189 = some 194 := by decide +kernel
theorem v_M_isHeader_194 : vm_okV m_M_isHeader m_M_fail 194 84 2 (698, 700, 23, 48, 701) = true := by decide +kernel
theorem d_M_isHeader_197 : vm_dec m_M_isHeader 197 .ireturn 1 = true := by decide +kernel
def k_M_isHeader_198 : List vm_I := [.inl (.aload_n 0), .inr (.inl (.int 44, 0))]
theorem kc_M_isHeader_198 : vm_chk m_M_isHeader 198 k_M_isHeader_198 = some 201 := by decide +kernel
theorem v_M_isHeader_201 : vm_okV m_M_isHeader m_M_half 201 77 1 (702, 704, 24, 48, 705) = true := by decide +kernel
def k_M_isHeader_204 : List vm_I := [.inr (.inl (.int 1, 0)), .inr (.inl (.int 8, 0))]
theorem kc_M_isHeader_204 : vm_chk m_M_isHeader 204 k_M_isHeader_204 = some 207 := by decide +kernel
theorem v_M_isHeader_207 : vm_okS m_M_isHeader m_M_in 207 64 3 (667, 668, 48, 669) = true := by decide +kernel
theorem d_M_isHeader_210 : vm_dec m_M_isHeader 210 (.ifCond .ne 12) 3 = true := by decide +kernel
def k_M_isHeader_213 : List vm_I := [.inl (.aload_n 0), .inr (.inl (.int 7, 0)), .inr (.inl (.int 44, 0))]
theorem kc_M_isHeader_213 : vm_chk m_M_isHeader 213 k_M_isHeader_213 = some 218 := by decide +kernel
theorem v_M_isHeader_218 : vm_okV m_M_isHeader m_M_fail 218 84 2 (698, 700, 23, 48, 701) = true := by decide +kernel
theorem d_M_isHeader_221 : vm_dec m_M_isHeader 221 .ireturn 1 = true := by decide +kernel
def k_M_isHeader_222 : List vm_I := [.inl (.aload_n 0), .inr (.inl (.int 28, 0))]
theorem kc_M_isHeader_222 : vm_chk m_M_isHeader 222 k_M_isHeader_222 = some 225 := by decide +kernel
theorem v_M_isHeader_225 : vm_okV m_M_isHeader m_M_word 225 88 1 (706, 708, 25, 48, 709) = true := by decide +kernel
def k_M_isHeader_228 : List vm_I := [.inr (.inl (.long 32, 710)), .inl (.aload_n 0), .inr (.inl (.int 44, 0))]
theorem kc_M_isHeader_228 : vm_chk m_M_isHeader 228 k_M_isHeader_228 = some 234 := by decide +kernel
theorem v_M_isHeader_234 : vm_okV m_M_isHeader m_M_half 234 77 1 (702, 704, 24, 48, 705) = true := by decide +kernel
def k_M_isHeader_237 : List vm_I := [.inl .i2l, .inl .lmul, .inl .ladd, .inl (.aload_n 0), .inr (.inr (.inl (0, 590, 68, 5, 2))), .inl .i2l]
theorem kc_M_isHeader_237 : vm_chk m_M_isHeader 237 k_M_isHeader_237 = some 245 := by decide +kernel
theorem dl_M_isHeader_245 : vm_dec m_M_isHeader 245 .lcmp 1 = true := by decide +kernel
theorem d_M_isHeader_245 : vm_dec m_M_isHeader 246 (.ifCond .le 14) 3 = true := by decide +kernel
def k_M_isHeader_249 : List vm_I := [.inl (.aload_n 0), .inr (.inl (.int 8, 0)), .inr (.inl (.int 28, 0))]
theorem kc_M_isHeader_249 : vm_chk m_M_isHeader 249 k_M_isHeader_249 = some 254 := by decide +kernel
theorem v_M_isHeader_254 : vm_okV m_M_isHeader m_M_fail 254 84 2 (698, 700, 23, 48, 701) = true := by decide +kernel
theorem d_M_isHeader_257 : vm_dec m_M_isHeader 257 (.ifCond .eq 7) 3 = true := by decide +kernel
def k_M_isHeader_260 : List vm_I := [.inr (.inl (.int 1, 0))]
theorem kc_M_isHeader_260 : vm_chk m_M_isHeader 260 k_M_isHeader_260 = some 261 := by decide +kernel
theorem d_M_isHeader_261 : vm_dec m_M_isHeader 261 (.goto 4) 3 = true := by decide +kernel
def k_M_isHeader_264 : List vm_I := [.inr (.inl (.int 0, 0))]
theorem kc_M_isHeader_264 : vm_chk m_M_isHeader 264 k_M_isHeader_264 = some 265 := by decide +kernel
theorem d_M_isHeader_265 : vm_dec m_M_isHeader 265 .ireturn 1 = true := by decide +kernel
def k_M_mappedPages_0 : List vm_I := [.inr (.inl (.int 0, 0)), .inl (.istore_n 1), .inr (.inl (.int 0, 0)), .inl (.istore_n 2)]
theorem kc_M_mappedPages_0 : vm_chk m_M_mappedPages 0 k_M_mappedPages_0 = some 4 := by decide +kernel
def k_M_mappedPages_4 : List vm_I := [.inl (.iload_n 2), .inr (.inl (.int 64, 0))]
theorem kc_M_mappedPages_4 : vm_chk m_M_mappedPages 4 k_M_mappedPages_4 = some 7 := by decide +kernel
theorem d_M_mappedPages_7 : vm_dec m_M_mappedPages 7 (.if_icmp .ge 26) 3 = true := by decide +kernel
def k_M_mappedPages_10 : List vm_I := [.inl (.iload_n 1), .inl (.aload_n 0), .inr (.inr (.inl (0, 592, 13, 5, 4))), .inl (.iload_n 2), .inl .baload]
theorem kc_M_mappedPages_10 : vm_chk m_M_mappedPages 10 k_M_mappedPages_10 = some 17 := by decide +kernel
theorem d_M_mappedPages_17 : vm_dec m_M_mappedPages 17 (.ifCond .eq 7) 3 = true := by decide +kernel
def k_M_mappedPages_20 : List vm_I := [.inr (.inl (.int 1, 0))]
theorem kc_M_mappedPages_20 : vm_chk m_M_mappedPages 20 k_M_mappedPages_20 = some 21 := by decide +kernel
theorem d_M_mappedPages_21 : vm_dec m_M_mappedPages 21 (.goto 4) 3 = true := by decide +kernel
def k_M_mappedPages_24 : List vm_I := [.inr (.inl (.int 0, 0))]
theorem kc_M_mappedPages_24 : vm_chk m_M_mappedPages 24 k_M_mappedPages_24 = some 25 := by decide +kernel
def k_M_mappedPages_25 : List vm_I := [.inl .iadd, .inl (.istore_n 1), .inr (.inr (.inr (2, 1)))]
theorem kc_M_mappedPages_25 : vm_chk m_M_mappedPages 25 k_M_mappedPages_25 = some 30 := by decide +kernel
theorem d_M_mappedPages_30 : vm_dec m_M_mappedPages 30 (.goto (-26)) 3 = true := by decide +kernel
def k_M_mappedPages_33 : List vm_I := [.inl (.iload_n 1)]
theorem kc_M_mappedPages_33 : vm_chk m_M_mappedPages 33 k_M_mappedPages_33 = some 34 := by decide +kernel
theorem d_M_mappedPages_34 : vm_dec m_M_mappedPages 34 .ireturn 1 = true := by decide +kernel
def k_M_isSegment_0 : List vm_I := [.inl (.aload_n 0), .inl (.iload_n 1), .inr (.inl (.int 4, 0)), .inl .iadd]
theorem kc_M_isSegment_0 : vm_chk m_M_isSegment 0 k_M_isSegment_0 = some 4 := by decide +kernel
theorem v_M_isSegment_4 : vm_okV m_M_isSegment m_M_word 4 88 1 (706, 708, 25, 48, 709) = true := by decide +kernel
def k_M_isSegment_7 : List vm_I := [.inl (.lstore_n 2), .inl (.aload_n 0), .inl (.iload_n 1), .inr (.inl (.int 8, 0)), .inl .iadd]
theorem kc_M_isSegment_7 : vm_chk m_M_isSegment 7 k_M_isSegment_7 = some 13 := by decide +kernel
theorem v_M_isSegment_13 : vm_okV m_M_isSegment m_M_word 13 88 1 (706, 708, 25, 48, 709) = true := by decide +kernel
def k_M_isSegment_16 : List vm_I := [.inl (.lstore 4), .inl (.aload_n 0), .inl (.iload_n 1), .inr (.inl (.int 16, 0)), .inl .iadd]
theorem kc_M_isSegment_16 : vm_chk m_M_isSegment 16 k_M_isSegment_16 = some 23 := by decide +kernel
theorem v_M_isSegment_23 : vm_okV m_M_isSegment m_M_word 23 88 1 (706, 708, 25, 48, 709) = true := by decide +kernel
def k_M_isSegment_26 : List vm_I := [.inl (.lstore 6), .inl (.aload_n 0), .inl (.iload_n 1), .inr (.inl (.int 20, 0)), .inl .iadd]
theorem kc_M_isSegment_26 : vm_chk m_M_isSegment 26 k_M_isSegment_26 = some 33 := by decide +kernel
theorem v_M_isSegment_33 : vm_okV m_M_isSegment m_M_word 33 88 1 (706, 708, 25, 48, 709) = true := by decide +kernel
def k_M_isSegment_36 : List vm_I := [.inl (.lstore 8), .inl (.aload_n 0), .inl (.iload_n 1), .inr (.inl (.int 28, 0)), .inl .iadd]
theorem kc_M_isSegment_36 : vm_chk m_M_isSegment 36 k_M_isSegment_36 = some 43 := by decide +kernel
theorem v_M_isSegment_43 : vm_okV m_M_isSegment m_M_word 43 88 1 (706, 708, 25, 48, 709) = true := by decide +kernel
def k_M_isSegment_46 : List vm_I := [.inl (.lstore 10), .inl (.lload 8), .inl (.lload 6)]
theorem kc_M_isSegment_46 : vm_chk m_M_isSegment 46 k_M_isSegment_46 = some 52 := by decide +kernel
theorem dl_M_isSegment_52 : vm_dec m_M_isSegment 52 .lcmp 1 = true := by decide +kernel
theorem d_M_isSegment_52 : vm_dec m_M_isSegment 53 (.ifCond .ge 14) 3 = true := by decide +kernel
def k_M_isSegment_56 : List vm_I := [.inl (.aload_n 0), .inr (.inl (.int 9, 0)), .inl (.iload_n 1), .inr (.inl (.int 20, 0)), .inl .iadd]
theorem kc_M_isSegment_56 : vm_chk m_M_isSegment 56 k_M_isSegment_56 = some 63 := by decide +kernel
theorem v_M_isSegment_63 : vm_okV m_M_isSegment m_M_fail 63 84 2 (698, 700, 23, 48, 701) = true := by decide +kernel
theorem d_M_isSegment_66 : vm_dec m_M_isSegment 66 .ireturn 1 = true := by decide +kernel
def k_M_isSegment_67 : List vm_I := [.inl (.lload_n 2), .inl (.lload 6), .inl .ladd, .inl (.aload_n 0), .inr (.inr (.inl (0, 590, 68, 5, 2))), .inl .i2l]
theorem kc_M_isSegment_67 : vm_chk m_M_isSegment 67 k_M_isSegment_67 = some 76 := by decide +kernel
theorem dl_M_isSegment_76 : vm_dec m_M_isSegment 76 .lcmp 1 = true := by decide +kernel
theorem d_M_isSegment_76 : vm_dec m_M_isSegment 77 (.ifCond .le 13) 3 = true := by decide +kernel
def k_M_isSegment_80 : List vm_I := [.inl (.aload_n 0), .inr (.inl (.int 10, 0)), .inl (.iload_n 1), .inr (.inl (.int 4, 0)), .inl .iadd]
theorem kc_M_isSegment_80 : vm_chk m_M_isSegment 80 k_M_isSegment_80 = some 86 := by decide +kernel
theorem v_M_isSegment_86 : vm_okV m_M_isSegment m_M_fail 86 84 2 (698, 700, 23, 48, 701) = true := by decide +kernel
theorem d_M_isSegment_89 : vm_dec m_M_isSegment 89 .ireturn 1 = true := by decide +kernel
def k_M_isSegment_90 : List vm_I := [.inl (.lload 10), .inr (.inl (.long 1, 0))]
theorem kc_M_isSegment_90 : vm_chk m_M_isSegment 90 k_M_isSegment_90 = some 93 := by decide +kernel
theorem dl_M_isSegment_93 : vm_dec m_M_isSegment 93 .lcmp 1 = true := by decide +kernel
theorem d_M_isSegment_93 : vm_dec m_M_isSegment 94 (.ifCond .le 35) 3 = true := by decide +kernel
def k_M_isSegment_97 : List vm_I := [.inl (.lload 10), .inr (.inl (.long 4096, 719))]
theorem kc_M_isSegment_97 : vm_chk m_M_isSegment 97 k_M_isSegment_97 = some 102 := by decide +kernel
theorem dl_M_isSegment_102 : vm_dec m_M_isSegment 102 .lcmp 1 = true := by decide +kernel
theorem d_M_isSegment_102 : vm_dec m_M_isSegment 103 (.ifCond .gt 15) 3 = true := by decide +kernel
def k_M_isSegment_106 : List vm_I := [.inl (.lload 10), .inl (.lload 10), .inr (.inl (.long 1, 0)), .inl .lsub, .inl .land, .inr (.inl (.long 0, 0))]
theorem kc_M_isSegment_106 : vm_chk m_M_isSegment 106 k_M_isSegment_106 = some 114 := by decide +kernel
theorem dl_M_isSegment_114 : vm_dec m_M_isSegment 114 .lcmp 1 = true := by decide +kernel
theorem d_M_isSegment_114 : vm_dec m_M_isSegment 115 (.ifCond .eq 14) 3 = true := by decide +kernel
def k_M_isSegment_118 : List vm_I := [.inl (.aload_n 0), .inr (.inl (.int 11, 0)), .inl (.iload_n 1), .inr (.inl (.int 28, 0)), .inl .iadd]
theorem kc_M_isSegment_118 : vm_chk m_M_isSegment 118 k_M_isSegment_118 = some 125 := by decide +kernel
theorem v_M_isSegment_125 : vm_okV m_M_isSegment m_M_fail 125 84 2 (698, 700, 23, 48, 701) = true := by decide +kernel
theorem d_M_isSegment_128 : vm_dec m_M_isSegment 128 .ireturn 1 = true := by decide +kernel
def k_M_isSegment_129 : List vm_I := [.inl (.lload 10), .inr (.inl (.long 1, 0))]
theorem kc_M_isSegment_129 : vm_chk m_M_isSegment 129 k_M_isSegment_129 = some 132 := by decide +kernel
theorem dl_M_isSegment_132 : vm_dec m_M_isSegment 132 .lcmp 1 = true := by decide +kernel
theorem d_M_isSegment_132 : vm_dec m_M_isSegment 133 (.ifCond .le 27) 3 = true := by decide +kernel
def k_M_isSegment_136 : List vm_I := [.inl (.lload 4), .inl (.lload 10), .inl .lrem, .inl (.lload_n 2), .inl (.lload 10), .inl .lrem]
theorem kc_M_isSegment_136 : vm_chk m_M_isSegment 136 k_M_isSegment_136 = some 145 := by decide +kernel
theorem dl_M_isSegment_145 : vm_dec m_M_isSegment 145 .lcmp 1 = true := by decide +kernel
theorem d_M_isSegment_145 : vm_dec m_M_isSegment 146 (.ifCond .eq 14) 3 = true := by decide +kernel
def k_M_isSegment_149 : List vm_I := [.inl (.aload_n 0), .inr (.inl (.int 12, 0)), .inl (.iload_n 1), .inr (.inl (.int 8, 0)), .inl .iadd]
theorem kc_M_isSegment_149 : vm_chk m_M_isSegment 149 k_M_isSegment_149 = some 156 := by decide +kernel
theorem v_M_isSegment_156 : vm_okV m_M_isSegment m_M_fail 156 84 2 (698, 700, 23, 48, 701) = true := by decide +kernel
theorem d_M_isSegment_159 : vm_dec m_M_isSegment 159 .ireturn 1 = true := by decide +kernel
def k_M_isSegment_160 : List vm_I := [.inl (.lload 8), .inr (.inl (.long 0, 0))]
theorem kc_M_isSegment_160 : vm_chk m_M_isSegment 160 k_M_isSegment_160 = some 163 := by decide +kernel
theorem dl_M_isSegment_163 : vm_dec m_M_isSegment 163 .lcmp 1 = true := by decide +kernel
theorem d_M_isSegment_163 : vm_dec m_M_isSegment 164 (.ifCond .ne 5) 3 = true := by decide +kernel
def k_M_isSegment_167 : List vm_I := [.inr (.inl (.int 1, 0))]
theorem kc_M_isSegment_167 : vm_chk m_M_isSegment 167 k_M_isSegment_167 = some 168 := by decide +kernel
theorem d_M_isSegment_168 : vm_dec m_M_isSegment 168 .ireturn 1 = true := by decide +kernel
def k_M_isSegment_169 : List vm_I := [.inl (.lload 4), .inl (.aload_n 0), .inr (.inr (.inl (0, 603, 96, 5, 15))), .inl .i2l, .inl .ladd, .inl (.lload 8), .inl .ladd, .inr (.inl (.long 16384, 720))]
theorem kc_M_isSegment_169 : vm_chk m_M_isSegment 169 k_M_isSegment_169 = some 183 := by decide +kernel
theorem dl_M_isSegment_183 : vm_dec m_M_isSegment 183 .lcmp 1 = true := by decide +kernel
theorem d_M_isSegment_183 : vm_dec m_M_isSegment 184 (.ifCond .le 14) 3 = true := by decide +kernel
def k_M_isSegment_187 : List vm_I := [.inl (.aload_n 0), .inr (.inl (.int 13, 0)), .inl (.iload_n 1), .inr (.inl (.int 8, 0)), .inl .iadd]
theorem kc_M_isSegment_187 : vm_chk m_M_isSegment 187 k_M_isSegment_187 = some 194 := by decide +kernel
theorem v_M_isSegment_194 : vm_okV m_M_isSegment m_M_fail 194 84 2 (698, 700, 23, 48, 701) = true := by decide +kernel
theorem d_M_isSegment_197 : vm_dec m_M_isSegment 197 .ireturn 1 = true := by decide +kernel
def k_M_isSegment_198 : List vm_I := [.inl (.lload 4), .inl (.aload_n 0), .inr (.inr (.inl (0, 603, 96, 5, 15))), .inl .i2l, .inl .ladd, .inl .l2i, .inl (.istore 12), .inl (.iload 12), .inl .i2l, .inl (.lload 8), .inl .ladd, .inr (.inl (.long 1, 0)), .inl .lsub, .inl .l2i, .inl (.istore 13), .inr (.inl (.int 0, 0)), .inl (.istore 14), .inl (.iload 12), .inr (.inl (.int 256, 0)), .inl .idiv, .inl (.istore 15)]
theorem kc_M_isSegment_198 : vm_chk m_M_isSegment 198 k_M_isSegment_198 = some 231 := by decide +kernel
def k_M_isSegment_231 : List vm_I := [.inl (.iload 15), .inl (.iload 13), .inr (.inl (.int 256, 0)), .inl .idiv]
theorem kc_M_isSegment_231 : vm_chk m_M_isSegment 231 k_M_isSegment_231 = some 239 := by decide +kernel
theorem d_M_isSegment_239 : vm_dec m_M_isSegment 239 (.if_icmp .gt 43) 3 = true := by decide +kernel
def k_M_isSegment_242 : List vm_I := [.inl (.aload_n 0), .inr (.inr (.inl (0, 592, 13, 5, 4))), .inl (.iload 15), .inl .baload]
theorem kc_M_isSegment_242 : vm_chk m_M_isSegment 242 k_M_isSegment_242 = some 249 := by decide +kernel
theorem d_M_isSegment_249 : vm_dec m_M_isSegment 249 (.ifCond .ne 13) 3 = true := by decide +kernel
def k_M_isSegment_252 : List vm_I := [.inl (.aload_n 0), .inr (.inr (.inl (0, 601, 39, 5, 13))), .inl (.iload 15), .inl .baload]
theorem kc_M_isSegment_252 : vm_chk m_M_isSegment 252 k_M_isSegment_252 = some 259 := by decide +kernel
theorem d_M_isSegment_259 : vm_dec m_M_isSegment 259 (.ifCond .eq 14) 3 = true := by decide +kernel
def k_M_isSegment_262 : List vm_I := [.inl (.aload_n 0), .inr (.inl (.int 14, 0)), .inl (.iload_n 1), .inr (.inl (.int 8, 0)), .inl .iadd]
theorem kc_M_isSegment_262 : vm_chk m_M_isSegment 262 k_M_isSegment_262 = some 269 := by decide +kernel
theorem v_M_isSegment_269 : vm_okV m_M_isSegment m_M_fail 269 84 2 (698, 700, 23, 48, 701) = true := by decide +kernel
theorem d_M_isSegment_272 : vm_dec m_M_isSegment 272 .ireturn 1 = true := by decide +kernel
def k_M_isSegment_273 : List vm_I := [.inr (.inr (.inr (14, 1))), .inr (.inr (.inr (15, 1)))]
theorem kc_M_isSegment_273 : vm_chk m_M_isSegment 273 k_M_isSegment_273 = some 279 := by decide +kernel
theorem d_M_isSegment_279 : vm_dec m_M_isSegment 279 (.goto (-48)) 3 = true := by decide +kernel
def k_M_isSegment_282 : List vm_I := [.inl (.aload_n 0)]
theorem kc_M_isSegment_282 : vm_chk m_M_isSegment 282 k_M_isSegment_282 = some 283 := by decide +kernel
theorem v_M_isSegment_283 : vm_okV m_M_isSegment m_M_mappedPages 283 101 0 (721, 723, 28, 48, 724) = true := by decide +kernel
def k_M_isSegment_286 : List vm_I := [.inl (.aload_n 0), .inr (.inr (.inl (0, 602, 105, 5, 14))), .inl .iadd, .inl (.iload 14), .inl .iadd, .inl (.aload_n 0), .inr (.inr (.inl (0, 589, 58, 5, 1)))]
theorem kc_M_isSegment_286 : vm_chk m_M_isSegment 286 k_M_isSegment_286 = some 298 := by decide +kernel
theorem d_M_isSegment_298 : vm_dec m_M_isSegment 298 (.if_icmp .le 14) 3 = true := by decide +kernel
def k_M_isSegment_301 : List vm_I := [.inl (.aload_n 0), .inr (.inl (.int 15, 0)), .inl (.iload_n 1), .inr (.inl (.int 20, 0)), .inl .iadd]
theorem kc_M_isSegment_301 : vm_chk m_M_isSegment 301 k_M_isSegment_301 = some 308 := by decide +kernel
theorem v_M_isSegment_308 : vm_okV m_M_isSegment m_M_fail 308 84 2 (698, 700, 23, 48, 701) = true := by decide +kernel
theorem d_M_isSegment_311 : vm_dec m_M_isSegment 311 .ireturn 1 = true := by decide +kernel
def k_M_isSegment_312 : List vm_I := [.inl (.iload 12), .inr (.inl (.int 256, 0)), .inl .idiv, .inl (.istore 15)]
theorem kc_M_isSegment_312 : vm_chk m_M_isSegment 312 k_M_isSegment_312 = some 320 := by decide +kernel
def k_M_isSegment_320 : List vm_I := [.inl (.iload 15), .inl (.iload 13), .inr (.inl (.int 256, 0)), .inl .idiv]
theorem kc_M_isSegment_320 : vm_chk m_M_isSegment 320 k_M_isSegment_320 = some 328 := by decide +kernel
theorem d_M_isSegment_328 : vm_dec m_M_isSegment 328 (.if_icmp .gt 17) 3 = true := by decide +kernel
def k_M_isSegment_331 : List vm_I := [.inl (.aload_n 0), .inr (.inr (.inl (0, 601, 39, 5, 13))), .inl (.iload 15), .inr (.inl (.int 1, 0)), .inl .bastore, .inr (.inr (.inr (15, 1)))]
theorem kc_M_isSegment_331 : vm_chk m_M_isSegment 331 k_M_isSegment_331 = some 342 := by decide +kernel
theorem d_M_isSegment_342 : vm_dec m_M_isSegment 342 (.goto (-22)) 3 = true := by decide +kernel
def k_M_isSegment_345 : List vm_I := [.inl (.aload_n 0), .inl .dup, .inr (.inr (.inl (0, 602, 105, 5, 14))), .inl (.iload 14), .inl .iadd, .inr (.inr (.inl (1, 602, 105, 5, 14))), .inl (.aload_n 0), .inr (.inr (.inl (0, 596, 23, 5, 8))), .inl (.aload_n 0), .inr (.inr (.inl (0, 595, 108, 5, 7))), .inl (.iload 12), .inl .i2l, .inl .lastore, .inl (.aload_n 0), .inr (.inr (.inl (0, 597, 27, 5, 9))), .inl (.aload_n 0), .inr (.inr (.inl (0, 595, 108, 5, 7))), .inl (.lload 8), .inl .lastore, .inl (.aload_n 0), .inr (.inr (.inl (0, 598, 30, 5, 10))), .inl (.aload_n 0), .inr (.inr (.inl (0, 595, 108, 5, 7))), .inl (.lload_n 2), .inl .l2i, .inl .iastore, .inl (.aload_n 0), .inr (.inr (.inl (0, 599, 33, 5, 11))), .inl (.aload_n 0), .inr (.inr (.inl (0, 595, 108, 5, 7))), .inl (.lload 6), .inl .l2i, .inl .iastore, .inl (.aload_n 0), .inr (.inr (.inl (0, 600, 36, 5, 12))), .inl (.aload_n 0), .inr (.inr (.inl (0, 595, 108, 5, 7))), .inl (.aload_n 0), .inl (.iload_n 1), .inr (.inl (.int 24, 0)), .inl .iadd]
theorem kc_M_isSegment_345 : vm_chk m_M_isSegment 345 k_M_isSegment_345 = some 415 := by decide +kernel
theorem v_M_isSegment_415 : vm_okV m_M_isSegment m_M_word 415 88 1 (706, 708, 25, 48, 709) = true := by decide +kernel
def k_M_isSegment_418 : List vm_I := [.inr (.inl (.long 7, 725)), .inl .land, .inl .l2i, .inl .iastore, .inl (.aload_n 0), .inl .dup, .inr (.inr (.inl (0, 595, 108, 5, 7))), .inr (.inl (.int 1, 0)), .inl .iadd, .inr (.inr (.inl (1, 595, 108, 5, 7))), .inr (.inl (.int 1, 0))]
theorem kc_M_isSegment_418 : vm_chk m_M_isSegment 418 k_M_isSegment_418 = some 435 := by decide +kernel
theorem d_M_isSegment_435 : vm_dec m_M_isSegment 435 .ireturn 1 = true := by decide +kernel
def k_M_isDynamic_0 : List vm_I := [.inl (.aload_n 0), .inl (.iload_n 1), .inr (.inl (.int 4, 0)), .inl .iadd]
theorem kc_M_isDynamic_0 : vm_chk m_M_isDynamic 0 k_M_isDynamic_0 = some 4 := by decide +kernel
theorem v_M_isDynamic_4 : vm_okV m_M_isDynamic m_M_word 4 88 1 (706, 708, 25, 48, 709) = true := by decide +kernel
def k_M_isDynamic_7 : List vm_I := [.inl (.aload_n 0), .inl (.iload_n 1), .inr (.inl (.int 16, 0)), .inl .iadd]
theorem kc_M_isDynamic_7 : vm_chk m_M_isDynamic 7 k_M_isDynamic_7 = some 12 := by decide +kernel
theorem v_M_isDynamic_12 : vm_okV m_M_isDynamic m_M_word 12 88 1 (706, 708, 25, 48, 709) = true := by decide +kernel
def k_M_isDynamic_15 : List vm_I := [.inl .ladd, .inl (.aload_n 0), .inr (.inr (.inl (0, 590, 68, 5, 2))), .inl .i2l]
theorem kc_M_isDynamic_15 : vm_chk m_M_isDynamic 15 k_M_isDynamic_15 = some 21 := by decide +kernel
theorem dl_M_isDynamic_21 : vm_dec m_M_isDynamic 21 .lcmp 1 = true := by decide +kernel
theorem d_M_isDynamic_21 : vm_dec m_M_isDynamic 22 (.ifCond .le 13) 3 = true := by decide +kernel
def k_M_isDynamic_25 : List vm_I := [.inl (.aload_n 0), .inr (.inl (.int 10, 0)), .inl (.iload_n 1), .inr (.inl (.int 4, 0)), .inl .iadd]
theorem kc_M_isDynamic_25 : vm_chk m_M_isDynamic 25 k_M_isDynamic_25 = some 31 := by decide +kernel
theorem v_M_isDynamic_31 : vm_okV m_M_isDynamic m_M_fail 31 84 2 (698, 700, 23, 48, 701) = true := by decide +kernel
theorem d_M_isDynamic_34 : vm_dec m_M_isDynamic 34 .ireturn 1 = true := by decide +kernel
def k_M_isDynamic_35 : List vm_I := [.inl (.aload_n 0), .inl (.iload_n 1), .inr (.inl (.int 16, 0)), .inl .iadd]
theorem kc_M_isDynamic_35 : vm_chk m_M_isDynamic 35 k_M_isDynamic_35 = some 40 := by decide +kernel
theorem v_M_isDynamic_40 : vm_okV m_M_isDynamic m_M_word 40 88 1 (706, 708, 25, 48, 709) = true := by decide +kernel
def k_M_isDynamic_43 : List vm_I := [.inr (.inl (.long 8, 731)), .inl .lrem, .inr (.inl (.long 0, 0))]
theorem kc_M_isDynamic_43 : vm_chk m_M_isDynamic 43 k_M_isDynamic_43 = some 48 := by decide +kernel
theorem dl_M_isDynamic_48 : vm_dec m_M_isDynamic 48 .lcmp 1 = true := by decide +kernel
theorem d_M_isDynamic_48 : vm_dec m_M_isDynamic 49 (.ifCond .eq 14) 3 = true := by decide +kernel
def k_M_isDynamic_52 : List vm_I := [.inl (.aload_n 0), .inr (.inl (.int 16, 0)), .inl (.iload_n 1), .inr (.inl (.int 16, 0)), .inl .iadd]
theorem kc_M_isDynamic_52 : vm_chk m_M_isDynamic 52 k_M_isDynamic_52 = some 59 := by decide +kernel
theorem v_M_isDynamic_59 : vm_okV m_M_isDynamic m_M_fail 59 84 2 (698, 700, 23, 48, 701) = true := by decide +kernel
theorem d_M_isDynamic_62 : vm_dec m_M_isDynamic 62 .ireturn 1 = true := by decide +kernel
def k_M_isDynamic_63 : List vm_I := [.inl (.aload_n 0), .inl (.iload_n 1), .inr (.inr (.inl (1, 604, 115, 5, 16))), .inr (.inl (.int 1, 0))]
theorem kc_M_isDynamic_63 : vm_chk m_M_isDynamic 63 k_M_isDynamic_63 = some 69 := by decide +kernel
theorem d_M_isDynamic_69 : vm_dec m_M_isDynamic 69 .ireturn 1 = true := by decide +kernel
def k_M_areHeads_0 : List vm_I := [.inl (.aload_n 0), .inr (.inl (.int 0, 0)), .inr (.inr (.inl (1, 595, 108, 5, 7))), .inl (.aload_n 0), .inr (.inl (.int 0, 0)), .inr (.inr (.inl (1, 602, 105, 5, 14))), .inl (.aload_n 0), .inr (.inl (.int (-1), 0)), .inr (.inr (.inl (1, 604, 115, 5, 16))), .inr (.inl (.int 0, 0)), .inl (.istore_n 1)]
theorem kc_M_areHeads_0 : vm_chk m_M_areHeads 0 k_M_areHeads_0 = some 17 := by decide +kernel
def k_M_areHeads_17 : List vm_I := [.inl (.iload_n 1), .inr (.inl (.int 64, 0))]
theorem kc_M_areHeads_17 : vm_chk m_M_areHeads 17 k_M_areHeads_17 = some 20 := by decide +kernel
theorem d_M_areHeads_20 : vm_dec m_M_areHeads 20 (.if_icmp .ge 16) 3 = true := by decide +kernel
def k_M_areHeads_23 : List vm_I := [.inl (.aload_n 0), .inr (.inr (.inl (0, 601, 39, 5, 13))), .inl (.iload_n 1), .inr (.inl (.int 0, 0)), .inl .bastore, .inr (.inr (.inr (1, 1)))]
theorem kc_M_areHeads_23 : vm_chk m_M_areHeads 23 k_M_areHeads_23 = some 33 := by decide +kernel
theorem d_M_areHeads_33 : vm_dec m_M_areHeads 33 (.goto (-16)) 3 = true := by decide +kernel
def k_M_areHeads_36 : List vm_I := [.inr (.inl (.int 0, 0)), .inl (.istore_n 1)]
theorem kc_M_areHeads_36 : vm_chk m_M_areHeads 36 k_M_areHeads_36 = some 38 := by decide +kernel
def k_M_areHeads_38 : List vm_I := [.inl (.iload_n 1), .inl (.aload_n 0), .inr (.inl (.int 44, 0))]
theorem kc_M_areHeads_38 : vm_chk m_M_areHeads 38 k_M_areHeads_38 = some 42 := by decide +kernel
theorem v_M_areHeads_42 : vm_okV m_M_areHeads m_M_half 42 77 1 (702, 704, 24, 48, 705) = true := by decide +kernel
theorem d_M_areHeads_45 : vm_dec m_M_areHeads 45 (.if_icmp .ge 60) 3 = true := by decide +kernel
def k_M_areHeads_48 : List vm_I := [.inl (.aload_n 0), .inr (.inl (.int 28, 0))]
theorem kc_M_areHeads_48 : vm_chk m_M_areHeads 48 k_M_areHeads_48 = some 51 := by decide +kernel
theorem v_M_areHeads_51 : vm_okV m_M_areHeads m_M_word 51 88 1 (706, 708, 25, 48, 709) = true := by decide +kernel
def k_M_areHeads_54 : List vm_I := [.inl .l2i, .inr (.inl (.int 32, 0)), .inl (.iload_n 1), .inl .imul, .inl .iadd, .inl (.istore_n 2), .inl (.aload_n 0), .inl (.iload_n 2)]
theorem kc_M_areHeads_54 : vm_chk m_M_areHeads 54 k_M_areHeads_54 = some 63 := by decide +kernel
theorem v_M_areHeads_63 : vm_okV m_M_areHeads m_M_word 63 88 1 (706, 708, 25, 48, 709) = true := by decide +kernel
def k_M_areHeads_66 : List vm_I := [.inl (.lstore_n 3), .inl (.lload_n 3), .inr (.inl (.long 1, 0))]
theorem kc_M_areHeads_66 : vm_chk m_M_areHeads 66 k_M_areHeads_66 = some 69 := by decide +kernel
theorem dl_M_areHeads_69 : vm_dec m_M_areHeads 69 .lcmp 1 = true := by decide +kernel
theorem d_M_areHeads_69 : vm_dec m_M_areHeads 70 (.ifCond .ne 11) 3 = true := by decide +kernel
def k_M_areHeads_73 : List vm_I := [.inl (.aload_n 0), .inl (.iload_n 2)]
theorem kc_M_areHeads_73 : vm_chk m_M_areHeads 73 k_M_areHeads_73 = some 75 := by decide +kernel
theorem v_M_areHeads_75 : vm_okV m_M_areHeads m_M_isSegment 75 118 1 (715, 717, 27, 48, 718) = true := by decide +kernel
theorem d_M_areHeads_78 : vm_dec m_M_areHeads 78 (.ifCond .eq 19) 3 = true := by decide +kernel
def k_M_areHeads_81 : List vm_I := [.inl (.lload_n 3), .inr (.inl (.long 2, 726))]
theorem kc_M_areHeads_81 : vm_chk m_M_areHeads 81 k_M_areHeads_81 = some 85 := by decide +kernel
theorem dl_M_areHeads_85 : vm_dec m_M_areHeads 85 .lcmp 1 = true := by decide +kernel
theorem d_M_areHeads_85 : vm_dec m_M_areHeads 86 (.ifCond .ne 13) 3 = true := by decide +kernel
def k_M_areHeads_89 : List vm_I := [.inl (.aload_n 0), .inl (.iload_n 2)]
theorem kc_M_areHeads_89 : vm_chk m_M_areHeads 89 k_M_areHeads_89 = some 91 := by decide +kernel
theorem v_M_areHeads_91 : vm_okV m_M_areHeads m_M_isDynamic 91 123 1 (727, 729, 29, 48, 730) = true := by decide +kernel
theorem d_M_areHeads_94 : vm_dec m_M_areHeads 94 (.ifCond .ne 5) 3 = true := by decide +kernel
def k_M_areHeads_97 : List vm_I := [.inr (.inl (.int 0, 0))]
theorem kc_M_areHeads_97 : vm_chk m_M_areHeads 97 k_M_areHeads_97 = some 98 := by decide +kernel
theorem d_M_areHeads_98 : vm_dec m_M_areHeads 98 .ireturn 1 = true := by decide +kernel
def k_M_areHeads_99 : List vm_I := [.inr (.inr (.inr (1, 1)))]
theorem kc_M_areHeads_99 : vm_chk m_M_areHeads 99 k_M_areHeads_99 = some 102 := by decide +kernel
theorem d_M_areHeads_102 : vm_dec m_M_areHeads 102 (.goto (-64)) 3 = true := by decide +kernel
def k_M_areHeads_105 : List vm_I := [.inl (.aload_n 0), .inr (.inr (.inl (0, 595, 108, 5, 7)))]
theorem kc_M_areHeads_105 : vm_chk m_M_areHeads 105 k_M_areHeads_105 = some 109 := by decide +kernel
theorem d_M_areHeads_109 : vm_dec m_M_areHeads 109 (.ifCond .ne 12) 3 = true := by decide +kernel
def k_M_areHeads_112 : List vm_I := [.inl (.aload_n 0), .inr (.inl (.int 17, 0)), .inr (.inl (.int 44, 0))]
theorem kc_M_areHeads_112 : vm_chk m_M_areHeads 112 k_M_areHeads_112 = some 117 := by decide +kernel
theorem v_M_areHeads_117 : vm_okV m_M_areHeads m_M_fail 117 84 2 (698, 700, 23, 48, 701) = true := by decide +kernel
theorem d_M_areHeads_120 : vm_dec m_M_areHeads 120 .ireturn 1 = true := by decide +kernel
def k_M_areHeads_121 : List vm_I := [.inl (.aload_n 0), .inr (.inl (.int 24, 0))]
theorem kc_M_areHeads_121 : vm_chk m_M_areHeads 121 k_M_areHeads_121 = some 124 := by decide +kernel
theorem v_M_areHeads_124 : vm_okV m_M_areHeads m_M_word 124 88 1 (706, 708, 25, 48, 709) = true := by decide +kernel
def k_M_areHeads_127 : List vm_I := [.inl (.aload_n 0), .inr (.inr (.inl (0, 603, 96, 5, 15))), .inl .i2l, .inl .ladd, .inl (.lstore_n 1), .inr (.inl (.int 0, 0)), .inl (.istore_n 3)]
theorem kc_M_areHeads_127 : vm_chk m_M_areHeads 127 k_M_areHeads_127 = some 136 := by decide +kernel
def k_M_areHeads_136 : List vm_I := [.inl (.iload_n 3), .inl (.aload_n 0), .inr (.inr (.inl (0, 595, 108, 5, 7)))]
theorem kc_M_areHeads_136 : vm_chk m_M_areHeads 136 k_M_areHeads_136 = some 141 := by decide +kernel
theorem d_M_areHeads_141 : vm_dec m_M_areHeads 141 (.if_icmp .ge 52) 3 = true := by decide +kernel
def k_M_areHeads_144 : List vm_I := [.inl (.lload_n 1), .inl (.aload_n 0), .inr (.inr (.inl (0, 596, 23, 5, 8))), .inl (.iload_n 3), .inl .laload]
theorem kc_M_areHeads_144 : vm_chk m_M_areHeads 144 k_M_areHeads_144 = some 151 := by decide +kernel
theorem dl_M_areHeads_151 : vm_dec m_M_areHeads 151 .lcmp 1 = true := by decide +kernel
theorem d_M_areHeads_151 : vm_dec m_M_areHeads 152 (.ifCond .lt 35) 3 = true := by decide +kernel
def k_M_areHeads_155 : List vm_I := [.inl (.lload_n 1), .inl (.aload_n 0), .inr (.inr (.inl (0, 596, 23, 5, 8))), .inl (.iload_n 3), .inl .laload, .inl (.aload_n 0), .inr (.inr (.inl (0, 597, 27, 5, 9))), .inl (.iload_n 3), .inl .laload, .inl .ladd]
theorem kc_M_areHeads_155 : vm_chk m_M_areHeads 155 k_M_areHeads_155 = some 169 := by decide +kernel
theorem dl_M_areHeads_169 : vm_dec m_M_areHeads 169 .lcmp 1 = true := by decide +kernel
theorem d_M_areHeads_169 : vm_dec m_M_areHeads 170 (.ifCond .ge 17) 3 = true := by decide +kernel
def k_M_areHeads_173 : List vm_I := [.inl (.aload_n 0), .inr (.inr (.inl (0, 600, 36, 5, 12))), .inl (.iload_n 3), .inl .iaload, .inr (.inl (.int 1, 0)), .inl .iand, .inr (.inl (.int 1, 0))]
theorem kc_M_areHeads_173 : vm_chk m_M_areHeads 173 k_M_areHeads_173 = some 182 := by decide +kernel
theorem d_M_areHeads_182 : vm_dec m_M_areHeads 182 (.if_icmp .ne 5) 3 = true := by decide +kernel
def k_M_areHeads_185 : List vm_I := [.inr (.inl (.int 1, 0))]
theorem kc_M_areHeads_185 : vm_chk m_M_areHeads 185 k_M_areHeads_185 = some 186 := by decide +kernel
theorem d_M_areHeads_186 : vm_dec m_M_areHeads 186 .ireturn 1 = true := by decide +kernel
def k_M_areHeads_187 : List vm_I := [.inr (.inr (.inr (3, 1)))]
theorem kc_M_areHeads_187 : vm_chk m_M_areHeads 187 k_M_areHeads_187 = some 190 := by decide +kernel
theorem d_M_areHeads_190 : vm_dec m_M_areHeads 190 (.goto (-54)) 3 = true := by decide +kernel
def k_M_areHeads_193 : List vm_I := [.inl (.aload_n 0), .inr (.inl (.int 18, 0)), .inr (.inl (.int 24, 0))]
theorem kc_M_areHeads_193 : vm_chk m_M_areHeads 193 k_M_areHeads_193 = some 198 := by decide +kernel
theorem v_M_areHeads_198 : vm_okV m_M_areHeads m_M_fail 198 84 2 (698, 700, 23, 48, 701) = true := by decide +kernel
theorem d_M_areHeads_201 : vm_dec m_M_areHeads 201 .ireturn 1 = true := by decide +kernel
def k_M_arePairs_0 : List vm_I := [.inr (.inl (.int 0, 0)), .inl (.istore_n 1)]
theorem kc_M_arePairs_0 : vm_chk m_M_arePairs 0 k_M_arePairs_0 = some 2 := by decide +kernel
def k_M_arePairs_2 : List vm_I := [.inl (.iload_n 1), .inr (.inl (.int 12, 0))]
theorem kc_M_arePairs_2 : vm_chk m_M_arePairs 2 k_M_arePairs_2 = some 5 := by decide +kernel
theorem d_M_arePairs_5 : vm_dec m_M_arePairs 5 (.if_icmp .ge 16) 3 = true := by decide +kernel
def k_M_arePairs_8 : List vm_I := [.inl (.aload_n 0), .inr (.inr (.inl (0, 605, 42, 5, 17))), .inl (.iload_n 1), .inr (.inl (.long 0, 0)), .inl .lastore, .inr (.inr (.inr (1, 1)))]
theorem kc_M_arePairs_8 : vm_chk m_M_arePairs 8 k_M_arePairs_8 = some 18 := by decide +kernel
theorem d_M_arePairs_18 : vm_dec m_M_arePairs 18 (.goto (-16)) 3 = true := by decide +kernel
def k_M_arePairs_21 : List vm_I := [.inl (.aload_n 0), .inr (.inr (.inl (0, 604, 115, 5, 16))), .inr (.inl (.int (-1), 0))]
theorem kc_M_arePairs_21 : vm_chk m_M_arePairs 21 k_M_arePairs_21 = some 26 := by decide +kernel
theorem d_M_arePairs_26 : vm_dec m_M_arePairs 26 (.if_icmp .ne 5) 3 = true := by decide +kernel
def k_M_arePairs_29 : List vm_I := [.inr (.inl (.int 1, 0))]
theorem kc_M_arePairs_29 : vm_chk m_M_arePairs 29 k_M_arePairs_29 = some 30 := by decide +kernel
theorem d_M_arePairs_30 : vm_dec m_M_arePairs 30 .ireturn 1 = true := by decide +kernel
def k_M_arePairs_31 : List vm_I := [.inl (.aload_n 0), .inl (.aload_n 0), .inr (.inr (.inl (0, 604, 115, 5, 16))), .inr (.inl (.int 4, 0)), .inl .iadd]
theorem kc_M_arePairs_31 : vm_chk m_M_arePairs 31 k_M_arePairs_31 = some 38 := by decide +kernel
theorem v_M_arePairs_38 : vm_okV m_M_arePairs m_M_word 38 88 1 (706, 708, 25, 48, 709) = true := by decide +kernel
def k_M_arePairs_41 : List vm_I := [.inl .l2i, .inl (.istore_n 1), .inl (.aload_n 0), .inl (.aload_n 0), .inr (.inr (.inl (0, 604, 115, 5, 16))), .inr (.inl (.int 16, 0)), .inl .iadd]
theorem kc_M_arePairs_41 : vm_chk m_M_arePairs 41 k_M_arePairs_41 = some 51 := by decide +kernel
theorem v_M_arePairs_51 : vm_okV m_M_arePairs m_M_word 51 88 1 (706, 708, 25, 48, 709) = true := by decide +kernel
def k_M_arePairs_54 : List vm_I := [.inl .l2i, .inr (.inl (.int 8, 0)), .inl .idiv, .inl (.istore_n 2), .inr (.inl (.int 0, 0)), .inl (.istore_n 3)]
theorem kc_M_arePairs_54 : vm_chk m_M_arePairs 54 k_M_arePairs_54 = some 61 := by decide +kernel
def k_M_arePairs_61 : List vm_I := [.inl (.iload_n 3), .inl (.iload_n 2)]
theorem kc_M_arePairs_61 : vm_chk m_M_arePairs 61 k_M_arePairs_61 = some 63 := by decide +kernel
theorem d_M_arePairs_63 : vm_dec m_M_arePairs 63 (.if_icmp .ge 65) 3 = true := by decide +kernel
def k_M_arePairs_66 : List vm_I := [.inl (.aload_n 0), .inl (.iload_n 1), .inr (.inl (.int 8, 0)), .inl (.iload_n 3), .inl .imul, .inl .iadd]
theorem kc_M_arePairs_66 : vm_chk m_M_arePairs 66 k_M_arePairs_66 = some 73 := by decide +kernel
theorem v_M_arePairs_73 : vm_okV m_M_arePairs m_M_word 73 88 1 (706, 708, 25, 48, 709) = true := by decide +kernel
def k_M_arePairs_76 : List vm_I := [.inr (.inl (.long 0, 0))]
theorem kc_M_arePairs_76 : vm_chk m_M_arePairs 76 k_M_arePairs_76 = some 77 := by decide +kernel
theorem dl_M_arePairs_77 : vm_dec m_M_arePairs 77 .lcmp 1 = true := by decide +kernel
theorem d_M_arePairs_77 : vm_dec m_M_arePairs 78 (.ifCond .eq 50) 3 = true := by decide +kernel
def k_M_arePairs_81 : List vm_I := [.inl (.aload_n 0), .inl (.iload_n 1), .inr (.inl (.int 8, 0)), .inl (.iload_n 3), .inl .imul, .inl .iadd]
theorem kc_M_arePairs_81 : vm_chk m_M_arePairs 81 k_M_arePairs_81 = some 88 := by decide +kernel
theorem v_M_arePairs_88 : vm_okV m_M_arePairs m_M_word 88 88 1 (706, 708, 25, 48, 709) = true := by decide +kernel
def k_M_arePairs_91 : List vm_I := [.inl (.lstore 4), .inl (.lload 4), .inr (.inl (.long 12, 736))]
theorem kc_M_arePairs_91 : vm_chk m_M_arePairs 91 k_M_arePairs_91 = some 98 := by decide +kernel
theorem dl_M_arePairs_98 : vm_dec m_M_arePairs 98 .lcmp 1 = true := by decide +kernel
theorem d_M_arePairs_98 : vm_dec m_M_arePairs 99 (.ifCond .ge 23) 3 = true := by decide +kernel
def k_M_arePairs_102 : List vm_I := [.inl (.aload_n 0), .inr (.inr (.inl (0, 605, 42, 5, 17))), .inl (.lload 4), .inl .l2i, .inl (.aload_n 0), .inl (.iload_n 1), .inr (.inl (.int 8, 0)), .inl (.iload_n 3), .inl .imul, .inl .iadd, .inr (.inl (.int 4, 0)), .inl .iadd]
theorem kc_M_arePairs_102 : vm_chk m_M_arePairs 102 k_M_arePairs_102 = some 118 := by decide +kernel
theorem v_M_arePairs_118 : vm_okV m_M_arePairs m_M_word 118 88 1 (706, 708, 25, 48, 709) = true := by decide +kernel
def k_M_arePairs_121 : List vm_I := [.inl .lastore]
theorem kc_M_arePairs_121 : vm_chk m_M_arePairs 121 k_M_arePairs_121 = some 122 := by decide +kernel
def k_M_arePairs_122 : List vm_I := [.inr (.inr (.inr (3, 1)))]
theorem kc_M_arePairs_122 : vm_chk m_M_arePairs 122 k_M_arePairs_122 = some 125 := by decide +kernel
theorem d_M_arePairs_125 : vm_dec m_M_arePairs 125 (.goto (-64)) 3 = true := by decide +kernel
def k_M_arePairs_128 : List vm_I := [.inl (.aload_n 0), .inr (.inr (.inl (0, 605, 42, 5, 17))), .inr (.inl (.int 8, 0)), .inl .laload, .inr (.inl (.long 12, 736)), .inl .lrem, .inr (.inl (.long 0, 0))]
theorem kc_M_arePairs_128 : vm_chk m_M_arePairs 128 k_M_arePairs_128 = some 140 := by decide +kernel
theorem dl_M_arePairs_140 : vm_dec m_M_arePairs 140 .lcmp 1 = true := by decide +kernel
theorem d_M_arePairs_140 : vm_dec m_M_arePairs 141 (.ifCond .ne 47) 3 = true := by decide +kernel
def k_M_arePairs_144 : List vm_I := [.inl (.aload_n 0), .inr (.inr (.inl (0, 605, 42, 5, 17))), .inr (.inl (.int 8, 0)), .inl .laload, .inr (.inl (.long 0, 0))]
theorem kc_M_arePairs_144 : vm_chk m_M_arePairs 144 k_M_arePairs_144 = some 152 := by decide +kernel
theorem dl_M_arePairs_152 : vm_dec m_M_arePairs 152 .lcmp 1 = true := by decide +kernel
theorem d_M_arePairs_152 : vm_dec m_M_arePairs 153 (.ifCond .eq 17) 3 = true := by decide +kernel
def k_M_arePairs_156 : List vm_I := [.inl (.aload_n 0), .inr (.inr (.inl (0, 605, 42, 5, 17))), .inr (.inl (.int 9, 0)), .inl .laload, .inr (.inl (.long 12, 736))]
theorem kc_M_arePairs_156 : vm_chk m_M_arePairs 156 k_M_arePairs_156 = some 166 := by decide +kernel
theorem dl_M_arePairs_166 : vm_dec m_M_arePairs 166 .lcmp 1 = true := by decide +kernel
theorem d_M_arePairs_166 : vm_dec m_M_arePairs 167 (.ifCond .ne 21) 3 = true := by decide +kernel
def k_M_arePairs_170 : List vm_I := [.inl (.aload_n 0), .inr (.inr (.inl (0, 605, 42, 5, 17))), .inr (.inl (.int 8, 0)), .inl .laload, .inr (.inl (.long 720, 737))]
theorem kc_M_arePairs_170 : vm_chk m_M_arePairs 170 k_M_arePairs_170 = some 180 := by decide +kernel
theorem dl_M_arePairs_180 : vm_dec m_M_arePairs 180 .lcmp 1 = true := by decide +kernel
theorem d_M_arePairs_180 : vm_dec m_M_arePairs 181 (.ifCond .gt 7) 3 = true := by decide +kernel
def k_M_arePairs_184 : List vm_I := [.inr (.inl (.int 1, 0))]
theorem kc_M_arePairs_184 : vm_chk m_M_arePairs 184 k_M_arePairs_184 = some 185 := by decide +kernel
theorem d_M_arePairs_185 : vm_dec m_M_arePairs 185 (.goto 4) 3 = true := by decide +kernel
def k_M_arePairs_188 : List vm_I := [.inr (.inl (.int 0, 0))]
theorem kc_M_arePairs_188 : vm_chk m_M_arePairs 188 k_M_arePairs_188 = some 189 := by decide +kernel
def k_M_arePairs_189 : List vm_I := [.inl (.istore_n 3), .inl (.iload_n 3)]
theorem kc_M_arePairs_189 : vm_chk m_M_arePairs 189 k_M_arePairs_189 = some 191 := by decide +kernel
theorem d_M_arePairs_191 : vm_dec m_M_arePairs 191 (.ifCond .ne 16) 3 = true := by decide +kernel
def k_M_arePairs_194 : List vm_I := [.inl (.aload_n 0), .inr (.inl (.int 19, 0)), .inl (.aload_n 0), .inr (.inr (.inl (0, 604, 115, 5, 16)))]
theorem kc_M_arePairs_194 : vm_chk m_M_arePairs 194 k_M_arePairs_194 = some 201 := by decide +kernel
theorem v_M_arePairs_201 : vm_okV m_M_arePairs m_M_fail 201 84 2 (698, 700, 23, 48, 701) = true := by decide +kernel
theorem d_M_arePairs_204 : vm_dec m_M_arePairs 204 (.ifCond .eq 7) 3 = true := by decide +kernel
def k_M_arePairs_207 : List vm_I := [.inr (.inl (.int 1, 0))]
theorem kc_M_arePairs_207 : vm_chk m_M_arePairs 207 k_M_arePairs_207 = some 208 := by decide +kernel
theorem d_M_arePairs_208 : vm_dec m_M_arePairs 208 (.goto 4) 3 = true := by decide +kernel
def k_M_arePairs_211 : List vm_I := [.inr (.inl (.int 0, 0))]
theorem kc_M_arePairs_211 : vm_chk m_M_arePairs 211 k_M_arePairs_211 = some 212 := by decide +kernel
theorem d_M_arePairs_212 : vm_dec m_M_arePairs 212 .ireturn 1 = true := by decide +kernel
def k_M_lay_0 : List vm_I := [.inr (.inl (.int 0, 0)), .inl (.istore_n 1)]
theorem kc_M_lay_0 : vm_chk m_M_lay 0 k_M_lay_0 = some 2 := by decide +kernel
def k_M_lay_2 : List vm_I := [.inl (.iload_n 1), .inl (.aload_n 0), .inr (.inr (.inl (0, 595, 108, 5, 7)))]
theorem kc_M_lay_2 : vm_chk m_M_lay 2 k_M_lay_2 = some 7 := by decide +kernel
theorem d_M_lay_7 : vm_dec m_M_lay 7 (.if_icmp .ge 149) 3 = true := by decide +kernel
def k_M_lay_10 : List vm_I := [.inl (.aload_n 0), .inr (.inr (.inl (0, 596, 23, 5, 8))), .inl (.iload_n 1), .inl .laload, .inl .l2i, .inl (.istore_n 2), .inl (.iload_n 2), .inl .i2l, .inl (.aload_n 0), .inr (.inr (.inl (0, 597, 27, 5, 9))), .inl (.iload_n 1), .inl .laload, .inl .ladd, .inr (.inl (.long 1, 0)), .inl .lsub, .inl .l2i, .inl (.istore_n 3), .inl (.iload_n 2), .inr (.inl (.int 256, 0)), .inl .idiv, .inl (.istore 4)]
theorem kc_M_lay_10 : vm_chk m_M_lay 10 k_M_lay_10 = some 38 := by decide +kernel
def k_M_lay_38 : List vm_I := [.inl (.iload 4), .inl (.iload_n 3), .inr (.inl (.int 256, 0)), .inl .idiv]
theorem kc_M_lay_38 : vm_chk m_M_lay 38 k_M_lay_38 = some 45 := by decide +kernel
theorem d_M_lay_45 : vm_dec m_M_lay 45 (.if_icmp .gt 62) 3 = true := by decide +kernel
def k_M_lay_48 : List vm_I := [.inl (.aload_n 0), .inr (.inr (.inl (0, 592, 13, 5, 4))), .inl (.iload 4), .inr (.inl (.int 1, 0)), .inl .bastore, .inl (.aload_n 0), .inr (.inr (.inl (0, 593, 17, 5, 5))), .inl (.iload 4), .inl (.aload_n 0), .inr (.inr (.inl (0, 600, 36, 5, 12))), .inl (.iload_n 1), .inl .iaload, .inl .iastore, .inr (.inl (.int 0, 0)), .inl (.istore 5)]
theorem kc_M_lay_48 : vm_chk m_M_lay 48 k_M_lay_48 = some 72 := by decide +kernel
def k_M_lay_72 : List vm_I := [.inl (.iload 5), .inr (.inl (.int 256, 0))]
theorem kc_M_lay_72 : vm_chk m_M_lay 72 k_M_lay_72 = some 77 := by decide +kernel
theorem d_M_lay_77 : vm_dec m_M_lay 77 (.if_icmp .ge 24) 3 = true := by decide +kernel
def k_M_lay_80 : List vm_I := [.inl (.aload_n 0), .inr (.inr (.inl (0, 594, 20, 5, 6))), .inr (.inl (.int 256, 0)), .inl (.iload 4), .inl .imul, .inl (.iload 5), .inl .iadd, .inr (.inl (.int 0, 0)), .inl .iastore, .inr (.inr (.inr (5, 1)))]
theorem kc_M_lay_80 : vm_chk m_M_lay 80 k_M_lay_80 = some 98 := by decide +kernel
theorem d_M_lay_98 : vm_dec m_M_lay 98 (.goto (-26)) 3 = true := by decide +kernel
def k_M_lay_101 : List vm_I := [.inr (.inr (.inr (4, 1)))]
theorem kc_M_lay_101 : vm_chk m_M_lay 101 k_M_lay_101 = some 104 := by decide +kernel
theorem d_M_lay_104 : vm_dec m_M_lay 104 (.goto (-66)) 3 = true := by decide +kernel
def k_M_lay_107 : List vm_I := [.inr (.inl (.int 0, 0)), .inl (.istore 4)]
theorem kc_M_lay_107 : vm_chk m_M_lay 107 k_M_lay_107 = some 110 := by decide +kernel
def k_M_lay_110 : List vm_I := [.inl (.iload 4), .inl (.aload_n 0), .inr (.inr (.inl (0, 599, 33, 5, 11))), .inl (.iload_n 1), .inl .iaload]
theorem kc_M_lay_110 : vm_chk m_M_lay 110 k_M_lay_110 = some 118 := by decide +kernel
theorem d_M_lay_118 : vm_dec m_M_lay 118 (.if_icmp .ge 32) 3 = true := by decide +kernel
def k_M_lay_121 : List vm_I := [.inl (.aload_n 0), .inr (.inr (.inl (0, 594, 20, 5, 6))), .inl (.iload_n 2), .inl (.iload 4), .inl .iadd, .inl (.aload_n 0), .inr (.inr (.inl (0, 591, 7, 5, 3))), .inl (.aload_n 0), .inr (.inr (.inl (0, 598, 30, 5, 10))), .inl (.iload_n 1), .inl .iaload, .inl (.iload 4), .inl .iadd, .inl .iaload, .inl .iastore, .inr (.inr (.inr (4, 1)))]
theorem kc_M_lay_121 : vm_chk m_M_lay 121 k_M_lay_121 = some 147 := by decide +kernel
theorem d_M_lay_147 : vm_dec m_M_lay 147 (.goto (-37)) 3 = true := by decide +kernel
def k_M_lay_150 : List vm_I := [.inr (.inr (.inr (1, 1)))]
theorem kc_M_lay_150 : vm_chk m_M_lay 150 k_M_lay_150 = some 153 := by decide +kernel
theorem d_M_lay_153 : vm_dec m_M_lay 153 (.goto (-151)) 3 = true := by decide +kernel
theorem d_M_lay_156 : vm_dec m_M_lay 156 .return_ 1 = true := by decide +kernel
def k_M_unlay_0 : List vm_I := [.inr (.inl (.int 0, 0)), .inl (.istore_n 1)]
theorem kc_M_unlay_0 : vm_chk m_M_unlay 0 k_M_unlay_0 = some 2 := by decide +kernel
def k_M_unlay_2 : List vm_I := [.inl (.iload_n 1), .inr (.inl (.int 64, 0))]
theorem kc_M_unlay_2 : vm_chk m_M_unlay 2 k_M_unlay_2 = some 5 := by decide +kernel
theorem d_M_unlay_5 : vm_dec m_M_unlay 5 (.if_icmp .ge 38) 3 = true := by decide +kernel
def k_M_unlay_8 : List vm_I := [.inl (.aload_n 0), .inr (.inr (.inl (0, 592, 13, 5, 4))), .inl (.iload_n 1), .inl (.aload_n 0), .inr (.inr (.inl (0, 592, 13, 5, 4))), .inl (.iload_n 1), .inl .baload]
theorem kc_M_unlay_8 : vm_chk m_M_unlay 8 k_M_unlay_8 = some 19 := by decide +kernel
theorem d_M_unlay_19 : vm_dec m_M_unlay 19 (.ifCond .eq 16) 3 = true := by decide +kernel
def k_M_unlay_22 : List vm_I := [.inl (.aload_n 0), .inr (.inr (.inl (0, 601, 39, 5, 13))), .inl (.iload_n 1), .inl .baload]
theorem kc_M_unlay_22 : vm_chk m_M_unlay 22 k_M_unlay_22 = some 28 := by decide +kernel
theorem d_M_unlay_28 : vm_dec m_M_unlay 28 (.ifCond .ne 7) 3 = true := by decide +kernel
def k_M_unlay_31 : List vm_I := [.inr (.inl (.int 1, 0))]
theorem kc_M_unlay_31 : vm_chk m_M_unlay 31 k_M_unlay_31 = some 32 := by decide +kernel
theorem d_M_unlay_32 : vm_dec m_M_unlay 32 (.goto 4) 3 = true := by decide +kernel
def k_M_unlay_35 : List vm_I := [.inr (.inl (.int 0, 0))]
theorem kc_M_unlay_35 : vm_chk m_M_unlay 35 k_M_unlay_35 = some 36 := by decide +kernel
def k_M_unlay_36 : List vm_I := [.inl .bastore, .inr (.inr (.inr (1, 1)))]
theorem kc_M_unlay_36 : vm_chk m_M_unlay 36 k_M_unlay_36 = some 40 := by decide +kernel
theorem d_M_unlay_40 : vm_dec m_M_unlay 40 (.goto (-38)) 3 = true := by decide +kernel
theorem d_M_unlay_43 : vm_dec m_M_unlay 43 .return_ 1 = true := by decide +kernel
def k_M_areHeld_0 : List vm_I := [.inr (.inl (.int 1, 0)), .inl (.istore 4), .inr (.inl (.int 0, 0)), .inl (.istore 5)]
theorem kc_M_areHeld_0 : vm_chk m_M_areHeld 0 k_M_areHeld_0 = some 6 := by decide +kernel
def k_M_areHeld_6 : List vm_I := [.inl (.iload 5), .inl (.iload_n 3)]
theorem kc_M_areHeld_6 : vm_chk m_M_areHeld 6 k_M_areHeld_6 = some 9 := by decide +kernel
theorem d_M_areHeld_9 : vm_dec m_M_areHeld 9 (.if_icmp .ge 104) 3 = true := by decide +kernel
def k_M_areHeld_12 : List vm_I := [.inl (.lload_n 1), .inl (.iload 5), .inl .i2l, .inl .ladd, .inr (.inl (.long 4294967295, 750)), .inl .land, .inl (.lstore 6), .inr (.inl (.int 0, 0)), .inl (.istore 8), .inr (.inl (.int 0, 0)), .inl (.istore 9)]
theorem kc_M_areHeld_12 : vm_chk m_M_areHeld 12 k_M_areHeld_12 = some 29 := by decide +kernel
def k_M_areHeld_29 : List vm_I := [.inl (.iload 9), .inl (.aload_n 0), .inr (.inr (.inl (0, 595, 108, 5, 7)))]
theorem kc_M_areHeld_29 : vm_chk m_M_areHeld 29 k_M_areHeld_29 = some 35 := by decide +kernel
theorem d_M_areHeld_35 : vm_dec m_M_areHeld 35 (.if_icmp .ge 55) 3 = true := by decide +kernel
def k_M_areHeld_38 : List vm_I := [.inl (.iload 8)]
theorem kc_M_areHeld_38 : vm_chk m_M_areHeld 38 k_M_areHeld_38 = some 40 := by decide +kernel
theorem d_M_areHeld_40 : vm_dec m_M_areHeld 40 (.ifCond .ne 37) 3 = true := by decide +kernel
def k_M_areHeld_43 : List vm_I := [.inl (.lload 6), .inl (.aload_n 0), .inr (.inr (.inl (0, 596, 23, 5, 8))), .inl (.iload 9), .inl .laload]
theorem kc_M_areHeld_43 : vm_chk m_M_areHeld 43 k_M_areHeld_43 = some 52 := by decide +kernel
theorem dl_M_areHeld_52 : vm_dec m_M_areHeld 52 .lcmp 1 = true := by decide +kernel
theorem d_M_areHeld_52 : vm_dec m_M_areHeld 53 (.ifCond .lt 28) 3 = true := by decide +kernel
def k_M_areHeld_56 : List vm_I := [.inl (.lload 6), .inl (.aload_n 0), .inr (.inr (.inl (0, 596, 23, 5, 8))), .inl (.iload 9), .inl .laload, .inl (.aload_n 0), .inr (.inr (.inl (0, 597, 27, 5, 9))), .inl (.iload 9), .inl .laload, .inl .ladd]
theorem kc_M_areHeld_56 : vm_chk m_M_areHeld 56 k_M_areHeld_56 = some 73 := by decide +kernel
theorem dl_M_areHeld_73 : vm_dec m_M_areHeld 73 .lcmp 1 = true := by decide +kernel
theorem d_M_areHeld_73 : vm_dec m_M_areHeld 74 (.ifCond .ge 7) 3 = true := by decide +kernel
def k_M_areHeld_77 : List vm_I := [.inr (.inl (.int 1, 0))]
theorem kc_M_areHeld_77 : vm_chk m_M_areHeld 77 k_M_areHeld_77 = some 78 := by decide +kernel
theorem d_M_areHeld_78 : vm_dec m_M_areHeld 78 (.goto 4) 3 = true := by decide +kernel
def k_M_areHeld_81 : List vm_I := [.inr (.inl (.int 0, 0))]
theorem kc_M_areHeld_81 : vm_chk m_M_areHeld 81 k_M_areHeld_81 = some 82 := by decide +kernel
def k_M_areHeld_82 : List vm_I := [.inl (.istore 8), .inr (.inr (.inr (9, 1)))]
theorem kc_M_areHeld_82 : vm_chk m_M_areHeld 82 k_M_areHeld_82 = some 87 := by decide +kernel
theorem d_M_areHeld_87 : vm_dec m_M_areHeld 87 (.goto (-58)) 3 = true := by decide +kernel
def k_M_areHeld_90 : List vm_I := [.inl (.iload 4)]
theorem kc_M_areHeld_90 : vm_chk m_M_areHeld 90 k_M_areHeld_90 = some 92 := by decide +kernel
theorem d_M_areHeld_92 : vm_dec m_M_areHeld 92 (.ifCond .eq 12) 3 = true := by decide +kernel
def k_M_areHeld_95 : List vm_I := [.inl (.iload 8)]
theorem kc_M_areHeld_95 : vm_chk m_M_areHeld 95 k_M_areHeld_95 = some 97 := by decide +kernel
theorem d_M_areHeld_97 : vm_dec m_M_areHeld 97 (.ifCond .eq 7) 3 = true := by decide +kernel
def k_M_areHeld_100 : List vm_I := [.inr (.inl (.int 1, 0))]
theorem kc_M_areHeld_100 : vm_chk m_M_areHeld 100 k_M_areHeld_100 = some 101 := by decide +kernel
theorem d_M_areHeld_101 : vm_dec m_M_areHeld 101 (.goto 4) 3 = true := by decide +kernel
def k_M_areHeld_104 : List vm_I := [.inr (.inl (.int 0, 0))]
theorem kc_M_areHeld_104 : vm_chk m_M_areHeld 104 k_M_areHeld_104 = some 105 := by decide +kernel
def k_M_areHeld_105 : List vm_I := [.inl (.istore 4), .inr (.inr (.inr (5, 1)))]
theorem kc_M_areHeld_105 : vm_chk m_M_areHeld 105 k_M_areHeld_105 = some 110 := by decide +kernel
theorem d_M_areHeld_110 : vm_dec m_M_areHeld 110 (.goto (-104)) 3 = true := by decide +kernel
def k_M_areHeld_113 : List vm_I := [.inl (.iload 4)]
theorem kc_M_areHeld_113 : vm_chk m_M_areHeld 113 k_M_areHeld_113 = some 115 := by decide +kernel
theorem d_M_areHeld_115 : vm_dec m_M_areHeld 115 .ireturn 1 = true := by decide +kernel
def k_M_wordIn_0 : List vm_I := [.inr (.inl (.long 0, 0)), .inl (.lstore_n 3), .inr (.inl (.int 3, 0)), .inl (.istore 5)]
theorem kc_M_wordIn_0 : vm_chk m_M_wordIn 0 k_M_wordIn_0 = some 5 := by decide +kernel
def k_M_wordIn_5 : List vm_I := [.inl (.iload 5)]
theorem kc_M_wordIn_5 : vm_chk m_M_wordIn 5 k_M_wordIn_5 = some 7 := by decide +kernel
theorem d_M_wordIn_7 : vm_dec m_M_wordIn 7 (.ifCond .lt 31) 3 = true := by decide +kernel
def k_M_wordIn_10 : List vm_I := [.inl (.lload_n 3), .inr (.inl (.int 8, 0)), .inl .lshl, .inl (.aload_n 0), .inr (.inr (.inl (0, 594, 20, 5, 6))), .inl (.lload_n 1), .inl (.iload 5), .inl .i2l, .inl .ladd, .inr (.inl (.long 4294967295, 750)), .inl .land, .inl .l2i, .inl .iaload, .inl .i2l, .inl .lor, .inl (.lstore_n 3), .inr (.inr (.inr (5, (-1))))]
theorem kc_M_wordIn_10 : vm_chk m_M_wordIn 10 k_M_wordIn_10 = some 35 := by decide +kernel
theorem d_M_wordIn_35 : vm_dec m_M_wordIn 35 (.goto (-30)) 3 = true := by decide +kernel
def k_M_wordIn_38 : List vm_I := [.inl (.lload_n 3)]
theorem kc_M_wordIn_38 : vm_chk m_M_wordIn 38 k_M_wordIn_38 = some 39 := by decide +kernel
theorem d_M_wordIn_39 : vm_dec m_M_wordIn 39 .lreturn 1 = true := by decide +kernel
def k_M_put_0 : List vm_I := [.inr (.inl (.int 0, 0)), .inl (.istore 5)]
theorem kc_M_put_0 : vm_chk m_M_put 0 k_M_put_0 = some 3 := by decide +kernel
def k_M_put_3 : List vm_I := [.inl (.iload 5), .inr (.inl (.int 4, 0))]
theorem kc_M_put_3 : vm_chk m_M_put 3 k_M_put_3 = some 6 := by decide +kernel
theorem d_M_put_6 : vm_dec m_M_put 6 (.if_icmp .ge 36) 3 = true := by decide +kernel
def k_M_put_9 : List vm_I := [.inl (.aload_n 0), .inr (.inr (.inl (0, 594, 20, 5, 6))), .inl (.lload_n 1), .inl (.iload 5), .inl .i2l, .inl .ladd, .inr (.inl (.long 4294967295, 750)), .inl .land, .inl .l2i, .inl (.lload_n 3), .inr (.inl (.int 8, 0)), .inl (.iload 5), .inl .imul, .inl .lshr, .inr (.inl (.long 255, 670)), .inl .land, .inl .l2i, .inl .iastore, .inr (.inr (.inr (5, 1)))]
theorem kc_M_put_9 : vm_chk m_M_put 9 k_M_put_9 = some 39 := by decide +kernel
theorem d_M_put_39 : vm_dec m_M_put 39 (.goto (-36)) 3 = true := by decide +kernel
theorem d_M_put_42 : vm_dec m_M_put 42 .return_ 1 = true := by decide +kernel
def k_M_relocate_0 : List vm_I := [.inl (.aload_n 0), .inr (.inr (.inl (0, 605, 42, 5, 17))), .inr (.inl (.int 7, 0)), .inl .laload, .inl (.aload_n 0), .inr (.inr (.inl (0, 603, 96, 5, 15))), .inl .i2l, .inl .ladd, .inr (.inl (.long 12, 736)), .inl (.iload_n 1), .inl .i2l, .inl .lmul, .inl .ladd, .inr (.inl (.long 4294967295, 750)), .inl .land, .inl (.lstore_n 2), .inl (.aload_n 0), .inl (.lload_n 2), .inr (.inl (.int 12, 0))]
theorem kc_M_relocate_0 : vm_chk m_M_relocate 0 k_M_relocate_0 = some 29 := by decide +kernel
theorem v_M_relocate_29 : vm_okV m_M_relocate m_M_areHeld 29 132 2 (751, 753, 34, 48, 754) = true := by decide +kernel
theorem d_M_relocate_32 : vm_dec m_M_relocate 32 (.ifCond .ne 11) 3 = true := by decide +kernel
def k_M_relocate_35 : List vm_I := [.inl (.aload_n 0), .inr (.inl (.int 20, 0)), .inl (.iload_n 1)]
theorem kc_M_relocate_35 : vm_chk m_M_relocate 35 k_M_relocate_35 = some 39 := by decide +kernel
theorem v_M_relocate_39 : vm_okV m_M_relocate m_M_fail 39 84 2 (698, 700, 23, 48, 701) = true := by decide +kernel
theorem d_M_relocate_42 : vm_dec m_M_relocate 42 .ireturn 1 = true := by decide +kernel
def k_M_relocate_43 : List vm_I := [.inl (.aload_n 0), .inl (.lload_n 2)]
theorem kc_M_relocate_43 : vm_chk m_M_relocate 43 k_M_relocate_43 = some 45 := by decide +kernel
theorem v_M_relocate_45 : vm_okV m_M_relocate m_M_wordIn 45 136 1 (755, 757, 35, 48, 758) = true := by decide +kernel
def k_M_relocate_48 : List vm_I := [.inl (.aload_n 0), .inr (.inr (.inl (0, 603, 96, 5, 15))), .inl .i2l, .inl .ladd, .inr (.inl (.long 4294967295, 750)), .inl .land, .inl (.lstore 4), .inl (.aload_n 0), .inl (.lload_n 2), .inr (.inl (.long 4, 759)), .inl .ladd, .inr (.inl (.long 4294967295, 750)), .inl .land]
theorem kc_M_relocate_48 : vm_chk m_M_relocate 48 k_M_relocate_48 = some 70 := by decide +kernel
theorem v_M_relocate_70 : vm_okV m_M_relocate m_M_wordIn 70 136 1 (755, 757, 35, 48, 758) = true := by decide +kernel
def k_M_relocate_73 : List vm_I := [.inl (.lstore 6), .inl (.aload_n 0), .inl (.lload_n 2), .inr (.inl (.long 8, 731)), .inl .ladd, .inr (.inl (.long 4294967295, 750)), .inl .land]
theorem kc_M_relocate_73 : vm_chk m_M_relocate 73 k_M_relocate_73 = some 85 := by decide +kernel
theorem v_M_relocate_85 : vm_okV m_M_relocate m_M_wordIn 85 136 1 (755, 757, 35, 48, 758) = true := by decide +kernel
def k_M_relocate_88 : List vm_I := [.inl (.lstore 8), .inl (.aload_n 0), .inl (.lload 4), .inr (.inl (.int 4, 0))]
theorem kc_M_relocate_88 : vm_chk m_M_relocate 88 k_M_relocate_88 = some 94 := by decide +kernel
theorem v_M_relocate_94 : vm_okV m_M_relocate m_M_areHeld 94 132 2 (751, 753, 34, 48, 754) = true := by decide +kernel
theorem d_M_relocate_97 : vm_dec m_M_relocate 97 (.ifCond .ne 11) 3 = true := by decide +kernel
def k_M_relocate_100 : List vm_I := [.inl (.aload_n 0), .inr (.inl (.int 20, 0)), .inl (.iload_n 1)]
theorem kc_M_relocate_100 : vm_chk m_M_relocate 100 k_M_relocate_100 = some 104 := by decide +kernel
theorem v_M_relocate_104 : vm_okV m_M_relocate m_M_fail 104 84 2 (698, 700, 23, 48, 701) = true := by decide +kernel
theorem d_M_relocate_107 : vm_dec m_M_relocate 107 .ireturn 1 = true := by decide +kernel
def k_M_relocate_108 : List vm_I := [.inl (.lload 6), .inr (.inl (.long 255, 670)), .inl .land, .inl .l2i, .inl (.istore 10), .inl (.iload 10)]
theorem kc_M_relocate_108 : vm_chk m_M_relocate 108 k_M_relocate_108 = some 119 := by decide +kernel
theorem d_M_relocate_119 : vm_dec m_M_relocate 119 (.ifCond .eq 23) 3 = true := by decide +kernel
def k_M_relocate_122 : List vm_I := [.inl (.iload 10), .inr (.inl (.int 1, 0))]
theorem kc_M_relocate_122 : vm_chk m_M_relocate 122 k_M_relocate_122 = some 125 := by decide +kernel
theorem d_M_relocate_125 : vm_dec m_M_relocate 125 (.if_icmp .eq 17) 3 = true := by decide +kernel
def k_M_relocate_128 : List vm_I := [.inl (.iload 10), .inr (.inl (.int 3, 0))]
theorem kc_M_relocate_128 : vm_chk m_M_relocate 128 k_M_relocate_128 = some 131 := by decide +kernel
theorem d_M_relocate_131 : vm_dec m_M_relocate 131 (.if_icmp .eq 11) 3 = true := by decide +kernel
def k_M_relocate_134 : List vm_I := [.inl (.aload_n 0), .inr (.inl (.int 21, 0)), .inl (.iload_n 1)]
theorem kc_M_relocate_134 : vm_chk m_M_relocate 134 k_M_relocate_134 = some 138 := by decide +kernel
theorem v_M_relocate_138 : vm_okV m_M_relocate m_M_fail 138 84 2 (698, 700, 23, 48, 701) = true := by decide +kernel
theorem d_M_relocate_141 : vm_dec m_M_relocate 141 .ireturn 1 = true := by decide +kernel
def k_M_relocate_142 : List vm_I := [.inl (.iload 10), .inr (.inl (.int 3, 0))]
theorem kc_M_relocate_142 : vm_chk m_M_relocate 142 k_M_relocate_142 = some 145 := by decide +kernel
theorem d_M_relocate_145 : vm_dec m_M_relocate 145 (.if_icmp .ne 17) 3 = true := by decide +kernel
def k_M_relocate_148 : List vm_I := [.inl (.aload_n 0), .inl (.lload 4), .inl (.aload_n 0), .inr (.inr (.inl (0, 603, 96, 5, 15))), .inl .i2l, .inl (.lload 8), .inl .ladd]
theorem kc_M_relocate_148 : vm_chk m_M_relocate 148 k_M_relocate_148 = some 159 := by decide +kernel
theorem v_M_relocate_159 : vm_okV m_M_relocate m_M_put 159 142 2 (760, 762, 36, 48, 763) = true := by decide +kernel
def k_M_relocate_162 : List vm_I := [.inl (.iload 10), .inr (.inl (.int 1, 0))]
theorem kc_M_relocate_162 : vm_chk m_M_relocate 162 k_M_relocate_162 = some 165 := by decide +kernel
theorem d_M_relocate_165 : vm_dec m_M_relocate 165 (.if_icmp .eq 5) 3 = true := by decide +kernel
def k_M_relocate_168 : List vm_I := [.inr (.inl (.int 1, 0))]
theorem kc_M_relocate_168 : vm_chk m_M_relocate 168 k_M_relocate_168 = some 169 := by decide +kernel
theorem d_M_relocate_169 : vm_dec m_M_relocate 169 .ireturn 1 = true := by decide +kernel
def k_M_relocate_170 : List vm_I := [.inl (.lload 6), .inr (.inl (.int 8, 0)), .inl .lshr, .inl (.lstore 11), .inl (.aload_n 0), .inr (.inr (.inl (0, 605, 42, 5, 17))), .inr (.inl (.int 6, 0)), .inl .laload, .inl (.aload_n 0), .inr (.inr (.inl (0, 603, 96, 5, 15))), .inl .i2l, .inl .ladd, .inr (.inl (.long 16, 764)), .inl (.lload 11), .inl .lmul, .inl .ladd, .inr (.inl (.long 4294967295, 750)), .inl .land, .inl (.lstore 13), .inl (.aload_n 0), .inl (.lload 13), .inr (.inl (.int 16, 0))]
theorem kc_M_relocate_170 : vm_chk m_M_relocate 170 k_M_relocate_170 = some 208 := by decide +kernel
theorem v_M_relocate_208 : vm_okV m_M_relocate m_M_areHeld 208 132 2 (751, 753, 34, 48, 754) = true := by decide +kernel
theorem d_M_relocate_211 : vm_dec m_M_relocate 211 (.ifCond .eq 17) 3 = true := by decide +kernel
def k_M_relocate_214 : List vm_I := [.inl (.aload_n 0), .inr (.inr (.inl (0, 605, 42, 5, 17))), .inr (.inl (.int 11, 0)), .inl .laload, .inr (.inl (.long 16, 764))]
theorem kc_M_relocate_214 : vm_chk m_M_relocate 214 k_M_relocate_214 = some 224 := by decide +kernel
theorem dl_M_relocate_224 : vm_dec m_M_relocate 224 .lcmp 1 = true := by decide +kernel
theorem d_M_relocate_224 : vm_dec m_M_relocate 225 (.ifCond .eq 11) 3 = true := by decide +kernel
def k_M_relocate_228 : List vm_I := [.inl (.aload_n 0), .inr (.inl (.int 22, 0)), .inl (.iload_n 1)]
theorem kc_M_relocate_228 : vm_chk m_M_relocate 228 k_M_relocate_228 = some 232 := by decide +kernel
theorem v_M_relocate_232 : vm_okV m_M_relocate m_M_fail 232 84 2 (698, 700, 23, 48, 701) = true := by decide +kernel
theorem d_M_relocate_235 : vm_dec m_M_relocate 235 .ireturn 1 = true := by decide +kernel
def k_M_relocate_236 : List vm_I := [.inl (.aload_n 0), .inl (.lload 13), .inr (.inl (.long 12, 736)), .inl .ladd, .inr (.inl (.long 4294967295, 750)), .inl .land]
theorem kc_M_relocate_236 : vm_chk m_M_relocate 236 k_M_relocate_236 = some 247 := by decide +kernel
theorem v_M_relocate_247 : vm_okV m_M_relocate m_M_wordIn 247 136 1 (755, 757, 35, 48, 758) = true := by decide +kernel
def k_M_relocate_250 : List vm_I := [.inr (.inl (.int 16, 0)), .inl .lshr, .inl (.lstore 15), .inl (.lload 11), .inr (.inl (.long 0, 0))]
theorem kc_M_relocate_250 : vm_chk m_M_relocate 250 k_M_relocate_250 = some 258 := by decide +kernel
theorem dl_M_relocate_258 : vm_dec m_M_relocate 258 .lcmp 1 = true := by decide +kernel
theorem d_M_relocate_258 : vm_dec m_M_relocate 259 (.ifCond .eq 18) 3 = true := by decide +kernel
def k_M_relocate_262 : List vm_I := [.inl (.lload 15), .inr (.inl (.long 0, 0))]
theorem kc_M_relocate_262 : vm_chk m_M_relocate 262 k_M_relocate_262 = some 265 := by decide +kernel
theorem dl_M_relocate_265 : vm_dec m_M_relocate 265 .lcmp 1 = true := by decide +kernel
theorem d_M_relocate_265 : vm_dec m_M_relocate 266 (.ifCond .ne 11) 3 = true := by decide +kernel
def k_M_relocate_269 : List vm_I := [.inl (.aload_n 0), .inr (.inl (.int 23, 0)), .inl (.iload_n 1)]
theorem kc_M_relocate_269 : vm_chk m_M_relocate 269 k_M_relocate_269 = some 273 := by decide +kernel
theorem v_M_relocate_273 : vm_okV m_M_relocate m_M_fail 273 84 2 (698, 700, 23, 48, 701) = true := by decide +kernel
theorem d_M_relocate_276 : vm_dec m_M_relocate 276 .ireturn 1 = true := by decide +kernel
def k_M_relocate_277 : List vm_I := [.inl (.aload_n 0), .inl (.lload 4), .inl (.lload 8), .inl (.lload 11), .inr (.inl (.long 0, 0))]
theorem kc_M_relocate_277 : vm_chk m_M_relocate 277 k_M_relocate_277 = some 285 := by decide +kernel
theorem dl_M_relocate_285 : vm_dec m_M_relocate 285 .lcmp 1 = true := by decide +kernel
theorem d_M_relocate_285 : vm_dec m_M_relocate 286 (.ifCond .ne 7) 3 = true := by decide +kernel
def k_M_relocate_289 : List vm_I := [.inr (.inl (.long 0, 0))]
theorem kc_M_relocate_289 : vm_chk m_M_relocate 289 k_M_relocate_289 = some 290 := by decide +kernel
theorem d_M_relocate_290 : vm_dec m_M_relocate 290 (.goto 23) 3 = true := by decide +kernel
def k_M_relocate_293 : List vm_I := [.inl (.aload_n 0), .inl (.lload 13), .inr (.inl (.long 4, 759)), .inl .ladd, .inr (.inl (.long 4294967295, 750)), .inl .land]
theorem kc_M_relocate_293 : vm_chk m_M_relocate 293 k_M_relocate_293 = some 304 := by decide +kernel
theorem v_M_relocate_304 : vm_okV m_M_relocate m_M_wordIn 304 136 1 (755, 757, 35, 48, 758) = true := by decide +kernel
def k_M_relocate_307 : List vm_I := [.inl (.aload_n 0), .inr (.inr (.inl (0, 603, 96, 5, 15))), .inl .i2l, .inl .ladd]
theorem kc_M_relocate_307 : vm_chk m_M_relocate 307 k_M_relocate_307 = some 313 := by decide +kernel
def k_M_relocate_313 : List vm_I := [.inl .ladd]
theorem kc_M_relocate_313 : vm_chk m_M_relocate 313 k_M_relocate_313 = some 314 := by decide +kernel
theorem v_M_relocate_314 : vm_okV m_M_relocate m_M_put 314 142 2 (760, 762, 36, 48, 763) = true := by decide +kernel
def k_M_relocate_317 : List vm_I := [.inr (.inl (.int 1, 0))]
theorem kc_M_relocate_317 : vm_chk m_M_relocate 317 k_M_relocate_317 = some 318 := by decide +kernel
theorem d_M_relocate_318 : vm_dec m_M_relocate 318 .ireturn 1 = true := by decide +kernel
def k_M_relocations_0 : List vm_I := [.inl (.aload_n 0), .inr (.inr (.inl (0, 605, 42, 5, 17))), .inr (.inl (.int 8, 0)), .inl .laload, .inr (.inl (.long 12, 736)), .inl .ldiv, .inl .l2i, .inl (.istore_n 1), .inr (.inl (.int 0, 0)), .inl (.istore_n 2)]
theorem kc_M_relocations_0 : vm_chk m_M_relocations 0 k_M_relocations_0 = some 15 := by decide +kernel
def k_M_relocations_15 : List vm_I := [.inl (.iload_n 2), .inl (.iload_n 1)]
theorem kc_M_relocations_15 : vm_chk m_M_relocations 15 k_M_relocations_15 = some 17 := by decide +kernel
theorem d_M_relocations_17 : vm_dec m_M_relocations 17 (.if_icmp .ge 23) 3 = true := by decide +kernel
def k_M_relocations_20 : List vm_I := [.inl (.aload_n 0), .inl (.iload_n 2)]
theorem kc_M_relocations_20 : vm_chk m_M_relocations 20 k_M_relocations_20 = some 22 := by decide +kernel
theorem v_M_relocations_22 : vm_okV m_M_relocations m_M_relocate 22 148 1 (746, 748, 33, 48, 749) = true := by decide +kernel
theorem d_M_relocations_25 : vm_dec m_M_relocations 25 (.ifCond .ne 9) 3 = true := by decide +kernel
def k_M_relocations_28 : List vm_I := [.inl (.aload_n 0)]
theorem kc_M_relocations_28 : vm_chk m_M_relocations 28 k_M_relocations_28 = some 29 := by decide +kernel
theorem v_M_relocations_29 : vm_okV m_M_relocations m_M_unlay 29 151 0 (765, 767, 37, 48, 768) = true := by decide +kernel
def k_M_relocations_32 : List vm_I := [.inr (.inl (.int 0, 0))]
theorem kc_M_relocations_32 : vm_chk m_M_relocations 32 k_M_relocations_32 = some 33 := by decide +kernel
theorem d_M_relocations_33 : vm_dec m_M_relocations 33 .ireturn 1 = true := by decide +kernel
def k_M_relocations_34 : List vm_I := [.inr (.inr (.inr (2, 1)))]
theorem kc_M_relocations_34 : vm_chk m_M_relocations 34 k_M_relocations_34 = some 37 := by decide +kernel
theorem d_M_relocations_37 : vm_dec m_M_relocations 37 (.goto (-22)) 3 = true := by decide +kernel
def k_M_relocations_40 : List vm_I := [.inr (.inl (.int 1, 0))]
theorem kc_M_relocations_40 : vm_chk m_M_relocations 40 k_M_relocations_40 = some 41 := by decide +kernel
theorem d_M_relocations_41 : vm_dec m_M_relocations 41 .ireturn 1 = true := by decide +kernel
def k_M_load_0 : List vm_I := [.inl (.aload_n 0), .inr (.inl (.int 0, 0)), .inr (.inr (.inl (1, 588, 61, 5, 0))), .inl (.iload_n 1), .inr (.inl (.int 0, 0)), .inr (.inl (.int 16128, 0))]
theorem kc_M_load_0 : vm_chk m_M_load 0 k_M_load_0 = some 10 := by decide +kernel
theorem v_M_load_10 : vm_okS m_M_load m_M_in 10 64 3 (667, 668, 48, 669) = true := by decide +kernel
theorem d_M_load_13 : vm_dec m_M_load 13 (.ifCond .eq 11) 3 = true := by decide +kernel
def k_M_load_16 : List vm_I := [.inl (.iload_n 1), .inr (.inl (.int 256, 0)), .inl .irem]
theorem kc_M_load_16 : vm_chk m_M_load 16 k_M_load_16 = some 21 := by decide +kernel
theorem d_M_load_21 : vm_dec m_M_load 21 (.ifCond .eq 6) 3 = true := by decide +kernel
def k_M_load_24 : List vm_I := [.inr (.inl (.int (-2), 0))]
theorem kc_M_load_24 : vm_chk m_M_load 24 k_M_load_24 = some 26 := by decide +kernel
theorem d_M_load_26 : vm_dec m_M_load 26 .ireturn 1 = true := by decide +kernel
def k_M_load_27 : List vm_I := [.inl (.aload_n 0), .inr (.inl (.int (-1), 0)), .inr (.inr (.inl (1, 607, 45, 5, 19))), .inl (.aload_n 0), .inr (.inl (.int 0, 0)), .inr (.inr (.inl (1, 606, 81, 5, 18))), .inl (.aload_n 0)]
theorem kc_M_load_27 : vm_chk m_M_load 27 k_M_load_27 = some 38 := by decide +kernel
theorem v_M_load_38 : vm_okV m_M_load m_M_isHeader 38 154 0 (694, 696, 22, 48, 697) = true := by decide +kernel
theorem d_M_load_41 : vm_dec m_M_load 41 (.ifCond .ne 11) 3 = true := by decide +kernel
def k_M_load_44 : List vm_I := [.inr (.inl (.int (-10), 0)), .inl (.aload_n 0), .inr (.inr (.inl (0, 606, 81, 5, 18))), .inl .isub]
theorem kc_M_load_44 : vm_chk m_M_load 44 k_M_load_44 = some 51 := by decide +kernel
theorem d_M_load_51 : vm_dec m_M_load 51 .ireturn 1 = true := by decide +kernel
def k_M_load_52 : List vm_I := [.inl (.aload_n 0), .inl (.aload_n 0), .inr (.inl (.int 16, 0))]
theorem kc_M_load_52 : vm_chk m_M_load 52 k_M_load_52 = some 56 := by decide +kernel
theorem v_M_load_56 : vm_okV m_M_load m_M_half 56 77 1 (702, 704, 24, 48, 705) = true := by decide +kernel
def k_M_load_59 : List vm_I := [.inr (.inl (.int 2, 0))]
theorem kc_M_load_59 : vm_chk m_M_load 59 k_M_load_59 = some 60 := by decide +kernel
theorem d_M_load_60 : vm_dec m_M_load 60 (.if_icmp .ne 7) 3 = true := by decide +kernel
def k_M_load_63 : List vm_I := [.inr (.inl (.int 0, 0))]
theorem kc_M_load_63 : vm_chk m_M_load 63 k_M_load_63 = some 64 := by decide +kernel
theorem d_M_load_64 : vm_dec m_M_load 64 (.goto 4) 3 = true := by decide +kernel
def k_M_load_67 : List vm_I := [.inl (.iload_n 1)]
theorem kc_M_load_67 : vm_chk m_M_load 67 k_M_load_67 = some 68 := by decide +kernel
def k_M_load_68 : List vm_I := [.inr (.inr (.inl (1, 603, 96, 5, 15))), .inl (.aload_n 0)]
theorem kc_M_load_68 : vm_chk m_M_load 68 k_M_load_68 = some 72 := by decide +kernel
theorem v_M_load_72 : vm_okV m_M_load m_M_areHeads 72 158 0 (711, 713, 26, 48, 714) = true := by decide +kernel
theorem d_M_load_75 : vm_dec m_M_load 75 (.ifCond .eq 10) 3 = true := by decide +kernel
def k_M_load_78 : List vm_I := [.inl (.aload_n 0)]
theorem kc_M_load_78 : vm_chk m_M_load 78 k_M_load_78 = some 79 := by decide +kernel
theorem v_M_load_79 : vm_okV m_M_load m_M_arePairs 79 161 0 (732, 734, 30, 48, 735) = true := by decide +kernel
theorem d_M_load_82 : vm_dec m_M_load 82 (.ifCond .ne 11) 3 = true := by decide +kernel
def k_M_load_85 : List vm_I := [.inr (.inl (.int (-10), 0)), .inl (.aload_n 0), .inr (.inr (.inl (0, 606, 81, 5, 18))), .inl .isub]
theorem kc_M_load_85 : vm_chk m_M_load 85 k_M_load_85 = some 92 := by decide +kernel
theorem d_M_load_92 : vm_dec m_M_load 92 .ireturn 1 = true := by decide +kernel
def k_M_load_93 : List vm_I := [.inl (.aload_n 0)]
theorem kc_M_load_93 : vm_chk m_M_load 93 k_M_load_93 = some 94 := by decide +kernel
theorem v_M_load_94 : vm_okV m_M_load m_M_lay 94 164 0 (738, 740, 31, 48, 741) = true := by decide +kernel
def k_M_load_97 : List vm_I := [.inl (.aload_n 0)]
theorem kc_M_load_97 : vm_chk m_M_load 97 k_M_load_97 = some 98 := by decide +kernel
theorem v_M_load_98 : vm_okV m_M_load m_M_relocations 98 167 0 (742, 744, 32, 48, 745) = true := by decide +kernel
theorem d_M_load_101 : vm_dec m_M_load 101 (.ifCond .ne 11) 3 = true := by decide +kernel
def k_M_load_104 : List vm_I := [.inr (.inl (.int (-10), 0)), .inl (.aload_n 0), .inr (.inr (.inl (0, 606, 81, 5, 18))), .inl .isub]
theorem kc_M_load_104 : vm_chk m_M_load 104 k_M_load_104 = some 111 := by decide +kernel
theorem d_M_load_111 : vm_dec m_M_load 111 .ireturn 1 = true := by decide +kernel
def k_M_load_112 : List vm_I := [.inl (.aload_n 0), .inl (.aload_n 0), .inr (.inl (.int 24, 0))]
theorem kc_M_load_112 : vm_chk m_M_load 112 k_M_load_112 = some 116 := by decide +kernel
theorem v_M_load_116 : vm_okV m_M_load m_M_word 116 88 1 (706, 708, 25, 48, 709) = true := by decide +kernel
def k_M_load_119 : List vm_I := [.inl .l2i, .inl (.aload_n 0), .inr (.inr (.inl (0, 603, 96, 5, 15))), .inl .iadd, .inr (.inr (.inl (1, 608, 49, 5, 20))), .inl (.aload_n 0), .inl (.aload_n 0), .inr (.inr (.inl (0, 602, 105, 5, 14))), .inr (.inr (.inl (1, 609, 52, 5, 21))), .inl (.aload_n 0), .inl (.aload_n 0), .inr (.inr (.inl (0, 603, 96, 5, 15))), .inr (.inr (.inl (1, 610, 55, 5, 22))), .inl (.aload_n 0), .inl .dup, .inr (.inr (.inl (0, 611, 170, 5, 23))), .inr (.inl (.int 1, 0)), .inl .iadd, .inr (.inr (.inl (1, 611, 170, 5, 23))), .inl (.aload_n 0), .inr (.inr (.inl (0, 605, 42, 5, 17))), .inr (.inl (.int 8, 0)), .inl .laload, .inr (.inl (.long 12, 736)), .inl .ldiv, .inl .l2i]
theorem kc_M_load_119 : vm_chk m_M_load 119 k_M_load_119 = some 166 := by decide +kernel
theorem d_M_load_166 : vm_dec m_M_load 166 .ireturn 1 = true := by decide +kernel
def k_M_told_0 : List vm_I := [.inl (.aload_n 0), .inr (.inl (.int 0, 0)), .inr (.inr (.inl (1, 588, 61, 5, 0))), .inl (.iload_n 1)]
theorem kc_M_told_0 : vm_chk m_M_told 0 k_M_told_0 = some 6 := by decide +kernel
theorem d_M_told_6 : vm_dec m_M_told 6 (.ifCond .ne 10) 3 = true := by decide +kernel
def k_M_told_9 : List vm_I := [.inl (.aload_n 0), .inr (.inr (.inl (0, 607, 45, 5, 19)))]
theorem kc_M_told_9 : vm_chk m_M_told 9 k_M_told_9 = some 13 := by decide +kernel
theorem d_M_told_13 : vm_dec m_M_told 13 (.goto 41) 3 = true := by decide +kernel
def k_M_told_16 : List vm_I := [.inl (.iload_n 1), .inr (.inl (.int 1, 0))]
theorem kc_M_told_16 : vm_chk m_M_told 16 k_M_told_16 = some 18 := by decide +kernel
theorem d_M_told_18 : vm_dec m_M_told 18 (.if_icmp .ne 10) 3 = true := by decide +kernel
def k_M_told_21 : List vm_I := [.inl (.aload_n 0), .inr (.inr (.inl (0, 608, 49, 5, 20)))]
theorem kc_M_told_21 : vm_chk m_M_told 21 k_M_told_21 = some 25 := by decide +kernel
theorem d_M_told_25 : vm_dec m_M_told 25 (.goto 29) 3 = true := by decide +kernel
def k_M_told_28 : List vm_I := [.inl (.iload_n 1), .inr (.inl (.int 2, 0))]
theorem kc_M_told_28 : vm_chk m_M_told 28 k_M_told_28 = some 30 := by decide +kernel
theorem d_M_told_30 : vm_dec m_M_told 30 (.if_icmp .ne 10) 3 = true := by decide +kernel
def k_M_told_33 : List vm_I := [.inl (.aload_n 0), .inr (.inr (.inl (0, 609, 52, 5, 21)))]
theorem kc_M_told_33 : vm_chk m_M_told 33 k_M_told_33 = some 37 := by decide +kernel
theorem d_M_told_37 : vm_dec m_M_told 37 (.goto 17) 3 = true := by decide +kernel
def k_M_told_40 : List vm_I := [.inl (.iload_n 1), .inr (.inl (.int 3, 0))]
theorem kc_M_told_40 : vm_chk m_M_told 40 k_M_told_40 = some 42 := by decide +kernel
theorem d_M_told_42 : vm_dec m_M_told 42 (.if_icmp .ne 10) 3 = true := by decide +kernel
def k_M_told_45 : List vm_I := [.inl (.aload_n 0), .inr (.inr (.inl (0, 610, 55, 5, 22)))]
theorem kc_M_told_45 : vm_chk m_M_told 45 k_M_told_45 = some 49 := by decide +kernel
theorem d_M_told_49 : vm_dec m_M_told 49 (.goto 5) 3 = true := by decide +kernel
def k_M_told_52 : List vm_I := [.inr (.inl (.int (-2), 0))]
theorem kc_M_told_52 : vm_chk m_M_told 52 k_M_told_52 = some 54 := by decide +kernel
theorem d_M_told_54 : vm_dec m_M_told 54 .ireturn 1 = true := by decide +kernel
def k_M_stack_0 : List vm_I := [.inl (.aload_n 0), .inr (.inl (.int 0, 0)), .inr (.inr (.inl (1, 588, 61, 5, 0))), .inl (.iload_n 1), .inr (.inl (.int 1, 0)), .inr (.inl (.int 16, 0))]
theorem kc_M_stack_0 : vm_chk m_M_stack 0 k_M_stack_0 = some 9 := by decide +kernel
theorem v_M_stack_9 : vm_okS m_M_stack m_M_in 9 64 3 (667, 668, 48, 669) = true := by decide +kernel
theorem d_M_stack_12 : vm_dec m_M_stack 12 (.ifCond .ne 6) 3 = true := by decide +kernel
def k_M_stack_15 : List vm_I := [.inr (.inl (.int (-2), 0))]
theorem kc_M_stack_15 : vm_chk m_M_stack 15 k_M_stack_15 = some 17 := by decide +kernel
theorem d_M_stack_17 : vm_dec m_M_stack 17 .ireturn 1 = true := by decide +kernel
def k_M_stack_18 : List vm_I := [.inr (.inl (.int 16384, 0)), .inr (.inl (.int 256, 0)), .inl (.iload_n 1), .inl .imul, .inl .isub, .inl (.istore_n 2), .inl (.aload_n 0)]
theorem kc_M_stack_18 : vm_chk m_M_stack 18 k_M_stack_18 = some 29 := by decide +kernel
theorem v_M_stack_29 : vm_okV m_M_stack m_M_mappedPages 29 101 0 (721, 723, 28, 48, 724) = true := by decide +kernel
def k_M_stack_32 : List vm_I := [.inl (.iload_n 1), .inl .iadd, .inl (.aload_n 0), .inr (.inr (.inl (0, 589, 58, 5, 1)))]
theorem kc_M_stack_32 : vm_chk m_M_stack 32 k_M_stack_32 = some 38 := by decide +kernel
theorem d_M_stack_38 : vm_dec m_M_stack 38 (.if_icmp .gt 7) 3 = true := by decide +kernel
def k_M_stack_41 : List vm_I := [.inr (.inl (.int 1, 0))]
theorem kc_M_stack_41 : vm_chk m_M_stack 41 k_M_stack_41 = some 42 := by decide +kernel
theorem d_M_stack_42 : vm_dec m_M_stack 42 (.goto 4) 3 = true := by decide +kernel
def k_M_stack_45 : List vm_I := [.inr (.inl (.int 0, 0))]
theorem kc_M_stack_45 : vm_chk m_M_stack 45 k_M_stack_45 = some 46 := by decide +kernel
def k_M_stack_46 : List vm_I := [.inl (.istore_n 3), .inr (.inl (.int 64, 0)), .inl (.iload_n 1), .inl .isub, .inl (.istore 4)]
theorem kc_M_stack_46 : vm_chk m_M_stack 46 k_M_stack_46 = some 53 := by decide +kernel
def k_M_stack_53 : List vm_I := [.inl (.iload 4), .inr (.inl (.int 64, 0))]
theorem kc_M_stack_53 : vm_chk m_M_stack 53 k_M_stack_53 = some 57 := by decide +kernel
theorem d_M_stack_57 : vm_dec m_M_stack 57 (.if_icmp .ge 29) 3 = true := by decide +kernel
def k_M_stack_60 : List vm_I := [.inl (.iload_n 3)]
theorem kc_M_stack_60 : vm_chk m_M_stack 60 k_M_stack_60 = some 61 := by decide +kernel
theorem d_M_stack_61 : vm_dec m_M_stack 61 (.ifCond .eq 17) 3 = true := by decide +kernel
def k_M_stack_64 : List vm_I := [.inl (.aload_n 0), .inr (.inr (.inl (0, 592, 13, 5, 4))), .inl (.iload 4), .inl .baload]
theorem kc_M_stack_64 : vm_chk m_M_stack 64 k_M_stack_64 = some 71 := by decide +kernel
theorem d_M_stack_71 : vm_dec m_M_stack 71 (.ifCond .ne 7) 3 = true := by decide +kernel
def k_M_stack_74 : List vm_I := [.inr (.inl (.int 1, 0))]
theorem kc_M_stack_74 : vm_chk m_M_stack 74 k_M_stack_74 = some 75 := by decide +kernel
theorem d_M_stack_75 : vm_dec m_M_stack 75 (.goto 4) 3 = true := by decide +kernel
def k_M_stack_78 : List vm_I := [.inr (.inl (.int 0, 0))]
theorem kc_M_stack_78 : vm_chk m_M_stack 78 k_M_stack_78 = some 79 := by decide +kernel
def k_M_stack_79 : List vm_I := [.inl (.istore_n 3), .inr (.inr (.inr (4, 1)))]
theorem kc_M_stack_79 : vm_chk m_M_stack 79 k_M_stack_79 = some 83 := by decide +kernel
theorem d_M_stack_83 : vm_dec m_M_stack 83 (.goto (-30)) 3 = true := by decide +kernel
def k_M_stack_86 : List vm_I := [.inr (.inl (.int 0, 0)), .inl (.istore 4), .inr (.inl (.int 0, 0)), .inl (.istore 5)]
theorem kc_M_stack_86 : vm_chk m_M_stack 86 k_M_stack_86 = some 92 := by decide +kernel
def k_M_stack_92 : List vm_I := [.inl (.iload 5), .inl (.aload_n 0), .inr (.inr (.inl (0, 590, 68, 5, 2)))]
theorem kc_M_stack_92 : vm_chk m_M_stack 92 k_M_stack_92 = some 98 := by decide +kernel
theorem d_M_stack_98 : vm_dec m_M_stack 98 (.if_icmp .ge 40) 3 = true := by decide +kernel
def k_M_stack_101 : List vm_I := [.inl (.iload 4), .inl (.aload_n 0), .inr (.inr (.inl (0, 591, 7, 5, 3))), .inl (.iload 5), .inl .iaload]
theorem kc_M_stack_101 : vm_chk m_M_stack 101 k_M_stack_101 = some 110 := by decide +kernel
theorem d_M_stack_110 : vm_dec m_M_stack 110 (.ifCond .eq 14) 3 = true := by decide +kernel
def k_M_stack_113 : List vm_I := [.inl (.iload 5), .inl (.aload_n 0), .inr (.inr (.inl (0, 590, 68, 5, 2))), .inr (.inl (.int 1, 0)), .inl .isub]
theorem kc_M_stack_113 : vm_chk m_M_stack 113 k_M_stack_113 = some 121 := by decide +kernel
theorem d_M_stack_121 : vm_dec m_M_stack 121 (.if_icmp .ne 7) 3 = true := by decide +kernel
def k_M_stack_124 : List vm_I := [.inr (.inl (.int 1, 0))]
theorem kc_M_stack_124 : vm_chk m_M_stack 124 k_M_stack_124 = some 125 := by decide +kernel
theorem d_M_stack_125 : vm_dec m_M_stack 125 (.goto 4) 3 = true := by decide +kernel
def k_M_stack_128 : List vm_I := [.inr (.inl (.int 0, 0))]
theorem kc_M_stack_128 : vm_chk m_M_stack 128 k_M_stack_128 = some 129 := by decide +kernel
def k_M_stack_129 : List vm_I := [.inl .iadd, .inl (.istore 4), .inr (.inr (.inr (5, 1)))]
theorem kc_M_stack_129 : vm_chk m_M_stack 129 k_M_stack_129 = some 135 := by decide +kernel
theorem d_M_stack_135 : vm_dec m_M_stack 135 (.goto (-43)) 3 = true := by decide +kernel
def k_M_stack_138 : List vm_I := [.inl (.aload_n 0), .inr (.inr (.inl (0, 590, 68, 5, 2)))]
theorem kc_M_stack_138 : vm_chk m_M_stack 138 k_M_stack_138 = some 142 := by decide +kernel
theorem d_M_stack_142 : vm_dec m_M_stack 142 (.ifCond .le 26) 3 = true := by decide +kernel
def k_M_stack_145 : List vm_I := [.inl (.aload_n 0), .inr (.inr (.inl (0, 591, 7, 5, 3))), .inl (.aload_n 0), .inr (.inr (.inl (0, 590, 68, 5, 2))), .inr (.inl (.int 1, 0)), .inl .isub, .inl .iaload]
theorem kc_M_stack_145 : vm_chk m_M_stack 145 k_M_stack_145 = some 156 := by decide +kernel
theorem d_M_stack_156 : vm_dec m_M_stack 156 (.ifCond .eq 12) 3 = true := by decide +kernel
def k_M_stack_159 : List vm_I := [.inl (.aload_n 0), .inr (.inr (.inl (0, 590, 68, 5, 2))), .inr (.inl (.int 1, 0)), .inl .iadd]
theorem kc_M_stack_159 : vm_chk m_M_stack 159 k_M_stack_159 = some 165 := by decide +kernel
theorem d_M_stack_165 : vm_dec m_M_stack 165 (.goto 7) 3 = true := by decide +kernel
def k_M_stack_168 : List vm_I := [.inl (.aload_n 0), .inr (.inr (.inl (0, 590, 68, 5, 2)))]
theorem kc_M_stack_168 : vm_chk m_M_stack 168 k_M_stack_168 = some 172 := by decide +kernel
def k_M_stack_172 : List vm_I := [.inl (.istore 5), .inr (.inl (.int 16384, 0)), .inl (.iload 5), .inl .isub, .inl (.istore 6), .inl (.iload 6), .inr (.inl (.int 4, 0)), .inl (.iload 4), .inr (.inl (.int 3, 0)), .inl .iadd, .inl .imul, .inl .isub, .inl (.istore 7), .inl (.iload 7), .inl (.iload 7), .inr (.inl (.int 16, 0)), .inl .irem, .inr (.inl (.int 16, 0)), .inl .iadd, .inr (.inl (.int 16, 0)), .inl .irem, .inl .isub, .inl (.istore 7), .inl (.iload_n 3)]
theorem kc_M_stack_172 : vm_chk m_M_stack 172 k_M_stack_172 = some 210 := by decide +kernel
theorem d_M_stack_210 : vm_dec m_M_stack 210 (.ifCond .eq 9) 3 = true := by decide +kernel
def k_M_stack_213 : List vm_I := [.inl (.iload 7), .inl (.iload_n 2)]
theorem kc_M_stack_213 : vm_chk m_M_stack 213 k_M_stack_213 = some 216 := by decide +kernel
theorem d_M_stack_216 : vm_dec m_M_stack 216 (.if_icmp .ge 6) 3 = true := by decide +kernel
def k_M_stack_219 : List vm_I := [.inr (.inl (.int (-3), 0))]
theorem kc_M_stack_219 : vm_chk m_M_stack 219 k_M_stack_219 = some 221 := by decide +kernel
theorem d_M_stack_221 : vm_dec m_M_stack 221 .ireturn 1 = true := by decide +kernel
def k_M_stack_222 : List vm_I := [.inr (.inl (.int 64, 0)), .inl (.iload_n 1), .inl .isub, .inl (.istore 8)]
theorem kc_M_stack_222 : vm_chk m_M_stack 222 k_M_stack_222 = some 228 := by decide +kernel
def k_M_stack_228 : List vm_I := [.inl (.iload 8), .inr (.inl (.int 64, 0))]
theorem kc_M_stack_228 : vm_chk m_M_stack 228 k_M_stack_228 = some 232 := by decide +kernel
theorem d_M_stack_232 : vm_dec m_M_stack 232 (.if_icmp .ge 26) 3 = true := by decide +kernel
def k_M_stack_235 : List vm_I := [.inl (.aload_n 0), .inr (.inr (.inl (0, 592, 13, 5, 4))), .inl (.iload 8), .inr (.inl (.int 1, 0)), .inl .bastore, .inl (.aload_n 0), .inr (.inr (.inl (0, 593, 17, 5, 5))), .inl (.iload 8), .inr (.inl (.int 6, 0)), .inl .iastore, .inr (.inr (.inr (8, 1)))]
theorem kc_M_stack_235 : vm_chk m_M_stack 235 k_M_stack_235 = some 255 := by decide +kernel
theorem d_M_stack_255 : vm_dec m_M_stack 255 (.goto (-27)) 3 = true := by decide +kernel
def k_M_stack_258 : List vm_I := [.inl (.iload_n 2), .inl (.istore 8)]
theorem kc_M_stack_258 : vm_chk m_M_stack 258 k_M_stack_258 = some 261 := by decide +kernel
def k_M_stack_261 : List vm_I := [.inl (.iload 8), .inr (.inl (.int 16384, 0))]
theorem kc_M_stack_261 : vm_chk m_M_stack 261 k_M_stack_261 = some 266 := by decide +kernel
theorem d_M_stack_266 : vm_dec m_M_stack 266 (.if_icmp .ge 17) 3 = true := by decide +kernel
def k_M_stack_269 : List vm_I := [.inl (.aload_n 0), .inr (.inr (.inl (0, 594, 20, 5, 6))), .inl (.iload 8), .inr (.inl (.int 0, 0)), .inl .iastore, .inr (.inr (.inr (8, 1)))]
theorem kc_M_stack_269 : vm_chk m_M_stack 269 k_M_stack_269 = some 280 := by decide +kernel
theorem d_M_stack_280 : vm_dec m_M_stack 280 (.goto (-19)) 3 = true := by decide +kernel
def k_M_stack_283 : List vm_I := [.inl (.aload_n 0), .inl (.iload 7), .inl .i2l, .inl (.iload 4), .inl .i2l]
theorem kc_M_stack_283 : vm_chk m_M_stack 283 k_M_stack_283 = some 290 := by decide +kernel
theorem v_M_stack_290 : vm_okV m_M_stack m_M_put 290 142 2 (760, 762, 36, 48, 763) = true := by decide +kernel
def k_M_stack_293 : List vm_I := [.inr (.inl (.int 1, 0)), .inl (.istore 8), .inr (.inl (.int 1, 0)), .inl (.istore 9), .inr (.inl (.int 0, 0)), .inl (.istore 10)]
theorem kc_M_stack_293 : vm_chk m_M_stack 293 k_M_stack_293 = some 302 := by decide +kernel
def k_M_stack_302 : List vm_I := [.inl (.iload 10), .inl (.aload_n 0), .inr (.inr (.inl (0, 590, 68, 5, 2)))]
theorem kc_M_stack_302 : vm_chk m_M_stack 302 k_M_stack_302 = some 308 := by decide +kernel
theorem d_M_stack_308 : vm_dec m_M_stack 308 (.if_icmp .ge 69) 3 = true := by decide +kernel
def k_M_stack_311 : List vm_I := [.inl (.aload_n 0), .inr (.inr (.inl (0, 594, 20, 5, 6))), .inl (.iload 6), .inl (.iload 10), .inl .iadd, .inl (.aload_n 0), .inr (.inr (.inl (0, 591, 7, 5, 3))), .inl (.iload 10), .inl .iaload, .inl .iastore, .inl (.iload 9)]
theorem kc_M_stack_311 : vm_chk m_M_stack 311 k_M_stack_311 = some 330 := by decide +kernel
theorem d_M_stack_330 : vm_dec m_M_stack 330 (.ifCond .eq 24) 3 = true := by decide +kernel
def k_M_stack_333 : List vm_I := [.inl (.aload_n 0), .inl (.iload 7), .inr (.inl (.int 4, 0)), .inl (.iload 8), .inl .imul, .inl .iadd, .inl .i2l, .inl (.iload 6), .inl (.iload 10), .inl .iadd, .inl .i2l]
theorem kc_M_stack_333 : vm_chk m_M_stack 333 k_M_stack_333 = some 348 := by decide +kernel
theorem v_M_stack_348 : vm_okV m_M_stack m_M_put 348 142 2 (760, 762, 36, 48, 763) = true := by decide +kernel
def k_M_stack_351 : List vm_I := [.inr (.inr (.inr (8, 1)))]
theorem kc_M_stack_351 : vm_chk m_M_stack 351 k_M_stack_351 = some 354 := by decide +kernel
def k_M_stack_354 : List vm_I := [.inl (.aload_n 0), .inr (.inr (.inl (0, 591, 7, 5, 3))), .inl (.iload 10), .inl .iaload]
theorem kc_M_stack_354 : vm_chk m_M_stack 354 k_M_stack_354 = some 361 := by decide +kernel
theorem d_M_stack_361 : vm_dec m_M_stack 361 (.ifCond .ne 7) 3 = true := by decide +kernel
def k_M_stack_364 : List vm_I := [.inr (.inl (.int 1, 0))]
theorem kc_M_stack_364 : vm_chk m_M_stack 364 k_M_stack_364 = some 365 := by decide +kernel
theorem d_M_stack_365 : vm_dec m_M_stack 365 (.goto 4) 3 = true := by decide +kernel
def k_M_stack_368 : List vm_I := [.inr (.inl (.int 0, 0))]
theorem kc_M_stack_368 : vm_chk m_M_stack 368 k_M_stack_368 = some 369 := by decide +kernel
def k_M_stack_369 : List vm_I := [.inl (.istore 9), .inr (.inr (.inr (10, 1)))]
theorem kc_M_stack_369 : vm_chk m_M_stack 369 k_M_stack_369 = some 374 := by decide +kernel
theorem d_M_stack_374 : vm_dec m_M_stack 374 (.goto (-72)) 3 = true := by decide +kernel
def k_M_stack_377 : List vm_I := [.inl (.aload_n 0), .inr (.inl (.int 0, 0)), .inr (.inr (.inl (1, 590, 68, 5, 2))), .inl (.iload 7)]
theorem kc_M_stack_377 : vm_chk m_M_stack 377 k_M_stack_377 = some 384 := by decide +kernel
theorem d_M_stack_384 : vm_dec m_M_stack 384 .ireturn 1 = true := by decide +kernel
def k_M_refusal_0 : List vm_I := [.inl (.iload_n 2)]
theorem kc_M_refusal_0 : vm_chk m_M_refusal 0 k_M_refusal_0 = some 1 := by decide +kernel
theorem v_M_refusal_1 : vm_okS m_M_refusal m_M_isWide 1 73 1 (679, 680, 48, 681) = true := by decide +kernel
theorem d_M_refusal_4 : vm_dec m_M_refusal 4 (.ifCond .ne 6) 3 = true := by decide +kernel
def k_M_refusal_7 : List vm_I := [.inr (.inl (.int (-4), 0))]
theorem kc_M_refusal_7 : vm_chk m_M_refusal 7 k_M_refusal_7 = some 9 := by decide +kernel
theorem d_M_refusal_9 : vm_dec m_M_refusal 9 .ireturn 1 = true := by decide +kernel
def k_M_refusal_10 : List vm_I := [.inl (.iload_n 1), .inl (.iload_n 2), .inl .irem]
theorem kc_M_refusal_10 : vm_chk m_M_refusal 10 k_M_refusal_10 = some 13 := by decide +kernel
theorem d_M_refusal_13 : vm_dec m_M_refusal 13 (.ifCond .eq 6) 3 = true := by decide +kernel
def k_M_refusal_16 : List vm_I := [.inr (.inl (.int (-3), 0))]
theorem kc_M_refusal_16 : vm_chk m_M_refusal 16 k_M_refusal_16 = some 18 := by decide +kernel
theorem d_M_refusal_18 : vm_dec m_M_refusal 18 .ireturn 1 = true := by decide +kernel
def k_M_refusal_19 : List vm_I := [.inl (.iload_n 1), .inr (.inl (.int 0, 0)), .inr (.inl (.int 16384, 0)), .inl (.iload_n 2), .inl .isub]
theorem kc_M_refusal_19 : vm_chk m_M_refusal 19 k_M_refusal_19 = some 26 := by decide +kernel
theorem v_M_refusal_26 : vm_okS m_M_refusal m_M_in 26 64 3 (667, 668, 48, 669) = true := by decide +kernel
theorem d_M_refusal_29 : vm_dec m_M_refusal 29 (.ifCond .eq 16) 3 = true := by decide +kernel
def k_M_refusal_32 : List vm_I := [.inl (.aload_n 0), .inr (.inr (.inl (0, 592, 13, 5, 4))), .inl (.iload_n 1), .inr (.inl (.int 256, 0)), .inl .idiv, .inl .baload]
theorem kc_M_refusal_32 : vm_chk m_M_refusal 32 k_M_refusal_32 = some 42 := by decide +kernel
theorem d_M_refusal_42 : vm_dec m_M_refusal 42 (.ifCond .ne 5) 3 = true := by decide +kernel
def k_M_refusal_45 : List vm_I := [.inr (.inl (.int (-1), 0))]
theorem kc_M_refusal_45 : vm_chk m_M_refusal 45 k_M_refusal_45 = some 46 := by decide +kernel
theorem d_M_refusal_46 : vm_dec m_M_refusal 46 .ireturn 1 = true := by decide +kernel
def k_M_refusal_47 : List vm_I := [.inl (.aload_n 0), .inr (.inr (.inl (0, 593, 17, 5, 5))), .inl (.iload_n 1), .inr (.inl (.int 256, 0)), .inl .idiv, .inl .iaload, .inl (.iload_n 3), .inl .iand]
theorem kc_M_refusal_47 : vm_chk m_M_refusal 47 k_M_refusal_47 = some 59 := by decide +kernel
theorem d_M_refusal_59 : vm_dec m_M_refusal 59 (.ifCond .ne 8) 3 = true := by decide +kernel
def k_M_refusal_62 : List vm_I := [.inr (.inl (.int (-2), 0))]
theorem kc_M_refusal_62 : vm_chk m_M_refusal 62 k_M_refusal_62 = some 64 := by decide +kernel
theorem d_M_refusal_64 : vm_dec m_M_refusal 64 (.goto 4) 3 = true := by decide +kernel
def k_M_refusal_67 : List vm_I := [.inr (.inl (.int 0, 0))]
theorem kc_M_refusal_67 : vm_chk m_M_refusal 67 k_M_refusal_67 = some 68 := by decide +kernel
theorem d_M_refusal_68 : vm_dec m_M_refusal 68 .ireturn 1 = true := by decide +kernel
def k_M_have_0 : List vm_I := [.inl (.aload_n 0), .inl (.iload_n 1), .inl (.iload_n 2), .inl (.iload_n 3)]
theorem kc_M_have_0 : vm_chk m_M_have 0 k_M_have_0 = some 4 := by decide +kernel
theorem v_M_have_4 : vm_okV m_M_have m_M_refusal 4 173 3 (785, 787, 39, 48, 788) = true := by decide +kernel
def k_M_have_7 : List vm_I := [.inl (.istore 4), .inl (.iload 4)]
theorem kc_M_have_7 : vm_chk m_M_have 7 k_M_have_7 = some 11 := by decide +kernel
theorem d_M_have_11 : vm_dec m_M_have 11 (.ifCond .eq 7) 3 = true := by decide +kernel
def k_M_have_14 : List vm_I := [.inl (.iload 4), .inl .i2l]
theorem kc_M_have_14 : vm_chk m_M_have 14 k_M_have_14 = some 17 := by decide +kernel
theorem d_M_have_17 : vm_dec m_M_have 17 .lreturn 1 = true := by decide +kernel
def k_M_have_18 : List vm_I := [.inr (.inl (.long 0, 0)), .inl (.lstore 5), .inl (.iload_n 2), .inr (.inl (.int 1, 0)), .inl .isub, .inl (.istore 7)]
theorem kc_M_have_18 : vm_chk m_M_have 18 k_M_have_18 = some 26 := by decide +kernel
def k_M_have_26 : List vm_I := [.inl (.iload 7)]
theorem kc_M_have_26 : vm_chk m_M_have 26 k_M_have_26 = some 28 := by decide +kernel
theorem d_M_have_28 : vm_dec m_M_have 28 (.ifCond .lt 27) 3 = true := by decide +kernel
def k_M_have_31 : List vm_I := [.inl (.lload 5), .inr (.inl (.int 8, 0)), .inl .lshl, .inl (.aload_n 0), .inr (.inr (.inl (0, 594, 20, 5, 6))), .inl (.iload_n 1), .inl (.iload 7), .inl .iadd, .inl .iaload, .inl .i2l, .inl .lor, .inl (.lstore 5), .inr (.inr (.inr (7, (-1))))]
theorem kc_M_have_31 : vm_chk m_M_have 31 k_M_have_31 = some 52 := by decide +kernel
theorem d_M_have_52 : vm_dec m_M_have 52 (.goto (-26)) 3 = true := by decide +kernel
def k_M_have_55 : List vm_I := [.inl (.lload 5)]
theorem kc_M_have_55 : vm_chk m_M_have 55 k_M_have_55 = some 57 := by decide +kernel
theorem d_M_have_57 : vm_dec m_M_have 57 .lreturn 1 = true := by decide +kernel
def k_M_read_0 : List vm_I := [.inl (.aload_n 0), .inr (.inl (.int 0, 0)), .inr (.inr (.inl (1, 588, 61, 5, 0))), .inl (.aload_n 0), .inl (.iload_n 1), .inl (.iload_n 2), .inr (.inl (.int 4, 0))]
theorem kc_M_read_0 : vm_chk m_M_read 0 k_M_read_0 = some 9 := by decide +kernel
theorem v_M_read_9 : vm_okV m_M_read m_M_have 9 177 3 (781, 783, 38, 48, 784) = true := by decide +kernel
theorem d_M_read_12 : vm_dec m_M_read 12 .lreturn 1 = true := by decide +kernel
def k_M_write_0 : List vm_I := [.inl (.aload_n 0), .inr (.inl (.int 0, 0)), .inr (.inr (.inl (1, 588, 61, 5, 0))), .inl (.aload_n 0), .inl (.iload_n 1), .inl (.iload_n 2), .inr (.inl (.int 2, 0))]
theorem kc_M_write_0 : vm_chk m_M_write 0 k_M_write_0 = some 9 := by decide +kernel
theorem v_M_write_9 : vm_okV m_M_write m_M_refusal 9 173 3 (785, 787, 39, 48, 788) = true := by decide +kernel
def k_M_write_12 : List vm_I := [.inl (.istore 4), .inr (.inl (.int 0, 0)), .inl (.istore 5)]
theorem kc_M_write_12 : vm_chk m_M_write 12 k_M_write_12 = some 17 := by decide +kernel
def k_M_write_17 : List vm_I := [.inl (.iload 5), .inl (.iload_n 2)]
theorem kc_M_write_17 : vm_chk m_M_write 17 k_M_write_17 = some 20 := by decide +kernel
theorem d_M_write_20 : vm_dec m_M_write 20 (.if_icmp .ge 34) 3 = true := by decide +kernel
def k_M_write_23 : List vm_I := [.inl (.iload 4)]
theorem kc_M_write_23 : vm_chk m_M_write 23 k_M_write_23 = some 25 := by decide +kernel
theorem d_M_write_25 : vm_dec m_M_write 25 (.ifCond .ne 29) 3 = true := by decide +kernel
def k_M_write_28 : List vm_I := [.inl (.aload_n 0), .inr (.inr (.inl (0, 594, 20, 5, 6))), .inl (.iload_n 1), .inl (.iload 5), .inl .iadd, .inl (.iload_n 3), .inr (.inl (.int 8, 0)), .inl (.iload 5), .inl .imul, .inl .ishr, .inr (.inl (.int 255, 0)), .inl .iand, .inl .iastore, .inr (.inr (.inr (5, 1)))]
theorem kc_M_write_28 : vm_chk m_M_write 28 k_M_write_28 = some 51 := by decide +kernel
theorem d_M_write_51 : vm_dec m_M_write 51 (.goto (-34)) 3 = true := by decide +kernel
def k_M_write_54 : List vm_I := [.inl (.iload 4)]
theorem kc_M_write_54 : vm_chk m_M_write 54 k_M_write_54 = some 56 := by decide +kernel
theorem d_M_write_56 : vm_dec m_M_write 56 .ireturn 1 = true := by decide +kernel
def k_M_fetch_0 : List vm_I := [.inl (.aload_n 0), .inr (.inl (.int 0, 0)), .inr (.inr (.inl (1, 588, 61, 5, 0))), .inl (.aload_n 0), .inl (.iload_n 1), .inr (.inl (.int 4, 0)), .inr (.inl (.int 1, 0))]
theorem kc_M_fetch_0 : vm_chk m_M_fetch 0 k_M_fetch_0 = some 9 := by decide +kernel
theorem v_M_fetch_9 : vm_okV m_M_fetch m_M_have 9 177 3 (781, 783, 38, 48, 784) = true := by decide +kernel
theorem d_M_fetch_12 : vm_dec m_M_fetch 12 .lreturn 1 = true := by decide +kernel
def k_M_isPage_0 : List vm_I := [.inl (.iload_n 0), .inr (.inl (.int 0, 0)), .inr (.inl (.int 63, 0))]
theorem kc_M_isPage_0 : vm_chk m_M_isPage 0 k_M_isPage_0 = some 4 := by decide +kernel
theorem v_M_isPage_4 : vm_okS m_M_isPage m_M_in 4 64 3 (667, 668, 48, 669) = true := by decide +kernel
theorem d_M_isPage_7 : vm_dec m_M_isPage 7 .ireturn 1 = true := by decide +kernel
def k_M_protect_0 : List vm_I := [.inl (.aload_n 0), .inr (.inl (.int 0, 0)), .inr (.inr (.inl (1, 588, 61, 5, 0))), .inl (.iload_n 1)]
theorem kc_M_protect_0 : vm_chk m_M_protect 0 k_M_protect_0 = some 6 := by decide +kernel
theorem v_M_protect_6 : vm_okS m_M_protect m_M_isPage 6 181 1 (801, 802, 48, 803) = true := by decide +kernel
theorem d_M_protect_9 : vm_dec m_M_protect 9 (.ifCond .eq 13) 3 = true := by decide +kernel
def k_M_protect_12 : List vm_I := [.inl (.iload_n 2), .inr (.inl (.int 0, 0)), .inr (.inl (.int 7, 0))]
theorem kc_M_protect_12 : vm_chk m_M_protect 12 k_M_protect_12 = some 16 := by decide +kernel
theorem v_M_protect_16 : vm_okS m_M_protect m_M_in 16 64 3 (667, 668, 48, 669) = true := by decide +kernel
theorem d_M_protect_19 : vm_dec m_M_protect 19 (.ifCond .ne 6) 3 = true := by decide +kernel
def k_M_protect_22 : List vm_I := [.inr (.inl (.int (-2), 0))]
theorem kc_M_protect_22 : vm_chk m_M_protect 22 k_M_protect_22 = some 24 := by decide +kernel
theorem d_M_protect_24 : vm_dec m_M_protect 24 .ireturn 1 = true := by decide +kernel
def k_M_protect_25 : List vm_I := [.inl (.aload_n 0), .inr (.inr (.inl (0, 592, 13, 5, 4))), .inl (.iload_n 1), .inl .baload]
theorem kc_M_protect_25 : vm_chk m_M_protect 25 k_M_protect_25 = some 31 := by decide +kernel
theorem d_M_protect_31 : vm_dec m_M_protect 31 (.ifCond .ne 6) 3 = true := by decide +kernel
def k_M_protect_34 : List vm_I := [.inr (.inl (.int (-3), 0))]
theorem kc_M_protect_34 : vm_chk m_M_protect 34 k_M_protect_34 = some 36 := by decide +kernel
theorem d_M_protect_36 : vm_dec m_M_protect 36 .ireturn 1 = true := by decide +kernel
def k_M_protect_37 : List vm_I := [.inl (.aload_n 0), .inr (.inr (.inl (0, 593, 17, 5, 5))), .inl (.iload_n 1), .inl .iaload, .inl (.istore_n 3), .inl (.aload_n 0), .inr (.inr (.inl (0, 593, 17, 5, 5))), .inl (.iload_n 1), .inl (.iload_n 2), .inl .iastore, .inl (.iload_n 3)]
theorem kc_M_protect_37 : vm_chk m_M_protect 37 k_M_protect_37 = some 52 := by decide +kernel
theorem d_M_protect_52 : vm_dec m_M_protect 52 .ireturn 1 = true := by decide +kernel
def k_M_unmap_0 : List vm_I := [.inl (.aload_n 0), .inr (.inl (.int 0, 0)), .inr (.inr (.inl (1, 588, 61, 5, 0))), .inl (.iload_n 1)]
theorem kc_M_unmap_0 : vm_chk m_M_unmap 0 k_M_unmap_0 = some 6 := by decide +kernel
theorem v_M_unmap_6 : vm_okS m_M_unmap m_M_isPage 6 181 1 (801, 802, 48, 803) = true := by decide +kernel
theorem d_M_unmap_9 : vm_dec m_M_unmap 9 (.ifCond .eq 15) 3 = true := by decide +kernel
def k_M_unmap_12 : List vm_I := [.inl (.iload_n 2), .inr (.inl (.int 1, 0)), .inr (.inl (.int 64, 0)), .inl (.iload_n 1), .inl .isub]
theorem kc_M_unmap_12 : vm_chk m_M_unmap 12 k_M_unmap_12 = some 18 := by decide +kernel
theorem v_M_unmap_18 : vm_okS m_M_unmap m_M_in 18 64 3 (667, 668, 48, 669) = true := by decide +kernel
theorem d_M_unmap_21 : vm_dec m_M_unmap 21 (.ifCond .ne 6) 3 = true := by decide +kernel
def k_M_unmap_24 : List vm_I := [.inr (.inl (.int (-2), 0))]
theorem kc_M_unmap_24 : vm_chk m_M_unmap 24 k_M_unmap_24 = some 26 := by decide +kernel
theorem d_M_unmap_26 : vm_dec m_M_unmap 26 .ireturn 1 = true := by decide +kernel
def k_M_unmap_27 : List vm_I := [.inr (.inl (.int 0, 0)), .inl (.istore_n 3), .inl (.iload_n 1), .inl (.istore 4)]
theorem kc_M_unmap_27 : vm_chk m_M_unmap 27 k_M_unmap_27 = some 32 := by decide +kernel
def k_M_unmap_32 : List vm_I := [.inl (.iload 4), .inl (.iload_n 1), .inl (.iload_n 2), .inl .iadd]
theorem kc_M_unmap_32 : vm_chk m_M_unmap 32 k_M_unmap_32 = some 37 := by decide +kernel
theorem d_M_unmap_37 : vm_dec m_M_unmap 37 (.if_icmp .ge 35) 3 = true := by decide +kernel
def k_M_unmap_40 : List vm_I := [.inl (.iload_n 3), .inl (.aload_n 0), .inr (.inr (.inl (0, 592, 13, 5, 4))), .inl (.iload 4), .inl .baload]
theorem kc_M_unmap_40 : vm_chk m_M_unmap 40 k_M_unmap_40 = some 48 := by decide +kernel
theorem d_M_unmap_48 : vm_dec m_M_unmap 48 (.ifCond .eq 7) 3 = true := by decide +kernel
def k_M_unmap_51 : List vm_I := [.inr (.inl (.int 1, 0))]
theorem kc_M_unmap_51 : vm_chk m_M_unmap 51 k_M_unmap_51 = some 52 := by decide +kernel
theorem d_M_unmap_52 : vm_dec m_M_unmap 52 (.goto 4) 3 = true := by decide +kernel
def k_M_unmap_55 : List vm_I := [.inr (.inl (.int 0, 0))]
theorem kc_M_unmap_55 : vm_chk m_M_unmap 55 k_M_unmap_55 = some 56 := by decide +kernel
def k_M_unmap_56 : List vm_I := [.inl .iadd, .inl (.istore_n 3), .inl (.aload_n 0), .inr (.inr (.inl (0, 592, 13, 5, 4))), .inl (.iload 4), .inr (.inl (.int 0, 0)), .inl .bastore, .inr (.inr (.inr (4, 1)))]
theorem kc_M_unmap_56 : vm_chk m_M_unmap 56 k_M_unmap_56 = some 69 := by decide +kernel
theorem d_M_unmap_69 : vm_dec m_M_unmap 69 (.goto (-37)) 3 = true := by decide +kernel
def k_M_unmap_72 : List vm_I := [.inl (.iload_n 3)]
theorem kc_M_unmap_72 : vm_chk m_M_unmap 72 k_M_unmap_72 = some 73 := by decide +kernel
theorem d_M_unmap_73 : vm_dec m_M_unmap 73 .ireturn 1 = true := by decide +kernel
def k_M_rights_0 : List vm_I := [.inl (.aload_n 0), .inr (.inl (.int 0, 0)), .inr (.inr (.inl (1, 588, 61, 5, 0))), .inl (.iload_n 1)]
theorem kc_M_rights_0 : vm_chk m_M_rights 0 k_M_rights_0 = some 6 := by decide +kernel
theorem v_M_rights_6 : vm_okS m_M_rights m_M_isPage 6 181 1 (801, 802, 48, 803) = true := by decide +kernel
theorem d_M_rights_9 : vm_dec m_M_rights 9 (.ifCond .ne 8) 3 = true := by decide +kernel
def k_M_rights_12 : List vm_I := [.inr (.inl (.int (-2), 0))]
theorem kc_M_rights_12 : vm_chk m_M_rights 12 k_M_rights_12 = some 14 := by decide +kernel
theorem d_M_rights_14 : vm_dec m_M_rights 14 (.goto 22) 3 = true := by decide +kernel
def k_M_rights_17 : List vm_I := [.inl (.aload_n 0), .inr (.inr (.inl (0, 592, 13, 5, 4))), .inl (.iload_n 1), .inl .baload]
theorem kc_M_rights_17 : vm_chk m_M_rights 17 k_M_rights_17 = some 23 := by decide +kernel
theorem d_M_rights_23 : vm_dec m_M_rights 23 (.ifCond .eq 12) 3 = true := by decide +kernel
def k_M_rights_26 : List vm_I := [.inl (.aload_n 0), .inr (.inr (.inl (0, 593, 17, 5, 5))), .inl (.iload_n 1), .inl .iaload]
theorem kc_M_rights_26 : vm_chk m_M_rights 26 k_M_rights_26 = some 32 := by decide +kernel
theorem d_M_rights_32 : vm_dec m_M_rights 32 (.goto 4) 3 = true := by decide +kernel
def k_M_rights_35 : List vm_I := [.inr (.inl (.int (-1), 0))]
theorem kc_M_rights_35 : vm_chk m_M_rights 35 k_M_rights_35 = some 36 := by decide +kernel
theorem d_M_rights_36 : vm_dec m_M_rights 36 .ireturn 1 = true := by decide +kernel
def k_M_with_0 : List vm_I := [.inr (.inl (.int 0, 0)), .inl (.istore_n 2), .inr (.inl (.int 0, 0)), .inl (.istore_n 3)]
theorem kc_M_with_0 : vm_chk m_M_with 0 k_M_with_0 = some 4 := by decide +kernel
def k_M_with_4 : List vm_I := [.inl (.iload_n 3), .inr (.inl (.int 64, 0))]
theorem kc_M_with_4 : vm_chk m_M_with 4 k_M_with_4 = some 7 := by decide +kernel
theorem d_M_with_7 : vm_dec m_M_with 7 (.if_icmp .ge 37) 3 = true := by decide +kernel
def k_M_with_10 : List vm_I := [.inl (.iload_n 2), .inl (.aload_n 0), .inr (.inr (.inl (0, 592, 13, 5, 4))), .inl (.iload_n 3), .inl .baload]
theorem kc_M_with_10 : vm_chk m_M_with 10 k_M_with_10 = some 17 := by decide +kernel
theorem d_M_with_17 : vm_dec m_M_with 17 (.ifCond .eq 18) 3 = true := by decide +kernel
def k_M_with_20 : List vm_I := [.inl (.aload_n 0), .inr (.inr (.inl (0, 593, 17, 5, 5))), .inl (.iload_n 3), .inl .iaload, .inl (.iload_n 1), .inl .iand]
theorem kc_M_with_20 : vm_chk m_M_with 20 k_M_with_20 = some 28 := by decide +kernel
theorem d_M_with_28 : vm_dec m_M_with 28 (.ifCond .eq 7) 3 = true := by decide +kernel
def k_M_with_31 : List vm_I := [.inr (.inl (.int 1, 0))]
theorem kc_M_with_31 : vm_chk m_M_with 31 k_M_with_31 = some 32 := by decide +kernel
theorem d_M_with_32 : vm_dec m_M_with 32 (.goto 4) 3 = true := by decide +kernel
def k_M_with_35 : List vm_I := [.inr (.inl (.int 0, 0))]
theorem kc_M_with_35 : vm_chk m_M_with 35 k_M_with_35 = some 36 := by decide +kernel
def k_M_with_36 : List vm_I := [.inl .iadd, .inl (.istore_n 2), .inr (.inr (.inr (3, 1)))]
theorem kc_M_with_36 : vm_chk m_M_with 36 k_M_with_36 = some 41 := by decide +kernel
theorem d_M_with_41 : vm_dec m_M_with 41 (.goto (-37)) 3 = true := by decide +kernel
def k_M_with_44 : List vm_I := [.inl (.iload_n 2)]
theorem kc_M_with_44 : vm_chk m_M_with 44 k_M_with_44 = some 45 := by decide +kernel
theorem d_M_with_45 : vm_dec m_M_with 45 .ireturn 1 = true := by decide +kernel
def k_M_count_0 : List vm_I := [.inl (.aload_n 0), .inr (.inl (.int 0, 0)), .inr (.inr (.inl (1, 588, 61, 5, 0))), .inl (.iload_n 1)]
theorem kc_M_count_0 : vm_chk m_M_count 0 k_M_count_0 = some 6 := by decide +kernel
theorem d_M_count_6 : vm_dec m_M_count 6 (.tableswitch 80 0 6 #[42, 47, 53, 59, 65, 70, 75]) 42 = true := by decide +kernel
def k_M_count_48 : List vm_I := [.inl (.aload_n 0)]
theorem kc_M_count_48 : vm_chk m_M_count 48 k_M_count_48 = some 49 := by decide +kernel
theorem v_M_count_49 : vm_okV m_M_count m_M_mappedPages 49 101 0 (721, 723, 28, 48, 724) = true := by decide +kernel
theorem d_M_count_52 : vm_dec m_M_count 52 .ireturn 1 = true := by decide +kernel
def k_M_count_53 : List vm_I := [.inl (.aload_n 0), .inr (.inl (.int 1, 0))]
theorem kc_M_count_53 : vm_chk m_M_count 53 k_M_count_53 = some 55 := by decide +kernel
theorem v_M_count_55 : vm_okV m_M_count m_M_with 55 184 1 (816, 818, 40, 48, 819) = true := by decide +kernel
theorem d_M_count_58 : vm_dec m_M_count 58 .ireturn 1 = true := by decide +kernel
def k_M_count_59 : List vm_I := [.inl (.aload_n 0), .inr (.inl (.int 2, 0))]
theorem kc_M_count_59 : vm_chk m_M_count 59 k_M_count_59 = some 61 := by decide +kernel
theorem v_M_count_61 : vm_okV m_M_count m_M_with 61 184 1 (816, 818, 40, 48, 819) = true := by decide +kernel
theorem d_M_count_64 : vm_dec m_M_count 64 .ireturn 1 = true := by decide +kernel
def k_M_count_65 : List vm_I := [.inl (.aload_n 0), .inr (.inl (.int 4, 0))]
theorem kc_M_count_65 : vm_chk m_M_count 65 k_M_count_65 = some 67 := by decide +kernel
theorem v_M_count_67 : vm_okV m_M_count m_M_with 67 184 1 (816, 818, 40, 48, 819) = true := by decide +kernel
theorem d_M_count_70 : vm_dec m_M_count 70 .ireturn 1 = true := by decide +kernel
def k_M_count_71 : List vm_I := [.inl (.aload_n 0), .inr (.inr (.inl (0, 590, 68, 5, 2)))]
theorem kc_M_count_71 : vm_chk m_M_count 71 k_M_count_71 = some 75 := by decide +kernel
theorem d_M_count_75 : vm_dec m_M_count 75 .ireturn 1 = true := by decide +kernel
def k_M_count_76 : List vm_I := [.inl (.aload_n 0), .inr (.inr (.inl (0, 611, 170, 5, 23)))]
theorem kc_M_count_76 : vm_chk m_M_count 76 k_M_count_76 = some 80 := by decide +kernel
theorem d_M_count_80 : vm_dec m_M_count 80 .ireturn 1 = true := by decide +kernel
def k_M_count_81 : List vm_I := [.inl (.aload_n 0), .inr (.inr (.inl (0, 589, 58, 5, 1)))]
theorem kc_M_count_81 : vm_chk m_M_count 81 k_M_count_81 = some 85 := by decide +kernel
theorem d_M_count_85 : vm_dec m_M_count 85 .ireturn 1 = true := by decide +kernel
def k_M_count_86 : List vm_I := [.inr (.inl (.int (-2), 0))]
theorem kc_M_count_86 : vm_chk m_M_count 86 k_M_count_86 = some 88 := by decide +kernel
theorem d_M_count_88 : vm_dec m_M_count 88 .ireturn 1 = true := by decide +kernel
def k_M_sum_0 : List vm_I := [.inl (.aload_n 0), .inr (.inl (.int 0, 0)), .inr (.inr (.inl (1, 588, 61, 5, 0))), .inl (.iload_n 2)]
theorem kc_M_sum_0 : vm_chk m_M_sum 0 k_M_sum_0 = some 6 := by decide +kernel
theorem d_M_sum_6 : vm_dec m_M_sum 6 (.ifCond .lt 22) 3 = true := by decide +kernel
def k_M_sum_9 : List vm_I := [.inl (.iload_n 2)]
theorem kc_M_sum_9 : vm_chk m_M_sum 9 k_M_sum_9 = some 10 := by decide +kernel
theorem d_M_sum_10 : vm_dec m_M_sum 10 (.ifCond .le 20) 3 = true := by decide +kernel
def k_M_sum_13 : List vm_I := [.inl (.iload_n 1)]
theorem kc_M_sum_13 : vm_chk m_M_sum 13 k_M_sum_13 = some 14 := by decide +kernel
theorem v_M_sum_14 : vm_okS m_M_sum m_M_isPage 14 181 1 (801, 802, 48, 803) = true := by decide +kernel
theorem d_M_sum_17 : vm_dec m_M_sum 17 (.ifCond .eq 11) 3 = true := by decide +kernel
def k_M_sum_20 : List vm_I := [.inl (.iload_n 2), .inr (.inl (.int 64, 0)), .inl (.iload_n 1), .inl .isub]
theorem kc_M_sum_20 : vm_chk m_M_sum 20 k_M_sum_20 = some 25 := by decide +kernel
theorem d_M_sum_25 : vm_dec m_M_sum 25 (.if_icmp .le 5) 3 = true := by decide +kernel
def k_M_sum_28 : List vm_I := [.inr (.inl (.int 0, 0))]
theorem kc_M_sum_28 : vm_chk m_M_sum 28 k_M_sum_28 = some 29 := by decide +kernel
theorem d_M_sum_29 : vm_dec m_M_sum 29 .ireturn 1 = true := by decide +kernel
def k_M_sum_30 : List vm_I := [.inr (.inl (.int 7, 0)), .inl (.istore_n 3), .inr (.inl (.int 256, 0)), .inl (.iload_n 1), .inl .imul, .inl (.istore 4)]
theorem kc_M_sum_30 : vm_chk m_M_sum 30 k_M_sum_30 = some 40 := by decide +kernel
def k_M_sum_40 : List vm_I := [.inl (.iload 4), .inr (.inl (.int 256, 0)), .inl (.iload_n 1), .inl (.iload_n 2), .inl .iadd, .inl .imul]
theorem kc_M_sum_40 : vm_chk m_M_sum 40 k_M_sum_40 = some 49 := by decide +kernel
theorem d_M_sum_49 : vm_dec m_M_sum 49 (.if_icmp .ge 42) 3 = true := by decide +kernel
def k_M_sum_52 : List vm_I := [.inr (.inl (.int 31, 0)), .inl (.iload_n 3), .inl .imul, .inl (.aload_n 0), .inr (.inr (.inl (0, 592, 13, 5, 4))), .inl (.iload 4), .inr (.inl (.int 256, 0)), .inl .idiv, .inl .baload]
theorem kc_M_sum_52 : vm_chk m_M_sum 52 k_M_sum_52 = some 67 := by decide +kernel
theorem d_M_sum_67 : vm_dec m_M_sum 67 (.ifCond .eq 13) 3 = true := by decide +kernel
def k_M_sum_70 : List vm_I := [.inl (.aload_n 0), .inr (.inr (.inl (0, 594, 20, 5, 6))), .inl (.iload 4), .inl .iaload]
theorem kc_M_sum_70 : vm_chk m_M_sum 70 k_M_sum_70 = some 77 := by decide +kernel
theorem d_M_sum_77 : vm_dec m_M_sum 77 (.goto 6) 3 = true := by decide +kernel
def k_M_sum_80 : List vm_I := [.inr (.inl (.int 1000, 0))]
theorem kc_M_sum_80 : vm_chk m_M_sum 80 k_M_sum_80 = some 83 := by decide +kernel
def k_M_sum_83 : List vm_I := [.inl .iadd, .inl (.istore_n 3), .inr (.inr (.inr (4, 1)))]
theorem kc_M_sum_83 : vm_chk m_M_sum 83 k_M_sum_83 = some 88 := by decide +kernel
theorem d_M_sum_88 : vm_dec m_M_sum 88 (.goto (-48)) 3 = true := by decide +kernel
def k_M_sum_91 : List vm_I := [.inl (.iload_n 3)]
theorem kc_M_sum_91 : vm_chk m_M_sum 91 k_M_sum_91 = some 92 := by decide +kernel
theorem d_M_sum_92 : vm_dec m_M_sum 92 .ireturn 1 = true := by decide +kernel
end
section
def k_W_cell_0 : List vm_I := [.inl (.iload_n 1), .inl (.aload_n 0), .inl .arraylength]
theorem kc_W_cell_0 : vm_chk m_W_cell 0 k_W_cell_0 = some 3 := by decide +kernel
theorem d_W_cell_3 : vm_dec m_W_cell 3 (.if_icmp .ge 9) 3 = true := by decide +kernel
def k_W_cell_6 : List vm_I := [.inl (.aload_n 0), .inl (.iload_n 1), .inl .iaload]
theorem kc_W_cell_6 : vm_chk m_W_cell 6 k_W_cell_6 = some 9 := by decide +kernel
theorem d_W_cell_9 : vm_dec m_W_cell 9 (.goto 4) 3 = true := by decide +kernel
def k_W_cell_12 : List vm_I := [.inr (.inl (.int 0, 0))]
theorem kc_W_cell_12 : vm_chk m_W_cell 12 k_W_cell_12 = some 13 := by decide +kernel
theorem d_W_cell_13 : vm_dec m_W_cell 13 .ireturn 1 = true := by decide +kernel
-- W_law_0 [0, 'new', '#7', 'class ImageLoader']
def k_W_law_3 : List vm_I := [.inl .dup, .inl (.aload_n 0), .inr (.inl (.int 0, 0))]
theorem kc_W_law_3 : vm_chk m_W_law 3 k_W_law_3 = some 6 := by decide +kernel
theorem v_W_law_6 : vm_okS m_W_law m_W_cell 6 9 2 (579, 580, 41, 581) = true := by decide +kernel
-- theorem v_W_law_9 : vm_okI_ m_W_law m_L_init 9 15 1 (52, 53, 42, 54) = true := by decide +kernel
def k_W_law_12 : List vm_I := [.inl (.astore_n 1)]
theorem kc_W_law_12 : vm_chk m_W_law 12 k_W_law_12 = some 13 := by decide +kernel
-- W_law_13 [13, 'new', '#18', 'class ImageLoaderModel']
def k_W_law_16 : List vm_I := [.inl .dup, .inl (.aload_n 0), .inr (.inl (.int 0, 0))]
theorem kc_W_law_16 : vm_chk m_W_law 16 k_W_law_16 = some 19 := by decide +kernel
theorem v_W_law_19 : vm_okS m_W_law m_W_cell 19 9 2 (579, 580, 41, 581) = true := by decide +kernel
-- theorem v_W_law_22 : vm_okI_ m_W_law m_M_init 22 20 1 (584, 585, 48, 586) = true := by decide +kernel
def k_W_law_25 : List vm_I := [.inl (.astore_n 2), .inr (.inl (.int 1, 0)), .inl (.istore_n 3)]
theorem kc_W_law_25 : vm_chk m_W_law 25 k_W_law_25 = some 28 := by decide +kernel
def k_W_law_28 : List vm_I := [.inl (.iload_n 3), .inl (.aload_n 0), .inl .arraylength, .inr (.inl (.int 4, 0)), .inl .isub]
theorem kc_W_law_28 : vm_chk m_W_law 28 k_W_law_28 = some 33 := by decide +kernel
theorem d_W_law_33 : vm_dec m_W_law 33 (.if_icmp .gt 583) 3 = true := by decide +kernel
def k_W_law_36 : List vm_I := [.inl (.aload_n 0), .inl (.iload_n 3), .inl .iaload, .inr (.inl (.int 15, 0)), .inl .iand]
theorem kc_W_law_36 : vm_chk m_W_law 36 k_W_law_36 = some 42 := by decide +kernel
theorem d_W_law_42 : vm_dec m_W_law 42 (.tableswitch 568 0 15 #[78, 141, 164, 207, 230, 253, 276, 299, 322, 356, 399, 423, 456, 489, 512, 535]) 78 = true := by decide +kernel
def k_W_law_120 : List vm_I := [.inl (.aload_n 1), .inl (.aload_n 0), .inl (.iload_n 3), .inr (.inl (.int 1, 0)), .inl .iadd, .inl .iaload, .inl .i2l, .inr (.inl (.int 32, 0)), .inl .lshl, .inl (.aload_n 0), .inl (.iload_n 3), .inr (.inl (.int 2, 0)), .inl .iadd, .inl .iaload, .inl .i2l, .inr (.inl (.long 4294967295, 824)), .inl .land, .inl .lor, .inl (.aload_n 0), .inl (.iload_n 3), .inr (.inl (.int 3, 0)), .inl .iadd, .inl .iaload]
theorem kc_W_law_120 : vm_chk m_W_law 120 k_W_law_120 = some 146 := by decide +kernel
theorem v_W_law_146 : vm_okV m_W_law m_L_add 146 23 2 (206, 207, 208, 42, 209) = true := by decide +kernel
def k_W_law_149 : List vm_I := [.inl (.aload_n 2), .inl (.aload_n 0), .inl (.iload_n 3), .inr (.inl (.int 1, 0)), .inl .iadd, .inl .iaload, .inl .i2l, .inr (.inl (.int 32, 0)), .inl .lshl, .inl (.aload_n 0), .inl (.iload_n 3), .inr (.inl (.int 2, 0)), .inl .iadd, .inl .iaload, .inl .i2l, .inr (.inl (.long 4294967295, 824)), .inl .land, .inl .lor, .inl (.aload_n 0), .inl (.iload_n 3), .inr (.inl (.int 3, 0)), .inl .iadd, .inl .iaload]
theorem kc_W_law_149 : vm_chk m_W_law 149 k_W_law_149 = some 175 := by decide +kernel
theorem v_W_law_175 : vm_okV m_W_law m_M_add 175 27 2 (663, 664, 665, 48, 666) = true := by decide +kernel
theorem d_W_law_178 : vm_dec m_W_law 178 (.if_icmp .eq 432) 3 = true := by decide +kernel
def k_W_law_181 : List vm_I := [.inr (.inl (.int 0, 0))]
theorem kc_W_law_181 : vm_chk m_W_law 181 k_W_law_181 = some 182 := by decide +kernel
theorem d_W_law_182 : vm_dec m_W_law 182 .ireturn 1 = true := by decide +kernel
def k_W_law_183 : List vm_I := [.inl (.aload_n 1), .inl (.aload_n 0), .inl (.iload_n 3), .inr (.inl (.int 1, 0)), .inl .iadd, .inl .iaload]
theorem kc_W_law_183 : vm_chk m_W_law 183 k_W_law_183 = some 189 := by decide +kernel
theorem v_W_law_189 : vm_okV m_W_law m_L_zeros 189 28 1 (222, 223, 224, 42, 225) = true := by decide +kernel
def k_W_law_192 : List vm_I := [.inl (.aload_n 2), .inl (.aload_n 0), .inl (.iload_n 3), .inr (.inl (.int 1, 0)), .inl .iadd, .inl .iaload]
theorem kc_W_law_192 : vm_chk m_W_law 192 k_W_law_192 = some 198 := by decide +kernel
theorem v_W_law_198 : vm_okV m_W_law m_M_zeros 198 32 1 (671, 672, 673, 48, 674) = true := by decide +kernel
theorem d_W_law_201 : vm_dec m_W_law 201 (.if_icmp .eq 409) 3 = true := by decide +kernel
def k_W_law_204 : List vm_I := [.inr (.inl (.int 0, 0))]
theorem kc_W_law_204 : vm_chk m_W_law 204 k_W_law_204 = some 205 := by decide +kernel
theorem d_W_law_205 : vm_dec m_W_law 205 .ireturn 1 = true := by decide +kernel
def k_W_law_206 : List vm_I := [.inl (.aload_n 1), .inl (.aload_n 0), .inl (.iload_n 3), .inr (.inl (.int 1, 0)), .inl .iadd, .inl .iaload, .inl (.aload_n 0), .inl (.iload_n 3), .inr (.inl (.int 2, 0)), .inl .iadd, .inl .iaload, .inl (.aload_n 0), .inl (.iload_n 3), .inr (.inl (.int 3, 0)), .inl .iadd, .inl .iaload]
theorem kc_W_law_206 : vm_chk m_W_law 206 k_W_law_206 = some 222 := by decide +kernel
theorem v_W_law_222 : vm_okV m_W_law m_L_poke 222 33 3 (226, 227, 228, 42, 229) = true := by decide +kernel
def k_W_law_225 : List vm_I := [.inl (.aload_n 2), .inl (.aload_n 0), .inl (.iload_n 3), .inr (.inl (.int 1, 0)), .inl .iadd, .inl .iaload, .inl (.aload_n 0), .inl (.iload_n 3), .inr (.inl (.int 2, 0)), .inl .iadd, .inl .iaload, .inl (.aload_n 0), .inl (.iload_n 3), .inr (.inl (.int 3, 0)), .inl .iadd, .inl .iaload]
theorem kc_W_law_225 : vm_chk m_W_law 225 k_W_law_225 = some 241 := by decide +kernel
theorem v_W_law_241 : vm_okV m_W_law m_M_poke 241 37 3 (675, 676, 677, 48, 678) = true := by decide +kernel
theorem d_W_law_244 : vm_dec m_W_law 244 (.if_icmp .eq 366) 3 = true := by decide +kernel
def k_W_law_247 : List vm_I := [.inr (.inl (.int 0, 0))]
theorem kc_W_law_247 : vm_chk m_W_law 247 k_W_law_247 = some 248 := by decide +kernel
theorem d_W_law_248 : vm_dec m_W_law 248 .ireturn 1 = true := by decide +kernel
def k_W_law_249 : List vm_I := [.inl (.aload_n 1), .inl (.aload_n 0), .inl (.iload_n 3), .inr (.inl (.int 1, 0)), .inl .iadd, .inl .iaload]
theorem kc_W_law_249 : vm_chk m_W_law 249 k_W_law_249 = some 255 := by decide +kernel
theorem v_W_law_255 : vm_okV m_W_law m_L_peek 255 38 1 (241, 242, 243, 42, 244) = true := by decide +kernel
def k_W_law_258 : List vm_I := [.inl (.aload_n 2), .inl (.aload_n 0), .inl (.iload_n 3), .inr (.inl (.int 1, 0)), .inl .iadd, .inl .iaload]
theorem kc_W_law_258 : vm_chk m_W_law 258 k_W_law_258 = some 264 := by decide +kernel
theorem v_W_law_264 : vm_okV m_W_law m_M_peek 264 41 1 (682, 683, 684, 48, 685) = true := by decide +kernel
theorem d_W_law_267 : vm_dec m_W_law 267 (.if_icmp .eq 343) 3 = true := by decide +kernel
def k_W_law_270 : List vm_I := [.inr (.inl (.int 0, 0))]
theorem kc_W_law_270 : vm_chk m_W_law 270 k_W_law_270 = some 271 := by decide +kernel
theorem d_W_law_271 : vm_dec m_W_law 271 .ireturn 1 = true := by decide +kernel
def k_W_law_272 : List vm_I := [.inl (.aload_n 1), .inl (.aload_n 0), .inl (.iload_n 3), .inr (.inl (.int 1, 0)), .inl .iadd, .inl .iaload]
theorem kc_W_law_272 : vm_chk m_W_law 272 k_W_law_272 = some 278 := by decide +kernel
theorem v_W_law_278 : vm_okV m_W_law m_L_cut 278 42 1 (249, 250, 251, 42, 252) = true := by decide +kernel
def k_W_law_281 : List vm_I := [.inl (.aload_n 2), .inl (.aload_n 0), .inl (.iload_n 3), .inr (.inl (.int 1, 0)), .inl .iadd, .inl .iaload]
theorem kc_W_law_281 : vm_chk m_W_law 281 k_W_law_281 = some 287 := by decide +kernel
theorem v_W_law_287 : vm_okV m_W_law m_M_cut 287 45 1 (686, 687, 688, 48, 689) = true := by decide +kernel
theorem d_W_law_290 : vm_dec m_W_law 290 (.if_icmp .eq 320) 3 = true := by decide +kernel
def k_W_law_293 : List vm_I := [.inr (.inl (.int 0, 0))]
theorem kc_W_law_293 : vm_chk m_W_law 293 k_W_law_293 = some 294 := by decide +kernel
theorem d_W_law_294 : vm_dec m_W_law 294 .ireturn 1 = true := by decide +kernel
def k_W_law_295 : List vm_I := [.inl (.aload_n 1), .inl (.aload_n 0), .inl (.iload_n 3), .inr (.inl (.int 1, 0)), .inl .iadd, .inl .iaload]
theorem kc_W_law_295 : vm_chk m_W_law 295 k_W_law_295 = some 301 := by decide +kernel
theorem v_W_law_301 : vm_okV m_W_law m_L_load 301 46 1 (257, 258, 259, 42, 260) = true := by decide +kernel
def k_W_law_304 : List vm_I := [.inl (.aload_n 2), .inl (.aload_n 0), .inl (.iload_n 3), .inr (.inl (.int 1, 0)), .inl .iadd, .inl .iaload]
theorem kc_W_law_304 : vm_chk m_W_law 304 k_W_law_304 = some 310 := by decide +kernel
theorem v_W_law_310 : vm_okV m_W_law m_M_load 310 49 1 (690, 691, 692, 48, 693) = true := by decide +kernel
theorem d_W_law_313 : vm_dec m_W_law 313 (.if_icmp .eq 297) 3 = true := by decide +kernel
def k_W_law_316 : List vm_I := [.inr (.inl (.int 0, 0))]
theorem kc_W_law_316 : vm_chk m_W_law 316 k_W_law_316 = some 317 := by decide +kernel
theorem d_W_law_317 : vm_dec m_W_law 317 .ireturn 1 = true := by decide +kernel
def k_W_law_318 : List vm_I := [.inl (.aload_n 1), .inl (.aload_n 0), .inl (.iload_n 3), .inr (.inl (.int 1, 0)), .inl .iadd, .inl .iaload]
theorem kc_W_law_318 : vm_chk m_W_law 318 k_W_law_318 = some 324 := by decide +kernel
theorem v_W_law_324 : vm_okV m_W_law m_L_told 324 50 1 (479, 480, 481, 42, 482) = true := by decide +kernel
def k_W_law_327 : List vm_I := [.inl (.aload_n 2), .inl (.aload_n 0), .inl (.iload_n 3), .inr (.inl (.int 1, 0)), .inl .iadd, .inl .iaload]
theorem kc_W_law_327 : vm_chk m_W_law 327 k_W_law_327 = some 333 := by decide +kernel
theorem v_W_law_333 : vm_okV m_W_law m_M_told 333 53 1 (769, 770, 771, 48, 772) = true := by decide +kernel
theorem d_W_law_336 : vm_dec m_W_law 336 (.if_icmp .eq 274) 3 = true := by decide +kernel
def k_W_law_339 : List vm_I := [.inr (.inl (.int 0, 0))]
theorem kc_W_law_339 : vm_chk m_W_law 339 k_W_law_339 = some 340 := by decide +kernel
theorem d_W_law_340 : vm_dec m_W_law 340 .ireturn 1 = true := by decide +kernel
def k_W_law_341 : List vm_I := [.inl (.aload_n 1), .inl (.aload_n 0), .inl (.iload_n 3), .inr (.inl (.int 1, 0)), .inl .iadd, .inl .iaload]
theorem kc_W_law_341 : vm_chk m_W_law 341 k_W_law_341 = some 347 := by decide +kernel
theorem v_W_law_347 : vm_okV m_W_law m_L_stack 347 54 1 (483, 484, 485, 42, 486) = true := by decide +kernel
def k_W_law_350 : List vm_I := [.inl (.aload_n 2), .inl (.aload_n 0), .inl (.iload_n 3), .inr (.inl (.int 1, 0)), .inl .iadd, .inl .iaload]
theorem kc_W_law_350 : vm_chk m_W_law 350 k_W_law_350 = some 356 := by decide +kernel
theorem v_W_law_356 : vm_okV m_W_law m_M_stack 356 57 1 (773, 774, 775, 48, 776) = true := by decide +kernel
theorem d_W_law_359 : vm_dec m_W_law 359 (.if_icmp .eq 251) 3 = true := by decide +kernel
def k_W_law_362 : List vm_I := [.inr (.inl (.int 0, 0))]
theorem kc_W_law_362 : vm_chk m_W_law 362 k_W_law_362 = some 363 := by decide +kernel
theorem d_W_law_363 : vm_dec m_W_law 363 .ireturn 1 = true := by decide +kernel
def k_W_law_364 : List vm_I := [.inl (.aload_n 1), .inl (.aload_n 0), .inl (.iload_n 3), .inr (.inl (.int 1, 0)), .inl .iadd, .inl .iaload, .inl (.aload_n 0), .inl (.iload_n 3), .inr (.inl (.int 2, 0)), .inl .iadd, .inl .iaload]
theorem kc_W_law_364 : vm_chk m_W_law 364 k_W_law_364 = some 375 := by decide +kernel
theorem v_W_law_375 : vm_okV m_W_law m_L_read 375 58 2 (515, 516, 517, 42, 518) = true := by decide +kernel
def k_W_law_378 : List vm_I := [.inl (.aload_n 2), .inl (.aload_n 0), .inl (.iload_n 3), .inr (.inl (.int 1, 0)), .inl .iadd, .inl .iaload, .inl (.aload_n 0), .inl (.iload_n 3), .inr (.inl (.int 2, 0)), .inl .iadd, .inl .iaload]
theorem kc_W_law_378 : vm_chk m_W_law 378 k_W_law_378 = some 389 := by decide +kernel
theorem v_W_law_389 : vm_okV m_W_law m_M_read 389 62 2 (777, 778, 779, 48, 780) = true := by decide +kernel
theorem dl_W_law_392 : vm_dec m_W_law 392 .lcmp 1 = true := by decide +kernel
theorem d_W_law_392 : vm_dec m_W_law 393 (.ifCond .eq 217) 3 = true := by decide +kernel
def k_W_law_396 : List vm_I := [.inr (.inl (.int 0, 0))]
theorem kc_W_law_396 : vm_chk m_W_law 396 k_W_law_396 = some 397 := by decide +kernel
theorem d_W_law_397 : vm_dec m_W_law 397 .ireturn 1 = true := by decide +kernel
def k_W_law_398 : List vm_I := [.inl (.aload_n 1), .inl (.aload_n 0), .inl (.iload_n 3), .inr (.inl (.int 1, 0)), .inl .iadd, .inl .iaload, .inl (.aload_n 0), .inl (.iload_n 3), .inr (.inl (.int 2, 0)), .inl .iadd, .inl .iaload, .inl (.aload_n 0), .inl (.iload_n 3), .inr (.inl (.int 3, 0)), .inl .iadd, .inl .iaload]
theorem kc_W_law_398 : vm_chk m_W_law 398 k_W_law_398 = some 414 := by decide +kernel
theorem v_W_law_414 : vm_okV m_W_law m_L_write 414 63 3 (528, 529, 530, 42, 531) = true := by decide +kernel
def k_W_law_417 : List vm_I := [.inl (.aload_n 2), .inl (.aload_n 0), .inl (.iload_n 3), .inr (.inl (.int 1, 0)), .inl .iadd, .inl .iaload, .inl (.aload_n 0), .inl (.iload_n 3), .inr (.inl (.int 2, 0)), .inl .iadd, .inl .iaload, .inl (.aload_n 0), .inl (.iload_n 3), .inr (.inl (.int 3, 0)), .inl .iadd, .inl .iaload]
theorem kc_W_law_417 : vm_chk m_W_law 417 k_W_law_417 = some 433 := by decide +kernel
theorem v_W_law_433 : vm_okV m_W_law m_M_write 433 66 3 (789, 790, 791, 48, 792) = true := by decide +kernel
theorem d_W_law_436 : vm_dec m_W_law 436 (.if_icmp .eq 174) 3 = true := by decide +kernel
def k_W_law_439 : List vm_I := [.inr (.inl (.int 0, 0))]
theorem kc_W_law_439 : vm_chk m_W_law 439 k_W_law_439 = some 440 := by decide +kernel
theorem d_W_law_440 : vm_dec m_W_law 440 .ireturn 1 = true := by decide +kernel
def k_W_law_441 : List vm_I := [.inl (.aload_n 1), .inl (.aload_n 0), .inl (.iload_n 3), .inr (.inl (.int 1, 0)), .inl .iadd, .inl .iaload]
theorem kc_W_law_441 : vm_chk m_W_law 441 k_W_law_441 = some 447 := by decide +kernel
theorem v_W_law_447 : vm_okV m_W_law m_L_fetch 447 67 1 (532, 533, 534, 42, 535) = true := by decide +kernel
def k_W_law_450 : List vm_I := [.inl (.aload_n 2), .inl (.aload_n 0), .inl (.iload_n 3), .inr (.inl (.int 1, 0)), .inl .iadd, .inl .iaload]
theorem kc_W_law_450 : vm_chk m_W_law 450 k_W_law_450 = some 456 := by decide +kernel
theorem v_W_law_456 : vm_okV m_W_law m_M_fetch 456 71 1 (793, 794, 795, 48, 796) = true := by decide +kernel
theorem dl_W_law_459 : vm_dec m_W_law 459 .lcmp 1 = true := by decide +kernel
theorem d_W_law_459 : vm_dec m_W_law 460 (.ifCond .eq 150) 3 = true := by decide +kernel
def k_W_law_463 : List vm_I := [.inr (.inl (.int 0, 0))]
theorem kc_W_law_463 : vm_chk m_W_law 463 k_W_law_463 = some 464 := by decide +kernel
theorem d_W_law_464 : vm_dec m_W_law 464 .ireturn 1 = true := by decide +kernel
def k_W_law_465 : List vm_I := [.inl (.aload_n 1), .inl (.aload_n 0), .inl (.iload_n 3), .inr (.inl (.int 1, 0)), .inl .iadd, .inl .iaload, .inl (.aload_n 0), .inl (.iload_n 3), .inr (.inl (.int 2, 0)), .inl .iadd, .inl .iaload]
theorem kc_W_law_465 : vm_chk m_W_law 465 k_W_law_465 = some 476 := by decide +kernel
theorem v_W_law_476 : vm_okV m_W_law m_L_protect 476 72 2 (536, 537, 538, 42, 539) = true := by decide +kernel
def k_W_law_479 : List vm_I := [.inl (.aload_n 2), .inl (.aload_n 0), .inl (.iload_n 3), .inr (.inl (.int 1, 0)), .inl .iadd, .inl .iaload, .inl (.aload_n 0), .inl (.iload_n 3), .inr (.inl (.int 2, 0)), .inl .iadd, .inl .iaload]
theorem kc_W_law_479 : vm_chk m_W_law 479 k_W_law_479 = some 490 := by decide +kernel
theorem v_W_law_490 : vm_okV m_W_law m_M_protect 490 76 2 (797, 798, 799, 48, 800) = true := by decide +kernel
theorem d_W_law_493 : vm_dec m_W_law 493 (.if_icmp .eq 117) 3 = true := by decide +kernel
def k_W_law_496 : List vm_I := [.inr (.inl (.int 0, 0))]
theorem kc_W_law_496 : vm_chk m_W_law 496 k_W_law_496 = some 497 := by decide +kernel
theorem d_W_law_497 : vm_dec m_W_law 497 .ireturn 1 = true := by decide +kernel
def k_W_law_498 : List vm_I := [.inl (.aload_n 1), .inl (.aload_n 0), .inl (.iload_n 3), .inr (.inl (.int 1, 0)), .inl .iadd, .inl .iaload, .inl (.aload_n 0), .inl (.iload_n 3), .inr (.inl (.int 2, 0)), .inl .iadd, .inl .iaload]
theorem kc_W_law_498 : vm_chk m_W_law 498 k_W_law_498 = some 509 := by decide +kernel
theorem v_W_law_509 : vm_okV m_W_law m_L_unmap 509 77 2 (543, 544, 545, 42, 546) = true := by decide +kernel
def k_W_law_512 : List vm_I := [.inl (.aload_n 2), .inl (.aload_n 0), .inl (.iload_n 3), .inr (.inl (.int 1, 0)), .inl .iadd, .inl .iaload, .inl (.aload_n 0), .inl (.iload_n 3), .inr (.inl (.int 2, 0)), .inl .iadd, .inl .iaload]
theorem kc_W_law_512 : vm_chk m_W_law 512 k_W_law_512 = some 523 := by decide +kernel
theorem v_W_law_523 : vm_okV m_W_law m_M_unmap 523 80 2 (804, 805, 806, 48, 807) = true := by decide +kernel
theorem d_W_law_526 : vm_dec m_W_law 526 (.if_icmp .eq 84) 3 = true := by decide +kernel
def k_W_law_529 : List vm_I := [.inr (.inl (.int 0, 0))]
theorem kc_W_law_529 : vm_chk m_W_law 529 k_W_law_529 = some 530 := by decide +kernel
theorem d_W_law_530 : vm_dec m_W_law 530 .ireturn 1 = true := by decide +kernel
def k_W_law_531 : List vm_I := [.inl (.aload_n 1), .inl (.aload_n 0), .inl (.iload_n 3), .inr (.inl (.int 1, 0)), .inl .iadd, .inl .iaload]
theorem kc_W_law_531 : vm_chk m_W_law 531 k_W_law_531 = some 537 := by decide +kernel
theorem v_W_law_537 : vm_okV m_W_law m_L_rights 537 81 1 (555, 556, 557, 42, 558) = true := by decide +kernel
def k_W_law_540 : List vm_I := [.inl (.aload_n 2), .inl (.aload_n 0), .inl (.iload_n 3), .inr (.inl (.int 1, 0)), .inl .iadd, .inl .iaload]
theorem kc_W_law_540 : vm_chk m_W_law 540 k_W_law_540 = some 546 := by decide +kernel
theorem v_W_law_546 : vm_okV m_W_law m_M_rights 546 84 1 (808, 809, 810, 48, 811) = true := by decide +kernel
theorem d_W_law_549 : vm_dec m_W_law 549 (.if_icmp .eq 61) 3 = true := by decide +kernel
def k_W_law_552 : List vm_I := [.inr (.inl (.int 0, 0))]
theorem kc_W_law_552 : vm_chk m_W_law 552 k_W_law_552 = some 553 := by decide +kernel
theorem d_W_law_553 : vm_dec m_W_law 553 .ireturn 1 = true := by decide +kernel
def k_W_law_554 : List vm_I := [.inl (.aload_n 1), .inl (.aload_n 0), .inl (.iload_n 3), .inr (.inl (.int 1, 0)), .inl .iadd, .inl .iaload]
theorem kc_W_law_554 : vm_chk m_W_law 554 k_W_law_554 = some 560 := by decide +kernel
theorem v_W_law_560 : vm_okV m_W_law m_L_count 560 85 1 (559, 560, 561, 42, 562) = true := by decide +kernel
def k_W_law_563 : List vm_I := [.inl (.aload_n 2), .inl (.aload_n 0), .inl (.iload_n 3), .inr (.inl (.int 1, 0)), .inl .iadd, .inl .iaload]
theorem kc_W_law_563 : vm_chk m_W_law 563 k_W_law_563 = some 569 := by decide +kernel
theorem v_W_law_569 : vm_okV m_W_law m_M_count 569 88 1 (812, 813, 814, 48, 815) = true := by decide +kernel
theorem d_W_law_572 : vm_dec m_W_law 572 (.if_icmp .eq 38) 3 = true := by decide +kernel
def k_W_law_575 : List vm_I := [.inr (.inl (.int 0, 0))]
theorem kc_W_law_575 : vm_chk m_W_law 575 k_W_law_575 = some 576 := by decide +kernel
theorem d_W_law_576 : vm_dec m_W_law 576 .ireturn 1 = true := by decide +kernel
def k_W_law_577 : List vm_I := [.inl (.aload_n 1), .inl (.aload_n 0), .inl (.iload_n 3), .inr (.inl (.int 1, 0)), .inl .iadd, .inl .iaload, .inl (.aload_n 0), .inl (.iload_n 3), .inr (.inl (.int 2, 0)), .inl .iadd, .inl .iaload]
theorem kc_W_law_577 : vm_chk m_W_law 577 k_W_law_577 = some 588 := by decide +kernel
theorem v_W_law_588 : vm_okV m_W_law m_L_sum 588 89 2 (571, 572, 573, 42, 574) = true := by decide +kernel
def k_W_law_591 : List vm_I := [.inl (.aload_n 2), .inl (.aload_n 0), .inl (.iload_n 3), .inr (.inl (.int 1, 0)), .inl .iadd, .inl .iaload, .inl (.aload_n 0), .inl (.iload_n 3), .inr (.inl (.int 2, 0)), .inl .iadd, .inl .iaload]
theorem kc_W_law_591 : vm_chk m_W_law 591 k_W_law_591 = some 602 := by decide +kernel
theorem v_W_law_602 : vm_okV m_W_law m_M_sum 602 92 2 (820, 821, 822, 48, 823) = true := by decide +kernel
theorem d_W_law_605 : vm_dec m_W_law 605 (.if_icmp .eq 5) 3 = true := by decide +kernel
def k_W_law_608 : List vm_I := [.inr (.inl (.int 0, 0))]
theorem kc_W_law_608 : vm_chk m_W_law 608 k_W_law_608 = some 609 := by decide +kernel
theorem d_W_law_609 : vm_dec m_W_law 609 .ireturn 1 = true := by decide +kernel
def k_W_law_610 : List vm_I := [.inr (.inr (.inr (3, 4)))]
theorem kc_W_law_610 : vm_chk m_W_law 610 k_W_law_610 = some 613 := by decide +kernel
theorem d_W_law_613 : vm_dec m_W_law 613 (.goto (-585)) 3 = true := by decide +kernel
def k_W_law_616 : List vm_I := [.inr (.inl (.int 1, 0))]
theorem kc_W_law_616 : vm_chk m_W_law 616 k_W_law_616 = some 617 := by decide +kernel
theorem d_W_law_617 : vm_dec m_W_law 617 .ireturn 1 = true := by decide +kernel
end
section
/-! the cells of the two objects, and small rows -/
abbrev A_G : Type := Int64 × Int64 × Int64 × Int64 × Int64 × Int64 × Int32
def Ag (g : A_G) : va_E := .inr (1, [.long g.1, .long g.2.1, .long g.2.2.1, .long g.2.2.2.1, .long g.2.2.2.2.1, .long g.2.2.2.2.2.1, .int g.2.2.2.2.2.2])
def sgf : Nat → Option Nat := fun j => if j < 8 then some (8 + j) else none
def Ac (fp le lp lb il : Int32) (tf : Nat → Int32) (tz : Int32) (bf rf : Nat → Int32) (fr mp : Int32) (sc ifp ib ie pw dh : Int32) (rl rb re sy sb : Int64) (rc : Int32) (sg : Nat → A_G) (ex : List va_E) : List va_E :=
  .inr (4, [.ref 1, .ref 3, .ref 6, .int fp, .int le, .int lp, .int lb, .int il]) :: .inr (3, [.ref 2, .int tz]) :: .inl (0, 900, .inl tf) :: .inr (2, [.ref 4, .ref 5, .int fr, .int mp]) :: .inl (0, 16384, .inl bf) :: .inl (1, 64, .inl rf) ::
  .inr (0, [.ref 7, .int sc, .int ifp, .int ib, .int ie, .int pw, .int dh, .long rl, .long rb, .long re, .long sy, .long sb, .int rc]) :: .inl (4, 8, .inr (.inr (.inr (.inr sgf)))) :: Ag (sg 0) :: Ag (sg 1) :: Ag (sg 2) :: Ag (sg 3) :: Ag (sg 4) :: Ag (sg 5) :: Ag (sg 6) :: Ag (sg 7) :: ex
def Bc (th fr sz : Int32) (tf mp rg me : Nat → Int32) (sn : Int32) (bg hd : Nat → Int64) (fo fi my wa : Nat → Int32) (wn ba dy : Int32) (kn : Nat → Int64) (fa pl en pg ct im : Int32) : List va_E :=
  [.inr (5, [.int th, .int fr, .int sz, .ref 17, .ref 18, .ref 19, .ref 20, .int sn, .ref 21, .ref 22, .ref 23, .ref 24, .ref 25, .ref 26, .int wn, .int ba, .int dy, .ref 27, .int fa, .int pl, .int en, .int pg, .int ct, .int im]),
   .inl (1, 900, .inl tf), .inl (3, 64, .inl mp), .inl (1, 64, .inl rg), .inl (1, 16384, .inl me), .inl (2, 8, .inr (.inl bg)), .inl (2, 8, .inr (.inl hd)), .inl (1, 8, .inl fo), .inl (1, 8, .inl fi), .inl (1, 8, .inl my), .inl (3, 64, .inl wa), .inl (2, 12, .inr (.inl kn))]
theorem zi_t {q : Prop} [Decidable q] (h : ¬ (if q then (1 : Int32) else 0) = 0) : q := by
  by_cases hq : q
  · exact hq
  · rw [if_neg hq] at h; exact absurd rfl h
theorem zi_f {q : Prop} [Decidable q] (h : (if q then (1 : Int32) else 0) = 0) : ¬ q := by
  intro hq
  rw [if_pos hq] at h
  exact absurd h (by decide)
theorem zi_n {q : Prop} [Decidable q] : narrow .boolean (.int (if q then (1 : Int32) else 0)) = .int (if q then (1 : Int32) else 0) := by
  by_cases hq : q
  · rw [if_pos hq]; rfl
  · rw [if_neg hq]; rfl
theorem vp_of {x : Int32} {z N : Nat} (h1 : ¬ x < 0) (h2 : ¬ nI z ≤ x) (hz : z ≤ N) (hN : N < 2 ^ 31) : vp_in x N := by
  rw [vp_in_iff]
  rw [Int32.lt_iff_toInt_lt] at h1
  rw [Int32.le_iff_toInt_le, nI_toInt (by omega)] at h2
  have : (0 : Int32).toInt = 0 := by decide
  omega
theorem vp_of2 {x : Int32} {z N : Nat} (h1 : 0 ≤ x) (h2 : x < nI z) (hz : z ≤ N) (hN : N < 2 ^ 31) : vp_in x N := by
  rw [vp_in_iff]
  rw [Int32.le_iff_toInt_le] at h1
  rw [Int32.lt_iff_toInt_lt, nI_toInt (by omega)] at h2
  have : (0 : Int32).toInt = 0 := by decide
  omega
end
section
section P14
variable {fp le lp lb il : Int32} {tf bf rf : Nat → Int32} {tz fr mp sc ifp ib ie pw dh rc : Int32} {rl rb re sy sb : Int64} {sg : Nat → A_G} {ex : List va_E}
def s8 (n : Nat) : Int32 := (nI n).toInt8.toInt32
def sbf (t : Nat → Nat) : Nat → Int32 := fun j => s8 (t j)
def tb (t : Nat → Nat) (z p : Nat) : Nat := if p < z then t p else 0
def upN (t : Nat → Nat) (k v : Nat) : Nat → Nat := fun j => if j = k then v else t j
/-- the lowest byte of a number -/
def lb8 (v : Int32) : Nat := v.toBitVec.toNat % 256
theorem tb_lt {t : Nat → Nat} (ht : ∀ j, t j < 256) (z p : Nat) : tb t z p < 256 := by
  unfold tb; split
  · exact ht p
  · omega
theorem s8_and {n : Nat} (h : n < 256) : s8 n &&& 255 = nI n := sc_k8 n h
theorem lb8_lt (v : Int32) : lb8 v < 256 := Nat.mod_lt _ (by decide)
theorem s8_lb8 (v : Int32) : s8 (lb8 v) = v.toInt8.toInt32 := by
  unfold s8 lb8
  congr 1
  apply Int8.toInt_inj.mp
  have hm := Nat.mod_lt v.toBitVec.toNat (show 0 < 256 by decide)
  rw [Int32.toInt_toInt8, Int32.toInt_toInt8, nI_toInt (by omega)]
  have h : v.toInt = ((v.toBitVec.toNat : Int)).bmod (2 ^ 32) := BitVec.toInt_eq_toNat_bmod _
  rw [h, Int.bmod_bmod_of_dvd (by decide)]
  have e : ((v.toBitVec.toNat % 256 : Nat) : Int) = (v.toBitVec.toNat : Int) % ((2 ^ 8 : Nat) : Int) := by omega
  rw [e, Int.emod_bmod]
theorem nar_i2b (v : Int32) : vp_nar .byte v.toInt8.toInt32 = v.toInt8.toInt32 := pk_vb v
theorem upd_sbf (t : Nat → Nat) (k : Nat) (v : Int32) : upd (sbf t) k v.toInt8.toInt32 = sbf (upN t k (lb8 v)) := by
  funext j
  unfold upd sbf upN
  by_cases h : j = k
  · rw [if_pos h, if_pos h, s8_lb8]
  · rw [if_neg h, if_neg h]
theorem upN_lt {t : Nat → Nat} (ht : ∀ j, t j < 256) (k : Nat) {v : Nat} (hv : v < 256) : ∀ j, upN t k v j < 256 := by
  intro j; unfold upN; split
  · exact hv
  · exact ht j
set_option maxRecDepth 100000 in
set_option maxHeartbeats 4000000 in
theorem c_T_size {z : Nat} : Ct m_T_size 0 0 [.ref 1] (Ac fp le lp lb il tf (nI z) bf rf fr mp sc ifp ib ie pw dh rl rb re sy sb rc sg ex) (vm_is (some (.int (nI z))) (Ac fp le lp lb il tf (nI z) bf rf fr mp sc ifp ib ie pw dh rl rb re sy sb rc sg ex)) := by
  refine Ct.of ⟨by decide +kernel, rfl⟩ (Nat.le_of_ble_eq_true rfl) (lv := [some (.ref 1)]) rfl ?_
  refine Run.blk (gs := [True, True]) (S' := ([some (.ref 1)], [.int (nI z)], Ac fp le lp lb il tf (nI z) bf rf fr mp sc ifp ib ie pw dh rl rb re sy sb rc sg ex)) k_T_size_0 kc_T_size_0 rfl ⟨trivial, trivial, trivial⟩ ?_
  exact Run.ret (r := some (.int (nI z))) ⟨d_T_size_4, _, rfl, rfl⟩ ⟨rfl, rfl⟩

set_option maxRecDepth 100000 in
theorem c_T_byteAt {t : Nat → Nat} {z : Nat} (ht : ∀ j, t j < 256) (hz : z ≤ 900) {p : Nat} {x : Int32} (hx : x = nI p) (hp : p < 2 ^ 31) : Ct m_T_byteAt 0 0 [.ref 1, .int x] (Ac fp le lp lb il (sbf t) (nI z) bf rf fr mp sc ifp ib ie pw dh rl rb re sy sb rc sg ex) (vm_is (some (.int (nI (tb t z p)))) (Ac fp le lp lb il (sbf t) (nI z) bf rf fr mp sc ifp ib ie pw dh rl rb re sy sb rc sg ex)) := by
  subst hx
  refine Ct.of ⟨by decide +kernel, rfl⟩ (Nat.le_of_ble_eq_true rfl) (lv := [some (.ref 1), some (.int (nI p))]) rfl ?_
  refine Run.blk (gs := [True]) (S' := ([some (.ref 1), some (.int (nI p))], [.int (nI p)], Ac fp le lp lb il (sbf t) (nI z) bf rf fr mp sc ifp ib ie pw dh rl rb re sy sb rc sg ex)) k_T_byteAt_0 kc_T_byteAt_0 rfl ⟨trivial, trivial⟩ ?_
  refine Run.br (tgt := 25) d_T_byteAt_1 rfl (by decide) (fun c_1 => ?_) (fun c_1 => ?_)
  · exact absurd c_1 (nI_pos (by omega))
  · refine Run.blk (gs := [True, True, True]) (S' := ([some (.ref 1), some (.int (nI p))], [.int (nI z), .int (nI p)], Ac fp le lp lb il (sbf t) (nI z) bf rf fr mp sc ifp ib ie pw dh rl rb re sy sb rc sg ex)) k_T_byteAt_4 kc_T_byteAt_4 rfl ⟨trivial, trivial, trivial, trivial⟩ ?_
    refine Run.br (tgt := 25) d_T_byteAt_9 rfl (by decide) (fun c_2 => ?_) (fun c_2 => ?_)
    · refine Run.blk (gs := [True]) (S' := ([some (.ref 1), some (.int (nI p))], [.int (0 : Int32)], Ac fp le lp lb il (sbf t) (nI z) bf rf fr mp sc ifp ib ie pw dh rl rb re sy sb rc sg ex)) k_T_byteAt_25 kc_T_byteAt_25 rfl ⟨trivial, trivial⟩ ?_
      have hq : ¬ p < z := fun q => absurd c_2 (nI_ge q (by omega))
      exact Run.ret (r := some (.int (0 : Int32))) ⟨d_T_byteAt_26, _, rfl, rfl⟩ ⟨by rw [tb, if_neg hq]; rfl, rfl⟩
    · have hq : p < z := Nat.lt_of_not_le (fun q => c_2 (nI_le q (by omega)))
      refine Run.blk (gs := [True, True, True, vp_in (nI p) 900, True, True]) (S' := ([some (.ref 1), some (.int (nI p))], [.int (((sbf t) (nI p).toNatClampNeg) &&& (255 : Int32))], Ac fp le lp lb il (sbf t) (nI z) bf rf fr mp sc ifp ib ie pw dh rl rb re sy sb rc sg ex)) k_T_byteAt_12 kc_T_byteAt_12 rfl ⟨trivial, trivial, trivial, (vp_in_nI (show p < 900 by omega) (by decide)), trivial, trivial, trivial⟩ ?_
      refine Run.goto (tgt := 26) d_T_byteAt_22 (by decide) ?_
      exact Run.ret (r := some (.int (((sbf t) (nI p).toNatClampNeg) &&& (255 : Int32)))) ⟨d_T_byteAt_26, _, rfl, rfl⟩ ⟨by rw [tb, if_pos hq, nI_clamp (by omega)]; exact congrArg (fun x => some (Value.int x)) (s8_and (ht p)), rfl⟩
theorem nI_sub900 {z : Nat} (hz : z ≤ 900) : (900 : Int32) - nI z = nI (900 - z) := pk_sub (a := 900) (b := z) hz
set_option maxRecDepth 100000 in
set_option maxHeartbeats 4000000 in
theorem c_T_hasRoomFor {z : Nat} {x : Int32} : Ct m_T_hasRoomFor 0 0 [.ref 1, .int x] (Ac fp le lp lb il tf (nI z) bf rf fr mp sc ifp ib ie pw dh rl rb re sy sb rc sg ex) (vm_is (some (.int (if x ≤ 900 - nI z then 1 else 0))) (Ac fp le lp lb il tf (nI z) bf rf fr mp sc ifp ib ie pw dh rl rb re sy sb rc sg ex)) := by
  refine Ct.of ⟨by decide +kernel, rfl⟩ (Nat.le_of_ble_eq_true rfl) (lv := [some (.ref 1), some (.int x)]) rfl ?_
  refine Run.blk (gs := [True, True, True, True, True]) (S' := ([some (.ref 1), some (.int x)], [.int ((900 : Int32) - (nI z)), .int x], Ac fp le lp lb il tf (nI z) bf rf fr mp sc ifp ib ie pw dh rl rb re sy sb rc sg ex)) k_T_hasRoomFor_0 kc_T_hasRoomFor_0 rfl ⟨trivial, trivial, trivial, trivial, trivial, trivial⟩ ?_
  refine Run.br (tgt := 16) d_T_hasRoomFor_9 rfl (by decide) (fun c_1 => ?_) (fun c_1 => ?_)
  · refine Run.blk (gs := [True]) (S' := ([some (.ref 1), some (.int x)], [.int (0 : Int32)], Ac fp le lp lb il tf (nI z) bf rf fr mp sc ifp ib ie pw dh rl rb re sy sb rc sg ex)) k_T_hasRoomFor_16 kc_T_hasRoomFor_16 rfl ⟨trivial, trivial⟩ ?_
    exact Run.ret (r := some (.int (0 : Int32))) ⟨d_T_hasRoomFor_17, _, rfl, rfl⟩ ⟨by rw [if_neg (by rw [Int32.not_le]; exact c_1)], rfl⟩
  · refine Run.blk (gs := [True]) (S' := ([some (.ref 1), some (.int x)], [.int (1 : Int32)], Ac fp le lp lb il tf (nI z) bf rf fr mp sc ifp ib ie pw dh rl rb re sy sb rc sg ex)) k_T_hasRoomFor_12 kc_T_hasRoomFor_12 rfl ⟨trivial, trivial⟩ ?_
    refine Run.goto (tgt := 17) d_T_hasRoomFor_13 (by decide) ?_
    exact Run.ret (r := some (.int (1 : Int32))) ⟨d_T_hasRoomFor_17, _, rfl, rfl⟩ ⟨by rw [if_pos (Int32.not_lt.mp c_1)], rfl⟩
end P14
end
section
section P15
variable {fp le lp lb il : Int32} {tf bf rf : Nat → Int32} {tz fr mp sc ifp ib ie pw dh rc : Int32} {rl rb re sy sb : Int64} {sg : Nat → A_G} {ex : List va_E}
theorem i64_add {a b : Int64} (h1 : -2 ^ 62 ≤ a.toInt) (h2 : a.toInt < 2 ^ 62) (h3 : -2 ^ 62 ≤ b.toInt) (h4 : b.toInt < 2 ^ 62) : (a + b).toInt = a.toInt + b.toInt := by
  rw [Int64.toInt_add]
  simp only [Int.bmod]
  split <;> omega
theorem i32_add {a b : Int32} (h1 : -2 ^ 30 ≤ a.toInt) (h2 : a.toInt < 2 ^ 30) (h3 : -2 ^ 30 ≤ b.toInt) (h4 : b.toInt < 2 ^ 30) : (a + b).toInt = a.toInt + b.toInt := by
  rw [Int32.toInt_add]
  simp only [Int.bmod]
  split <;> omega
theorem i32_64 (a : Int32) : a.toInt64.toInt = a.toInt := Jvm.Kit.i64_of_i32 a
theorem i32_r (a : Int32) : -2 ^ 31 ≤ a.toInt ∧ a.toInt < 2 ^ 31 := ⟨a.le_toInt, a.toInt_lt⟩
theorem t0 : (0 : Int32).toInt = 0 := by decide
theorem t0l : (0 : Int64).toInt = 0 := by decide
set_option maxRecDepth 100000 in
set_option maxHeartbeats 4000000 in
theorem c_T_has {z : Nat} (hz : z ≤ 900) {a b : Int64} (ha1 : -2 ^ 62 ≤ a.toInt) (ha2 : a.toInt < 2 ^ 62) (hb1 : -2 ^ 62 ≤ b.toInt) (hb2 : b.toInt < 2 ^ 62) : Ct m_T_has 0 0 [.ref 1, .long a, .long b] (Ac fp le lp lb il tf (nI z) bf rf fr mp sc ifp ib ie pw dh rl rb re sy sb rc sg ex) (vm_is (some (.int (if 0 ≤ a.toInt ∧ 0 ≤ b.toInt ∧ a.toInt + b.toInt ≤ (z : Int) then 1 else 0))) (Ac fp le lp lb il tf (nI z) bf rf fr mp sc ifp ib ie pw dh rl rb re sy sb rc sg ex)) := by
  refine Ct.of ⟨by decide +kernel, rfl⟩ (Nat.le_of_ble_eq_true rfl) (lv := [some (.ref 1), some (.long a), none, some (.long b), none]) rfl ?_
  refine Run.blk (gs := [True, True]) (S' := ([some (.ref 1), some (.long a), none, some (.long b), none], [.long (0 : Int64), .long a], Ac fp le lp lb il tf (nI z) bf rf fr mp sc ifp ib ie pw dh rl rb re sy sb rc sg ex)) k_T_has_0 kc_T_has_0 rfl ⟨trivial, trivial, trivial⟩ ?_
  refine Run.brl (tgt := 28) dl_T_has_2 d_T_has_2 rfl (by decide) (fun c_1 => ?_) (fun c_1 => ?_)
  · refine Run.blk (gs := [True]) (S' := ([some (.ref 1), some (.long a), none, some (.long b), none], [.int (0 : Int32)], Ac fp le lp lb il tf (nI z) bf rf fr mp sc ifp ib ie pw dh rl rb re sy sb rc sg ex)) k_T_has_28 kc_T_has_28 rfl ⟨trivial, trivial⟩ ?_
    exact Run.ret (r := some (.int (0 : Int32))) ⟨d_T_has_29, _, rfl, rfl⟩ ⟨by simp only [Int64.lt_iff_toInt_lt, Int64.le_iff_toInt_le, i32_64, t0l, i64_add ha1 ha2 hb1 hb2, nI_toInt (show z < 2 ^ 31 by omega)] at *; rw [if_neg (by omega)], rfl⟩
  · refine Run.blk (gs := [True, True]) (S' := ([some (.ref 1), some (.long a), none, some (.long b), none], [.long (0 : Int64), .long b], Ac fp le lp lb il tf (nI z) bf rf fr mp sc ifp ib ie pw dh rl rb re sy sb rc sg ex)) k_T_has_6 kc_T_has_6 rfl ⟨trivial, trivial, trivial⟩ ?_
    refine Run.brl (tgt := 28) dl_T_has_8 d_T_has_8 rfl (by decide) (fun c_2 => ?_) (fun c_2 => ?_)
    · refine Run.blk (gs := [True]) (S' := ([some (.ref 1), some (.long a), none, some (.long b), none], [.int (0 : Int32)], Ac fp le lp lb il tf (nI z) bf rf fr mp sc ifp ib ie pw dh rl rb re sy sb rc sg ex)) k_T_has_28 kc_T_has_28 rfl ⟨trivial, trivial⟩ ?_
      exact Run.ret (r := some (.int (0 : Int32))) ⟨d_T_has_29, _, rfl, rfl⟩ ⟨by simp only [Int64.lt_iff_toInt_lt, Int64.le_iff_toInt_le, i32_64, t0l, i64_add ha1 ha2 hb1 hb2, nI_toInt (show z < 2 ^ 31 by omega)] at *; rw [if_neg (by omega)], rfl⟩
    · refine Run.blk (gs := [True, True, True, True, True, True]) (S' := ([some (.ref 1), some (.long a), none, some (.long b), none], [.long ((nI z).toInt64), .long (a + b)], Ac fp le lp lb il tf (nI z) bf rf fr mp sc ifp ib ie pw dh rl rb re sy sb rc sg ex)) k_T_has_12 kc_T_has_12 rfl ⟨trivial, trivial, trivial, trivial, trivial, trivial, trivial⟩ ?_
      refine Run.brl (tgt := 28) dl_T_has_20 d_T_has_20 rfl (by decide) (fun c_3 => ?_) (fun c_3 => ?_)
      · refine Run.blk (gs := [True]) (S' := ([some (.ref 1), some (.long a), none, some (.long b), none], [.int (0 : Int32)], Ac fp le lp lb il tf (nI z) bf rf fr mp sc ifp ib ie pw dh rl rb re sy sb rc sg ex)) k_T_has_28 kc_T_has_28 rfl ⟨trivial, trivial⟩ ?_
        exact Run.ret (r := some (.int (0 : Int32))) ⟨d_T_has_29, _, rfl, rfl⟩ ⟨by simp only [Int64.lt_iff_toInt_lt, Int64.le_iff_toInt_le, i32_64, t0l, i64_add ha1 ha2 hb1 hb2, nI_toInt (show z < 2 ^ 31 by omega)] at *; rw [if_neg (by omega)], rfl⟩
      · refine Run.blk (gs := [True]) (S' := ([some (.ref 1), some (.long a), none, some (.long b), none], [.int (1 : Int32)], Ac fp le lp lb il tf (nI z) bf rf fr mp sc ifp ib ie pw dh rl rb re sy sb rc sg ex)) k_T_has_24 kc_T_has_24 rfl ⟨trivial, trivial⟩ ?_
        refine Run.goto (tgt := 29) d_T_has_25 (by decide) ?_
        exact Run.ret (r := some (.int (1 : Int32))) ⟨d_T_has_29, _, rfl, rfl⟩ ⟨by simp only [Int64.lt_iff_toInt_lt, Int64.le_iff_toInt_le, i32_64, t0l, i64_add ha1 ha2 hb1 hb2, nI_toInt (show z < 2 ^ 31 by omega)] at *; rw [if_pos (by omega)], rfl⟩
set_option maxRecDepth 100000 in
set_option maxHeartbeats 4000000 in
theorem c_T_append {t : Nat → Nat} {z : Nat} (hz : z < 900) {x : Int32} : Ct m_T_append 0 0 [.ref 1, .int x] (Ac fp le lp lb il (sbf t) (nI z) bf rf fr mp sc ifp ib ie pw dh rl rb re sy sb rc sg ex) (vm_is none (Ac fp le lp lb il (sbf (upN t z (lb8 x))) (nI (z + 1)) bf rf fr mp sc ifp ib ie pw dh rl rb re sy sb rc sg ex)) := by
  refine Ct.of ⟨by decide +kernel, rfl⟩ (Nat.le_of_ble_eq_true rfl) (lv := [some (.ref 1), some (.int x)]) rfl ?_
  refine Run.blk (gs := [True, True, True, True, True]) (S' := ([some (.ref 1), some (.int x)], [.int (nI 900), .int (nI z)], Ac fp le lp lb il (sbf t) (nI z) bf rf fr mp sc ifp ib ie pw dh rl rb re sy sb rc sg ex)) k_T_append_0 kc_T_append_0 rfl ⟨trivial, trivial, trivial, trivial, trivial, trivial⟩ ?_
  refine Run.br (tgt := 33) d_T_append_9 rfl (by decide) (fun c_1 => ?_) (fun c_1 => ?_)
  · exact absurd c_1 (nI_ge (show z < 900 by omega) (by decide))
  · refine Run.blk (gs := [True, True, True, True, True, True, vp_in (nI z) 900, True, True, True, True, True, True]) (S' := ([some (.ref 1), some (.int x)], [], Ac fp le lp lb il (upd (sbf t) (nI z).toNatClampNeg (vp_nar .byte x.toInt8.toInt32)) ((nI z) + (1 : Int32)) bf rf fr mp sc ifp ib ie pw dh rl rb re sy sb rc sg ex)) k_T_append_12 kc_T_append_12 rfl ⟨trivial, trivial, trivial, trivial, trivial, trivial, (vp_in_nI (show z < 900 by omega) (by decide)), trivial, trivial, trivial, trivial, trivial, trivial, trivial⟩ ?_
    refine Run.ret (r := none) ⟨d_T_append_33, rfl⟩ ⟨rfl, ?_⟩
    rw [nI_clamp (by omega), nar_i2b, upd_sbf, nI_1]
set_option maxRecDepth 100000 in
set_option maxHeartbeats 4000000 in
theorem c_T_setByte {t : Nat → Nat} {z p : Nat} (hz : z ≤ 900) (hp : p < z) {x v : Int32} (hx : x = nI p) : Ct m_T_setByte 0 0 [.ref 1, .int x, .int v] (Ac fp le lp lb il (sbf t) (nI z) bf rf fr mp sc ifp ib ie pw dh rl rb re sy sb rc sg ex) (vm_is none (Ac fp le lp lb il (sbf (upN t p (lb8 v))) (nI z) bf rf fr mp sc ifp ib ie pw dh rl rb re sy sb rc sg ex)) := by
  refine Ct.of ⟨by decide +kernel, rfl⟩ (Nat.le_of_ble_eq_true rfl) (lv := [some (.ref 1), some (.int x), some (.int v)]) rfl ?_
  refine Run.blk (gs := [True]) (S' := ([some (.ref 1), some (.int x), some (.int v)], [.int x], Ac fp le lp lb il (sbf t) (nI z) bf rf fr mp sc ifp ib ie pw dh rl rb re sy sb rc sg ex)) k_T_setByte_0 kc_T_setByte_0 rfl ⟨trivial, trivial⟩ ?_
  refine Run.br (tgt := 20) d_T_setByte_1 rfl (by decide) (fun c_1 => ?_) (fun c_1 => ?_)
  · subst hx; exact absurd c_1 (nI_pos (by omega))
  · refine Run.blk (gs := [True, True, True]) (S' := ([some (.ref 1), some (.int x), some (.int v)], [.int (nI z), .int x], Ac fp le lp lb il (sbf t) (nI z) bf rf fr mp sc ifp ib ie pw dh rl rb re sy sb rc sg ex)) k_T_setByte_4 kc_T_setByte_4 rfl ⟨trivial, trivial, trivial, trivial⟩ ?_
    refine Run.br (tgt := 20) d_T_setByte_9 rfl (by decide) (fun c_2 => ?_) (fun c_2 => ?_)
    · subst hx; exact absurd c_2 (nI_ge (show p < z by omega) (by omega))
    · refine Run.blk (gs := [True, True, True, True, True, vp_in x 900]) (S' := ([some (.ref 1), some (.int x), some (.int v)], [], Ac fp le lp lb il (upd (sbf t) x.toNatClampNeg (vp_nar .byte v.toInt8.toInt32)) (nI z) bf rf fr mp sc ifp ib ie pw dh rl rb re sy sb rc sg ex)) k_T_setByte_12 kc_T_setByte_12 rfl ⟨trivial, trivial, trivial, trivial, trivial, (by rw [hx]; exact vp_in_nI (show p < 900 by omega) (by decide)), trivial⟩ ?_
      subst hx
      refine Run.ret (r := none) ⟨d_T_setByte_20, rfl⟩ ⟨rfl, ?_⟩
      rw [nI_clamp (by omega), nar_i2b, upd_sbf]
def hN (t : Nat → Nat) (z p : Nat) : Nat := tb t z p + 256 * tb t z (p + 1)
def wN (t : Nat → Nat) (z p : Nat) : Nat := tb t z p + 256 * tb t z (p + 1) + 65536 * tb t z (p + 2) + 16777216 * tb t z (p + 3)
theorem hN_lt {t : Nat → Nat} (ht : ∀ j, t j < 256) (z p : Nat) : hN t z p < 65536 := by
  have h1 := tb_lt ht z p
  have h2 := tb_lt ht z (p + 1)
  unfold hN; omega
theorem wN_lt {t : Nat → Nat} (ht : ∀ j, t j < 256) (z p : Nat) : wN t z p < 4294967296 := by
  have h1 := tb_lt ht z p
  have h2 := tb_lt ht z (p + 1)
  have h3 := tb_lt ht z (p + 2)
  have h4 := tb_lt ht z (p + 3)
  unfold wN; omega
theorem nI_or {k a b : Nat} (ha : a < 2 ^ k) : nI a ||| nI (b * 2 ^ k) = nI (b * 2 ^ k + a) := by
  have h : nI a ||| nI (b * 2 ^ k) = nI (a ||| b * 2 ^ k) := by
    apply Int32.toBitVec_inj.mp
    apply BitVec.eq_of_toNat_eq
    show (BitVec.ofNat 32 a ||| BitVec.ofNat 32 (b * 2 ^ k)).toNat = (BitVec.ofNat 32 (a ||| b * 2 ^ k)).toNat
    rw [BitVec.toNat_or, BitVec.toNat_ofNat, BitVec.toNat_ofNat, BitVec.toNat_ofNat, Nat.or_mod_two_pow]
  rw [h, Nat.or_comm, Nat.mul_comm b, ← Nat.two_pow_add_eq_or_of_lt ha, Nat.mul_comm]
theorem nI_sh8 {a : Nat} (ha : a < 256) : nI a <<< ((8 : Int32) &&& 31) = nI (a * 2 ^ 8) := pk_shlN _ 8 (by decide) (by omega)
theorem nI_sh16 {a : Nat} (ha : a < 256) : nI a <<< ((16 : Int32) &&& 31) = nI (a * 2 ^ 16) := pk_shlN _ 16 (by decide) (by omega)
theorem nI_sh24 {a : Nat} (ha : a < 256) : nI a <<< ((24 : Int32) &&& 31) = nI (a * 2 ^ 24) := pk_shlN _ 24 (by decide) (by omega)
theorem nI_mask {n : Nat} (h : n < 4294967296) : (nI n).toInt64 &&& 4294967295 = lN n := by
  apply Int64.toBitVec_inj.mp
  show BitVec.signExtend 64 (BitVec.ofNat 32 n) &&& BitVec.ofNat 64 4294967295 = BitVec.ofNat 64 n
  apply BitVec.eq_of_getLsbD_eq
  intro i hi
  have hm : (4294967295 : Nat) = 2 ^ 32 - 1 := by decide
  rw [BitVec.getLsbD_and, BitVec.getLsbD_signExtend, BitVec.getLsbD_ofNat, BitVec.getLsbD_ofNat, BitVec.getLsbD_ofNat, hm, Nat.testBit_two_pow_sub_one]
  by_cases h32 : i < 32
  · simp [h32, hi]
  · have hz : n.testBit i = false := Nat.testBit_lt_two_pow (Nat.lt_of_lt_of_le (show n < 2 ^ 32 by omega) (Nat.pow_le_pow_right (by decide) (by omega)))
    simp [h32, hz]
set_option maxRecDepth 100000 in
set_option maxHeartbeats 4000000 in
theorem c_T_half {t : Nat → Nat} {z : Nat} (ht : ∀ j, t j < 256) (hz : z ≤ 900) {p : Nat} {x : Int32} (hx : x = nI p) (hp : p < 2 ^ 30) : Ct m_T_half 0 0 [.ref 1, .int x] (Ac fp le lp lb il (sbf t) (nI z) bf rf fr mp sc ifp ib ie pw dh rl rb re sy sb rc sg ex) (vm_is (some (.int (nI (hN t z p)))) (Ac fp le lp lb il (sbf t) (nI z) bf rf fr mp sc ifp ib ie pw dh rl rb re sy sb rc sg ex)) := by
  subst hx
  refine Ct.of ⟨by decide +kernel, rfl⟩ (Nat.le_of_ble_eq_true rfl) (lv := [some (.ref 1), some (.int (nI p))]) rfl ?_
  refine Run.blk (gs := [True, True]) (S' := ([some (.ref 1), some (.int (nI p))], [.int (nI p), .ref 1], Ac fp le lp lb il (sbf t) (nI z) bf rf fr mp sc ifp ib ie pw dh rl rb re sy sb rc sg ex)) k_T_half_0 kc_T_half_0 rfl ⟨trivial, trivial, trivial⟩ ?_
  refine Run.callV (b := 1) (As := [.int (nI p)]) (rest := []) v_T_half_2 (c_T_byteAt ht hz (p := p) rfl (by omega)) rfl (Nat.le_of_ble_eq_true rfl) rfl rfl rfl rfl (fun r cs' hp => ?_)
  obtain ⟨rfl, rfl⟩ := hp
  show Run _ _ _ _ 5 ([some (.ref 1), some (.int (nI p))], [.int (nI (tb t z p))], Ac fp le lp lb il (sbf t) (nI z) bf rf fr mp sc ifp ib ie pw dh rl rb re sy sb rc sg ex) _
  refine Run.blk (gs := [True, True, True, True]) (S' := ([some (.ref 1), some (.int (nI p))], [.int ((nI p) + (1 : Int32)), .ref 1, .int (nI (tb t z p))], Ac fp le lp lb il (sbf t) (nI z) bf rf fr mp sc ifp ib ie pw dh rl rb re sy sb rc sg ex)) k_T_half_5 kc_T_half_5 rfl ⟨trivial, trivial, trivial, trivial, trivial⟩ ?_
  refine Run.callV (b := 1) (As := [.int ((nI p) + (1 : Int32))]) (rest := [.int (nI (tb t z p))]) v_T_half_9 (c_T_byteAt ht hz (p := (p + 1)) (nI_add p 1) (by omega)) rfl (Nat.le_of_ble_eq_true rfl) rfl rfl rfl rfl (fun r cs' hp => ?_)
  obtain ⟨rfl, rfl⟩ := hp
  show Run _ _ _ _ 12 ([some (.ref 1), some (.int (nI p))], [.int (nI (tb t z (p + 1))), .int (nI (tb t z p))], Ac fp le lp lb il (sbf t) (nI z) bf rf fr mp sc ifp ib ie pw dh rl rb re sy sb rc sg ex) _
  refine Run.blk (gs := [True, True, True]) (S' := ([some (.ref 1), some (.int (nI p))], [.int ((nI (tb t z p)) ||| ((nI (tb t z (p + 1))) <<< ((8 : Int32) &&& 31)))], Ac fp le lp lb il (sbf t) (nI z) bf rf fr mp sc ifp ib ie pw dh rl rb re sy sb rc sg ex)) k_T_half_12 kc_T_half_12 rfl ⟨trivial, trivial, trivial, trivial⟩ ?_
  refine Run.ret (r := some (.int ((nI (tb t z p)) ||| ((nI (tb t z (p + 1))) <<< ((8 : Int32) &&& 31))))) ⟨d_T_half_16, _, rfl, rfl⟩ ⟨?_, rfl⟩
  have h1 := tb_lt ht z p
  have h2 := tb_lt ht z (p + 1)
  rw [nI_sh8 h2, nI_or (k := 8) (by omega)]
  congr 3
  unfold hN
  omega
set_option maxRecDepth 100000 in
set_option maxHeartbeats 4000000 in
theorem c_T_word {t : Nat → Nat} {z : Nat} (ht : ∀ j, t j < 256) (hz : z ≤ 900) {p : Nat} {x : Int32} (hx : x = nI p) (hp : p < 2 ^ 30) : Ct m_T_word 0 0 [.ref 1, .int x] (Ac fp le lp lb il (sbf t) (nI z) bf rf fr mp sc ifp ib ie pw dh rl rb re sy sb rc sg ex) (vm_is (some (.long (lN (wN t z p)))) (Ac fp le lp lb il (sbf t) (nI z) bf rf fr mp sc ifp ib ie pw dh rl rb re sy sb rc sg ex)) := by
  subst hx
  refine Ct.of ⟨by decide +kernel, rfl⟩ (Nat.le_of_ble_eq_true rfl) (lv := [some (.ref 1), some (.int (nI p)), none]) rfl ?_
  refine Run.blk (gs := [True, True]) (S' := ([some (.ref 1), some (.int (nI p)), none], [.int (nI p), .ref 1], Ac fp le lp lb il (sbf t) (nI z) bf rf fr mp sc ifp ib ie pw dh rl rb re sy sb rc sg ex)) k_T_word_0 kc_T_word_0 rfl ⟨trivial, trivial, trivial⟩ ?_
  refine Run.callV (b := 1) (As := [.int (nI p)]) (rest := []) v_T_word_2 (c_T_byteAt ht hz (p := p) rfl (by omega)) rfl (Nat.le_of_ble_eq_true rfl) rfl rfl rfl rfl (fun r cs' hp => ?_)
  obtain ⟨rfl, rfl⟩ := hp
  show Run _ _ _ _ 5 ([some (.ref 1), some (.int (nI p)), none], [.int (nI (tb t z p))], Ac fp le lp lb il (sbf t) (nI z) bf rf fr mp sc ifp ib ie pw dh rl rb re sy sb rc sg ex) _
  refine Run.blk (gs := [True, True, True, True]) (S' := ([some (.ref 1), some (.int (nI p)), none], [.int ((nI p) + (1 : Int32)), .ref 1, .int (nI (tb t z p))], Ac fp le lp lb il (sbf t) (nI z) bf rf fr mp sc ifp ib ie pw dh rl rb re sy sb rc sg ex)) k_T_word_5 kc_T_word_5 rfl ⟨trivial, trivial, trivial, trivial, trivial⟩ ?_
  refine Run.callV (b := 1) (As := [.int ((nI p) + (1 : Int32))]) (rest := [.int (nI (tb t z p))]) v_T_word_9 (c_T_byteAt ht hz (p := (p + 1)) (nI_add p 1) (by omega)) rfl (Nat.le_of_ble_eq_true rfl) rfl rfl rfl rfl (fun r cs' hp => ?_)
  obtain ⟨rfl, rfl⟩ := hp
  show Run _ _ _ _ 12 ([some (.ref 1), some (.int (nI p)), none], [.int (nI (tb t z (p + 1))), .int (nI (tb t z p))], Ac fp le lp lb il (sbf t) (nI z) bf rf fr mp sc ifp ib ie pw dh rl rb re sy sb rc sg ex) _
  refine Run.blk (gs := [True, True, True, True, True, True, True]) (S' := ([some (.ref 1), some (.int (nI p)), none], [.int ((nI p) + (2 : Int32)), .ref 1, .int ((nI (tb t z p)) ||| ((nI (tb t z (p + 1))) <<< ((8 : Int32) &&& 31)))], Ac fp le lp lb il (sbf t) (nI z) bf rf fr mp sc ifp ib ie pw dh rl rb re sy sb rc sg ex)) k_T_word_12 kc_T_word_12 rfl ⟨trivial, trivial, trivial, trivial, trivial, trivial, trivial, trivial⟩ ?_
  refine Run.callV (b := 1) (As := [.int ((nI p) + (2 : Int32))]) (rest := [.int ((nI (tb t z p)) ||| ((nI (tb t z (p + 1))) <<< ((8 : Int32) &&& 31)))]) v_T_word_20 (c_T_byteAt ht hz (p := (p + 2)) (nI_add p 2) (by omega)) rfl (Nat.le_of_ble_eq_true rfl) rfl rfl rfl rfl (fun r cs' hp => ?_)
  obtain ⟨rfl, rfl⟩ := hp
  show Run _ _ _ _ 23 ([some (.ref 1), some (.int (nI p)), none], [.int (nI (tb t z (p + 2))), .int ((nI (tb t z p)) ||| ((nI (tb t z (p + 1))) <<< ((8 : Int32) &&& 31)))], Ac fp le lp lb il (sbf t) (nI z) bf rf fr mp sc ifp ib ie pw dh rl rb re sy sb rc sg ex) _
  refine Run.blk (gs := [True, True, True, True, True, True, True]) (S' := ([some (.ref 1), some (.int (nI p)), none], [.int ((nI p) + (3 : Int32)), .ref 1, .int (((nI (tb t z p)) ||| ((nI (tb t z (p + 1))) <<< ((8 : Int32) &&& 31))) ||| ((nI (tb t z (p + 2))) <<< ((16 : Int32) &&& 31)))], Ac fp le lp lb il (sbf t) (nI z) bf rf fr mp sc ifp ib ie pw dh rl rb re sy sb rc sg ex)) k_T_word_23 kc_T_word_23 rfl ⟨trivial, trivial, trivial, trivial, trivial, trivial, trivial, trivial⟩ ?_
  refine Run.callV (b := 1) (As := [.int ((nI p) + (3 : Int32))]) (rest := [.int (((nI (tb t z p)) ||| ((nI (tb t z (p + 1))) <<< ((8 : Int32) &&& 31))) ||| ((nI (tb t z (p + 2))) <<< ((16 : Int32) &&& 31)))]) v_T_word_31 (c_T_byteAt ht hz (p := (p + 3)) (nI_add p 3) (by omega)) rfl (Nat.le_of_ble_eq_true rfl) rfl rfl rfl rfl (fun r cs' hp => ?_)
  obtain ⟨rfl, rfl⟩ := hp
  show Run _ _ _ _ 34 ([some (.ref 1), some (.int (nI p)), none], [.int (nI (tb t z (p + 3))), .int (((nI (tb t z p)) ||| ((nI (tb t z (p + 1))) <<< ((8 : Int32) &&& 31))) ||| ((nI (tb t z (p + 2))) <<< ((16 : Int32) &&& 31)))], Ac fp le lp lb il (sbf t) (nI z) bf rf fr mp sc ifp ib ie pw dh rl rb re sy sb rc sg ex) _
  refine Run.blk (gs := [True, True, True, True, True, True, True, True]) (S' := ([some (.ref 1), some (.int (nI p)), some (.int ((((nI (tb t z p)) ||| ((nI (tb t z (p + 1))) <<< ((8 : Int32) &&& 31))) ||| ((nI (tb t z (p + 2))) <<< ((16 : Int32) &&& 31))) ||| ((nI (tb t z (p + 3))) <<< ((24 : Int32) &&& 31))))], [.long ((((((nI (tb t z p)) ||| ((nI (tb t z (p + 1))) <<< ((8 : Int32) &&& 31))) ||| ((nI (tb t z (p + 2))) <<< ((16 : Int32) &&& 31))) ||| ((nI (tb t z (p + 3))) <<< ((24 : Int32) &&& 31))).toInt64) &&& (4294967295 : Int64))], Ac fp le lp lb il (sbf t) (nI z) bf rf fr mp sc ifp ib ie pw dh rl rb re sy sb rc sg ex)) k_T_word_34 kc_T_word_34 rfl ⟨trivial, trivial, trivial, trivial, trivial, trivial, trivial, trivial, trivial⟩ ?_
  refine Run.ret (r := some (.long ((((((nI (tb t z p)) ||| ((nI (tb t z (p + 1))) <<< ((8 : Int32) &&& 31))) ||| ((nI (tb t z (p + 2))) <<< ((16 : Int32) &&& 31))) ||| ((nI (tb t z (p + 3))) <<< ((24 : Int32) &&& 31))).toInt64) &&& (4294967295 : Int64)))) ⟨d_T_word_45, rfl⟩ ⟨?_, rfl⟩
  have h1 := tb_lt ht z p
  have h2 := tb_lt ht z (p + 1)
  have h3 := tb_lt ht z (p + 2)
  have h4 := tb_lt ht z (p + 3)
  rw [nI_sh8 h2, nI_sh16 h3, nI_sh24 h4, nI_or (k := 8) (by omega), nI_or (k := 16) (by omega), nI_or (k := 24) (by omega), nI_mask (by omega)]
  congr 3
  unfold wN
  omega
end P15
end
section
section P16
variable {fp le lp lb il : Int32} {tf bf rf : Nat → Int32} {tz fr mp sc ifp ib ie pw dh rc : Int32} {rl rb re sy sb : Int64} {sg : Nat → A_G} {ex : List va_E}
theorem Met.ofWF {l : Launch} {y : MethodName} {ws ws' : List Jvm.Cond} {rm : Room} {Pc : Array Value → State → Prop} {Qc : Array Value → State → Outcome → State → Prop} {mc ms : Nat} {free : Addr → Prop} {cc : ByteArray} {maxL : Nat} {ret : Option FieldType}
    (hy : plainFor y = true) (hw : ws = Jvm.Cond.code y cc maxL ret :: ws')
    (body : ∀ p e s m args below meth c s₁, BodyLoose p l y (headSpec ws rm) cc maxL ret e s m args below meth c s₁ → c.maxLocals = maxL → Pc args s →
      W p l e (headSpec ws rm).room s m args below meth c s.heap [] 0 0 (MQ below Qc args s mc ms free) (entryFrame m args maxL)) : Met l y ws rm Pc Qc mc ms free := by
  refine MetFree.of_bodySF (code := cc) (maxLocals := maxL) (ret := ret) hy ?_ ?_
  · intro args s m h hn
    obtain ⟨meth, c, h1, h2, h3, h4, h5, h6, -, -⟩ := Cond.code_spec hn (atoms_spec (ws := ws) h _ (by rw [hw]; exact List.mem_cons_self))
    exact ⟨meth, c, h1, h2, h3, h4, h5, h6⟩
  · intro p e s m args below meth c s₁ B hml hP _
    have hh0 : s₁.heap = s.heap := by rw [B.state]; rfl
    obtain ⟨t, a1, o, b1, b2, b3⟩ := body p e s m args below meth c s₁ B hml hP s₁ hh0 (Stand.of_body B)
    exact ⟨t, o, a1, b1, b2, ⟨b3.1, b3.2⟩⟩
theorem Ct.ofF {M : vm_M} {bc bs : Nat} {av : List Value} {cs : List va_E} {post : Option Value → List va_E → Prop} {lv : List (Option Value)} (hy : plainFor M.2.1 = true ∧ M.2.1.cls = M.1) (hle : (vm_e1 av).length ≤ M.2.2.2.1) (hlv : vm_en M.2.2.2.1 av = lv) (k : Run M cs.length bc bs 0 (lv, [], cs) post) : Ct M bc bs av cs post := by
  intro l D ad tc sz
  refine Met.ofWF (cc := M.2.2.1) (maxL := M.2.2.2.1) (ret := M.2.2.2.2.1) hy.1 rfl ?_
  intro p e s m args below meth c s₁ B hml hv
  obtain ⟨rfl, hsz, hP, hK, hD0, hN, hT⟩ := hv
  have hx := B.exec
  have hb := B.bytes
  have hr := B.returns
  have hts := atoms_spec (ws := vm_ws M) B.pre
  have hown : s.vm.findClass M.1 = some m.cls := by rw [← hy.2]; exact findClass_of_methodNamed B.named
  have hlocks := B.notSynchronized
  have hnm : meth.name = M.2.1.name := (name_of_methodNamed B.named B.method).1
  subst hsz
  have hD := hD0.self (sz := s.heap.size)
  have hl := lv_entry (av.map (vm_v ad)) (n := M.2.2.2.1) (by rw [← vm_en_len]; exact hle)
  rw [lg_entry_eq]
  generalize (lg_sl (av.map (vm_v ad)) ++ List.replicate (M.2.2.2.1 - (lg_sl (av.map (vm_v ad))).length) Slot.unset).toArray = ls at hl ⊢
  have hl2 : vm_l ad ls lv := by
    rw [← hlv]
    unfold vm_l vm_en
    rw [vm_en_as]
    have : (vm_e1 av ++ List.replicate (M.2.2.2.1 - (vm_e1 av).length) none).length = M.2.2.2.1 := by simp; omega
    rw [this]
    exact hl
  refine k p l e (vm_rm M bc bs) s m _ below meth c 0 0 _ D ad tc (va_A (vm_w ad tc 0 cs) s.heap.size) ⟨hx, hb, hml, hown, fun w hw => hts w (List.mem_cons_of_mem _ hw), hK, fun q h => Or.inr h, hN, hlocks, hnm, ⟨Nat.le_refl _, Nat.le_refl _⟩, hT⟩ (by show 0 + bc ≤ bc; omega) (by show 0 + bs ≤ bs; omega) ?_ s.heap [] ls hl2 hP hD va_S.rf
  intro r cs' ad' cells' slots' hp hag h0 hc' hs' pc' lv' hrt H locs ls h1 h2 h3 h4
  refine W.widen (k := bc) (n := bs) (by omega) (by omega) ?_
  match r, hp, hrt with
  | none, hp, hrt => exact W.vret hx hb (hr.trans hrt.2) (fun t ht hW => ⟨⟨none, cs', ad', rfl, hp, hag, h0, by rw [ht]; exact h2, va_K.moved hW.alike hK, h3⟩, h4.F ht⟩) h4.2.2 (vm_dec_ok hrt.1)
  | some (.int v), hp, hrt =>
    obtain ⟨h5, ty, h6, h7⟩ := hrt
    exact W.zret hx hb (hr.trans h6) h7 (fun t ht hW => ⟨⟨some (.int v), cs', ad', rfl, hp, hag, h0, by rw [ht]; exact h2, va_K.moved hW.alike hK, h3⟩, h4.F ht⟩) h4.2.2 (vm_dec_ok h5)
  | some (.long v), hp, hrt => exact W.lret hx hb (hr.trans hrt.2) (fun t ht hW => ⟨⟨some (.long v), cs', ad', rfl, hp, hag, h0, by rw [ht]; exact h2, va_K.moved hW.alike hK, h3⟩, h4.F ht⟩) h4.2.2 (vm_dec_ok hrt.1)
variable {cs : List va_E}
def f_J_max (x y : Int32) : Int32 := if x < y then y else x
set_option maxRecDepth 100000 in
set_option maxHeartbeats 4000000 in
theorem c_J_max (x y : Int32) : Ct m_J_max 0 0 [.int x, .int y] (cs) (vm_is (some (.int (f_J_max x y))) (cs)) := by
  refine Ct.ofF ⟨by decide +kernel, rfl⟩ (Nat.le_of_ble_eq_true rfl) (lv := [some (.int x), some (.int y)]) rfl ?_
  refine Run.blk (gs := [True, True]) (S' := ([some (.int x), some (.int y)], [.int y, .int x], cs)) k_J_max_0 kc_J_max_0 rfl ⟨trivial, trivial, trivial⟩ ?_
  refine Run.br (tgt := 9) d_J_max_2 rfl (by decide) (fun c_1 => ?_) (fun c_1 => ?_)
  · refine Run.blk (gs := [True]) (S' := ([some (.int x), some (.int y)], [.int y], cs)) k_J_max_9 kc_J_max_9 rfl ⟨trivial, trivial⟩ ?_
    exact Run.ret (r := some (.int y)) ⟨d_J_max_10, _, rfl, rfl⟩ ⟨by unfold f_J_max; rw [if_pos c_1], rfl⟩
  · refine Run.blk (gs := [True]) (S' := ([some (.int x), some (.int y)], [.int x], cs)) k_J_max_5 kc_J_max_5 rfl ⟨trivial, trivial⟩ ?_
    refine Run.goto (tgt := 10) d_J_max_6 (by decide) ?_
    exact Run.ret (r := some (.int x)) ⟨d_J_max_10, _, rfl, rfl⟩ ⟨by unfold f_J_max; rw [if_neg c_1], rfl⟩
def f_J_min (x y : Int32) : Int32 := if y < x then y else x
set_option maxRecDepth 100000 in
set_option maxHeartbeats 4000000 in
theorem c_J_min (x y : Int32) : Ct m_J_min 0 0 [.int x, .int y] (cs) (vm_is (some (.int (f_J_min x y))) (cs)) := by
  refine Ct.ofF ⟨by decide +kernel, rfl⟩ (Nat.le_of_ble_eq_true rfl) (lv := [some (.int x), some (.int y)]) rfl ?_
  refine Run.blk (gs := [True, True]) (S' := ([some (.int x), some (.int y)], [.int y, .int x], cs)) k_J_min_0 kc_J_min_0 rfl ⟨trivial, trivial, trivial⟩ ?_
  refine Run.br (tgt := 9) d_J_min_2 rfl (by decide) (fun c_1 => ?_) (fun c_1 => ?_)
  · refine Run.blk (gs := [True]) (S' := ([some (.int x), some (.int y)], [.int y], cs)) k_J_min_9 kc_J_min_9 rfl ⟨trivial, trivial⟩ ?_
    exact Run.ret (r := some (.int y)) ⟨d_J_min_10, _, rfl, rfl⟩ ⟨by unfold f_J_min; rw [if_pos c_1], rfl⟩
  · refine Run.blk (gs := [True]) (S' := ([some (.int x), some (.int y)], [.int x], cs)) k_J_min_5 kc_J_min_5 rfl ⟨trivial, trivial⟩ ?_
    refine Run.goto (tgt := 10) d_J_min_6 (by decide) ?_
    exact Run.ret (r := some (.int x)) ⟨d_J_min_10, _, rfl, rfl⟩ ⟨by unfold f_J_min; rw [if_neg c_1], rfl⟩
def f_J_minJ (x y : Int64) : Int64 := if y < x then y else x
set_option maxRecDepth 100000 in
set_option maxHeartbeats 4000000 in
theorem c_J_minJ (x y : Int64) : Ct m_J_minJ 0 0 [.long x, .long y] (cs) (vm_is (some (.long (f_J_minJ x y))) (cs)) := by
  refine Ct.ofF ⟨by decide +kernel, rfl⟩ (Nat.le_of_ble_eq_true rfl) (lv := [some (.long x), none, some (.long y), none]) rfl ?_
  refine Run.blk (gs := [True, True]) (S' := ([some (.long x), none, some (.long y), none], [.long y, .long x], cs)) k_J_minJ_0 kc_J_minJ_0 rfl ⟨trivial, trivial, trivial⟩ ?_
  refine Run.brl (tgt := 10) dl_J_minJ_2 d_J_minJ_2 rfl (by decide) (fun c_1 => ?_) (fun c_1 => ?_)
  · refine Run.blk (gs := [True]) (S' := ([some (.long x), none, some (.long y), none], [.long y], cs)) k_J_minJ_10 kc_J_minJ_10 rfl ⟨trivial, trivial⟩ ?_
    exact Run.ret (r := some (.long y)) ⟨d_J_minJ_11, rfl⟩ ⟨by unfold f_J_minJ; rw [if_pos c_1], rfl⟩
  · refine Run.blk (gs := [True]) (S' := ([some (.long x), none, some (.long y), none], [.long x], cs)) k_J_minJ_6 kc_J_minJ_6 rfl ⟨trivial, trivial⟩ ?_
    refine Run.goto (tgt := 11) d_J_minJ_7 (by decide) ?_
    exact Run.ret (r := some (.long x)) ⟨d_J_minJ_11, rfl⟩ ⟨by unfold f_J_minJ; rw [if_neg c_1], rfl⟩
def f_K_bitCount (x : Int64) : Int32 := ((((((((((x - (((x.toUInt64 >>> ((1 : Int32).toInt64.toUInt64 &&& Int64.toUInt64 63)).toInt64) &&& (6148914691236517205 : Int64))) &&& (3689348814741910323 : Int64)) + ((((x - (((x.toUInt64 >>> ((1 : Int32).toInt64.toUInt64 &&& Int64.toUInt64 63)).toInt64) &&& (6148914691236517205 : Int64))).toUInt64 >>> ((2 : Int32).toInt64.toUInt64 &&& Int64.toUInt64 63)).toInt64) &&& (3689348814741910323 : Int64))) + (((((x - (((x.toUInt64 >>> ((1 : Int32).toInt64.toUInt64 &&& Int64.toUInt64 63)).toInt64) &&& (6148914691236517205 : Int64))) &&& (3689348814741910323 : Int64)) + ((((x - (((x.toUInt64 >>> ((1 : Int32).toInt64.toUInt64 &&& Int64.toUInt64 63)).toInt64) &&& (6148914691236517205 : Int64))).toUInt64 >>> ((2 : Int32).toInt64.toUInt64 &&& Int64.toUInt64 63)).toInt64) &&& (3689348814741910323 : Int64))).toUInt64 >>> ((4 : Int32).toInt64.toUInt64 &&& Int64.toUInt64 63)).toInt64)) &&& (1085102592571150095 : Int64)) + (((((((x - (((x.toUInt64 >>> ((1 : Int32).toInt64.toUInt64 &&& Int64.toUInt64 63)).toInt64) &&& (6148914691236517205 : Int64))) &&& (3689348814741910323 : Int64)) + ((((x - (((x.toUInt64 >>> ((1 : Int32).toInt64.toUInt64 &&& Int64.toUInt64 63)).toInt64) &&& (6148914691236517205 : Int64))).toUInt64 >>> ((2 : Int32).toInt64.toUInt64 &&& Int64.toUInt64 63)).toInt64) &&& (3689348814741910323 : Int64))) + (((((x - (((x.toUInt64 >>> ((1 : Int32).toInt64.toUInt64 &&& Int64.toUInt64 63)).toInt64) &&& (6148914691236517205 : Int64))) &&& (3689348814741910323 : Int64)) + ((((x - (((x.toUInt64 >>> ((1 : Int32).toInt64.toUInt64 &&& Int64.toUInt64 63)).toInt64) &&& (6148914691236517205 : Int64))).toUInt64 >>> ((2 : Int32).toInt64.toUInt64 &&& Int64.toUInt64 63)).toInt64) &&& (3689348814741910323 : Int64))).toUInt64 >>> ((4 : Int32).toInt64.toUInt64 &&& Int64.toUInt64 63)).toInt64)) &&& (1085102592571150095 : Int64)).toUInt64 >>> ((8 : Int32).toInt64.toUInt64 &&& Int64.toUInt64 63)).toInt64)) + ((((((((x - (((x.toUInt64 >>> ((1 : Int32).toInt64.toUInt64 &&& Int64.toUInt64 63)).toInt64) &&& (6148914691236517205 : Int64))) &&& (3689348814741910323 : Int64)) + ((((x - (((x.toUInt64 >>> ((1 : Int32).toInt64.toUInt64 &&& Int64.toUInt64 63)).toInt64) &&& (6148914691236517205 : Int64))).toUInt64 >>> ((2 : Int32).toInt64.toUInt64 &&& Int64.toUInt64 63)).toInt64) &&& (3689348814741910323 : Int64))) + (((((x - (((x.toUInt64 >>> ((1 : Int32).toInt64.toUInt64 &&& Int64.toUInt64 63)).toInt64) &&& (6148914691236517205 : Int64))) &&& (3689348814741910323 : Int64)) + ((((x - (((x.toUInt64 >>> ((1 : Int32).toInt64.toUInt64 &&& Int64.toUInt64 63)).toInt64) &&& (6148914691236517205 : Int64))).toUInt64 >>> ((2 : Int32).toInt64.toUInt64 &&& Int64.toUInt64 63)).toInt64) &&& (3689348814741910323 : Int64))).toUInt64 >>> ((4 : Int32).toInt64.toUInt64 &&& Int64.toUInt64 63)).toInt64)) &&& (1085102592571150095 : Int64)) + (((((((x - (((x.toUInt64 >>> ((1 : Int32).toInt64.toUInt64 &&& Int64.toUInt64 63)).toInt64) &&& (6148914691236517205 : Int64))) &&& (3689348814741910323 : Int64)) + ((((x - (((x.toUInt64 >>> ((1 : Int32).toInt64.toUInt64 &&& Int64.toUInt64 63)).toInt64) &&& (6148914691236517205 : Int64))).toUInt64 >>> ((2 : Int32).toInt64.toUInt64 &&& Int64.toUInt64 63)).toInt64) &&& (3689348814741910323 : Int64))) + (((((x - (((x.toUInt64 >>> ((1 : Int32).toInt64.toUInt64 &&& Int64.toUInt64 63)).toInt64) &&& (6148914691236517205 : Int64))) &&& (3689348814741910323 : Int64)) + ((((x - (((x.toUInt64 >>> ((1 : Int32).toInt64.toUInt64 &&& Int64.toUInt64 63)).toInt64) &&& (6148914691236517205 : Int64))).toUInt64 >>> ((2 : Int32).toInt64.toUInt64 &&& Int64.toUInt64 63)).toInt64) &&& (3689348814741910323 : Int64))).toUInt64 >>> ((4 : Int32).toInt64.toUInt64 &&& Int64.toUInt64 63)).toInt64)) &&& (1085102592571150095 : Int64)).toUInt64 >>> ((8 : Int32).toInt64.toUInt64 &&& Int64.toUInt64 63)).toInt64)).toUInt64 >>> ((16 : Int32).toInt64.toUInt64 &&& Int64.toUInt64 63)).toInt64)) + (((((((((x - (((x.toUInt64 >>> ((1 : Int32).toInt64.toUInt64 &&& Int64.toUInt64 63)).toInt64) &&& (6148914691236517205 : Int64))) &&& (3689348814741910323 : Int64)) + ((((x - (((x.toUInt64 >>> ((1 : Int32).toInt64.toUInt64 &&& Int64.toUInt64 63)).toInt64) &&& (6148914691236517205 : Int64))).toUInt64 >>> ((2 : Int32).toInt64.toUInt64 &&& Int64.toUInt64 63)).toInt64) &&& (3689348814741910323 : Int64))) + (((((x - (((x.toUInt64 >>> ((1 : Int32).toInt64.toUInt64 &&& Int64.toUInt64 63)).toInt64) &&& (6148914691236517205 : Int64))) &&& (3689348814741910323 : Int64)) + ((((x - (((x.toUInt64 >>> ((1 : Int32).toInt64.toUInt64 &&& Int64.toUInt64 63)).toInt64) &&& (6148914691236517205 : Int64))).toUInt64 >>> ((2 : Int32).toInt64.toUInt64 &&& Int64.toUInt64 63)).toInt64) &&& (3689348814741910323 : Int64))).toUInt64 >>> ((4 : Int32).toInt64.toUInt64 &&& Int64.toUInt64 63)).toInt64)) &&& (1085102592571150095 : Int64)) + (((((((x - (((x.toUInt64 >>> ((1 : Int32).toInt64.toUInt64 &&& Int64.toUInt64 63)).toInt64) &&& (6148914691236517205 : Int64))) &&& (3689348814741910323 : Int64)) + ((((x - (((x.toUInt64 >>> ((1 : Int32).toInt64.toUInt64 &&& Int64.toUInt64 63)).toInt64) &&& (6148914691236517205 : Int64))).toUInt64 >>> ((2 : Int32).toInt64.toUInt64 &&& Int64.toUInt64 63)).toInt64) &&& (3689348814741910323 : Int64))) + (((((x - (((x.toUInt64 >>> ((1 : Int32).toInt64.toUInt64 &&& Int64.toUInt64 63)).toInt64) &&& (6148914691236517205 : Int64))) &&& (3689348814741910323 : Int64)) + ((((x - (((x.toUInt64 >>> ((1 : Int32).toInt64.toUInt64 &&& Int64.toUInt64 63)).toInt64) &&& (6148914691236517205 : Int64))).toUInt64 >>> ((2 : Int32).toInt64.toUInt64 &&& Int64.toUInt64 63)).toInt64) &&& (3689348814741910323 : Int64))).toUInt64 >>> ((4 : Int32).toInt64.toUInt64 &&& Int64.toUInt64 63)).toInt64)) &&& (1085102592571150095 : Int64)).toUInt64 >>> ((8 : Int32).toInt64.toUInt64 &&& Int64.toUInt64 63)).toInt64)) + ((((((((x - (((x.toUInt64 >>> ((1 : Int32).toInt64.toUInt64 &&& Int64.toUInt64 63)).toInt64) &&& (6148914691236517205 : Int64))) &&& (3689348814741910323 : Int64)) + ((((x - (((x.toUInt64 >>> ((1 : Int32).toInt64.toUInt64 &&& Int64.toUInt64 63)).toInt64) &&& (6148914691236517205 : Int64))).toUInt64 >>> ((2 : Int32).toInt64.toUInt64 &&& Int64.toUInt64 63)).toInt64) &&& (3689348814741910323 : Int64))) + (((((x - (((x.toUInt64 >>> ((1 : Int32).toInt64.toUInt64 &&& Int64.toUInt64 63)).toInt64) &&& (6148914691236517205 : Int64))) &&& (3689348814741910323 : Int64)) + ((((x - (((x.toUInt64 >>> ((1 : Int32).toInt64.toUInt64 &&& Int64.toUInt64 63)).toInt64) &&& (6148914691236517205 : Int64))).toUInt64 >>> ((2 : Int32).toInt64.toUInt64 &&& Int64.toUInt64 63)).toInt64) &&& (3689348814741910323 : Int64))).toUInt64 >>> ((4 : Int32).toInt64.toUInt64 &&& Int64.toUInt64 63)).toInt64)) &&& (1085102592571150095 : Int64)) + (((((((x - (((x.toUInt64 >>> ((1 : Int32).toInt64.toUInt64 &&& Int64.toUInt64 63)).toInt64) &&& (6148914691236517205 : Int64))) &&& (3689348814741910323 : Int64)) + ((((x - (((x.toUInt64 >>> ((1 : Int32).toInt64.toUInt64 &&& Int64.toUInt64 63)).toInt64) &&& (6148914691236517205 : Int64))).toUInt64 >>> ((2 : Int32).toInt64.toUInt64 &&& Int64.toUInt64 63)).toInt64) &&& (3689348814741910323 : Int64))) + (((((x - (((x.toUInt64 >>> ((1 : Int32).toInt64.toUInt64 &&& Int64.toUInt64 63)).toInt64) &&& (6148914691236517205 : Int64))) &&& (3689348814741910323 : Int64)) + ((((x - (((x.toUInt64 >>> ((1 : Int32).toInt64.toUInt64 &&& Int64.toUInt64 63)).toInt64) &&& (6148914691236517205 : Int64))).toUInt64 >>> ((2 : Int32).toInt64.toUInt64 &&& Int64.toUInt64 63)).toInt64) &&& (3689348814741910323 : Int64))).toUInt64 >>> ((4 : Int32).toInt64.toUInt64 &&& Int64.toUInt64 63)).toInt64)) &&& (1085102592571150095 : Int64)).toUInt64 >>> ((8 : Int32).toInt64.toUInt64 &&& Int64.toUInt64 63)).toInt64)).toUInt64 >>> ((16 : Int32).toInt64.toUInt64 &&& Int64.toUInt64 63)).toInt64)).toUInt64 >>> ((32 : Int32).toInt64.toUInt64 &&& Int64.toUInt64 63)).toInt64)).toInt32) &&& (127 : Int32))
set_option maxRecDepth 100000 in
set_option maxHeartbeats 4000000 in
theorem c_K_bitCount (x : Int64) : Ct m_K_bitCount 0 0 [.long x] (cs) (vm_is (some (.int (f_K_bitCount x))) (cs)) := by
  refine Ct.of ⟨by decide +kernel, rfl⟩ (Nat.le_of_ble_eq_true rfl) (lv := [some (.long x), none]) rfl ?_
  refine Run.blk (gs := [True, True, True, True, True, True, True, True, True, True, True, True, True, True, True, True, True, True, True, True, True, True, True, True, True, True, True, True, True, True, True, True, True, True, True, True, True, True, True, True, True, True, True, True, True, True, True, True]) (S' := ([some (.long ((((((((x - (((x.toUInt64 >>> ((1 : Int32).toInt64.toUInt64 &&& Int64.toUInt64 63)).toInt64) &&& (6148914691236517205 : Int64))) &&& (3689348814741910323 : Int64)) + ((((x - (((x.toUInt64 >>> ((1 : Int32).toInt64.toUInt64 &&& Int64.toUInt64 63)).toInt64) &&& (6148914691236517205 : Int64))).toUInt64 >>> ((2 : Int32).toInt64.toUInt64 &&& Int64.toUInt64 63)).toInt64) &&& (3689348814741910323 : Int64))) + (((((x - (((x.toUInt64 >>> ((1 : Int32).toInt64.toUInt64 &&& Int64.toUInt64 63)).toInt64) &&& (6148914691236517205 : Int64))) &&& (3689348814741910323 : Int64)) + ((((x - (((x.toUInt64 >>> ((1 : Int32).toInt64.toUInt64 &&& Int64.toUInt64 63)).toInt64) &&& (6148914691236517205 : Int64))).toUInt64 >>> ((2 : Int32).toInt64.toUInt64 &&& Int64.toUInt64 63)).toInt64) &&& (3689348814741910323 : Int64))).toUInt64 >>> ((4 : Int32).toInt64.toUInt64 &&& Int64.toUInt64 63)).toInt64)) &&& (1085102592571150095 : Int64)) + (((((((x - (((x.toUInt64 >>> ((1 : Int32).toInt64.toUInt64 &&& Int64.toUInt64 63)).toInt64) &&& (6148914691236517205 : Int64))) &&& (3689348814741910323 : Int64)) + ((((x - (((x.toUInt64 >>> ((1 : Int32).toInt64.toUInt64 &&& Int64.toUInt64 63)).toInt64) &&& (6148914691236517205 : Int64))).toUInt64 >>> ((2 : Int32).toInt64.toUInt64 &&& Int64.toUInt64 63)).toInt64) &&& (3689348814741910323 : Int64))) + (((((x - (((x.toUInt64 >>> ((1 : Int32).toInt64.toUInt64 &&& Int64.toUInt64 63)).toInt64) &&& (6148914691236517205 : Int64))) &&& (3689348814741910323 : Int64)) + ((((x - (((x.toUInt64 >>> ((1 : Int32).toInt64.toUInt64 &&& Int64.toUInt64 63)).toInt64) &&& (6148914691236517205 : Int64))).toUInt64 >>> ((2 : Int32).toInt64.toUInt64 &&& Int64.toUInt64 63)).toInt64) &&& (3689348814741910323 : Int64))).toUInt64 >>> ((4 : Int32).toInt64.toUInt64 &&& Int64.toUInt64 63)).toInt64)) &&& (1085102592571150095 : Int64)).toUInt64 >>> ((8 : Int32).toInt64.toUInt64 &&& Int64.toUInt64 63)).toInt64)) + ((((((((x - (((x.toUInt64 >>> ((1 : Int32).toInt64.toUInt64 &&& Int64.toUInt64 63)).toInt64) &&& (6148914691236517205 : Int64))) &&& (3689348814741910323 : Int64)) + ((((x - (((x.toUInt64 >>> ((1 : Int32).toInt64.toUInt64 &&& Int64.toUInt64 63)).toInt64) &&& (6148914691236517205 : Int64))).toUInt64 >>> ((2 : Int32).toInt64.toUInt64 &&& Int64.toUInt64 63)).toInt64) &&& (3689348814741910323 : Int64))) + (((((x - (((x.toUInt64 >>> ((1 : Int32).toInt64.toUInt64 &&& Int64.toUInt64 63)).toInt64) &&& (6148914691236517205 : Int64))) &&& (3689348814741910323 : Int64)) + ((((x - (((x.toUInt64 >>> ((1 : Int32).toInt64.toUInt64 &&& Int64.toUInt64 63)).toInt64) &&& (6148914691236517205 : Int64))).toUInt64 >>> ((2 : Int32).toInt64.toUInt64 &&& Int64.toUInt64 63)).toInt64) &&& (3689348814741910323 : Int64))).toUInt64 >>> ((4 : Int32).toInt64.toUInt64 &&& Int64.toUInt64 63)).toInt64)) &&& (1085102592571150095 : Int64)) + (((((((x - (((x.toUInt64 >>> ((1 : Int32).toInt64.toUInt64 &&& Int64.toUInt64 63)).toInt64) &&& (6148914691236517205 : Int64))) &&& (3689348814741910323 : Int64)) + ((((x - (((x.toUInt64 >>> ((1 : Int32).toInt64.toUInt64 &&& Int64.toUInt64 63)).toInt64) &&& (6148914691236517205 : Int64))).toUInt64 >>> ((2 : Int32).toInt64.toUInt64 &&& Int64.toUInt64 63)).toInt64) &&& (3689348814741910323 : Int64))) + (((((x - (((x.toUInt64 >>> ((1 : Int32).toInt64.toUInt64 &&& Int64.toUInt64 63)).toInt64) &&& (6148914691236517205 : Int64))) &&& (3689348814741910323 : Int64)) + ((((x - (((x.toUInt64 >>> ((1 : Int32).toInt64.toUInt64 &&& Int64.toUInt64 63)).toInt64) &&& (6148914691236517205 : Int64))).toUInt64 >>> ((2 : Int32).toInt64.toUInt64 &&& Int64.toUInt64 63)).toInt64) &&& (3689348814741910323 : Int64))).toUInt64 >>> ((4 : Int32).toInt64.toUInt64 &&& Int64.toUInt64 63)).toInt64)) &&& (1085102592571150095 : Int64)).toUInt64 >>> ((8 : Int32).toInt64.toUInt64 &&& Int64.toUInt64 63)).toInt64)).toUInt64 >>> ((16 : Int32).toInt64.toUInt64 &&& Int64.toUInt64 63)).toInt64)) + (((((((((x - (((x.toUInt64 >>> ((1 : Int32).toInt64.toUInt64 &&& Int64.toUInt64 63)).toInt64) &&& (6148914691236517205 : Int64))) &&& (3689348814741910323 : Int64)) + ((((x - (((x.toUInt64 >>> ((1 : Int32).toInt64.toUInt64 &&& Int64.toUInt64 63)).toInt64) &&& (6148914691236517205 : Int64))).toUInt64 >>> ((2 : Int32).toInt64.toUInt64 &&& Int64.toUInt64 63)).toInt64) &&& (3689348814741910323 : Int64))) + (((((x - (((x.toUInt64 >>> ((1 : Int32).toInt64.toUInt64 &&& Int64.toUInt64 63)).toInt64) &&& (6148914691236517205 : Int64))) &&& (3689348814741910323 : Int64)) + ((((x - (((x.toUInt64 >>> ((1 : Int32).toInt64.toUInt64 &&& Int64.toUInt64 63)).toInt64) &&& (6148914691236517205 : Int64))).toUInt64 >>> ((2 : Int32).toInt64.toUInt64 &&& Int64.toUInt64 63)).toInt64) &&& (3689348814741910323 : Int64))).toUInt64 >>> ((4 : Int32).toInt64.toUInt64 &&& Int64.toUInt64 63)).toInt64)) &&& (1085102592571150095 : Int64)) + (((((((x - (((x.toUInt64 >>> ((1 : Int32).toInt64.toUInt64 &&& Int64.toUInt64 63)).toInt64) &&& (6148914691236517205 : Int64))) &&& (3689348814741910323 : Int64)) + ((((x - (((x.toUInt64 >>> ((1 : Int32).toInt64.toUInt64 &&& Int64.toUInt64 63)).toInt64) &&& (6148914691236517205 : Int64))).toUInt64 >>> ((2 : Int32).toInt64.toUInt64 &&& Int64.toUInt64 63)).toInt64) &&& (3689348814741910323 : Int64))) + (((((x - (((x.toUInt64 >>> ((1 : Int32).toInt64.toUInt64 &&& Int64.toUInt64 63)).toInt64) &&& (6148914691236517205 : Int64))) &&& (3689348814741910323 : Int64)) + ((((x - (((x.toUInt64 >>> ((1 : Int32).toInt64.toUInt64 &&& Int64.toUInt64 63)).toInt64) &&& (6148914691236517205 : Int64))).toUInt64 >>> ((2 : Int32).toInt64.toUInt64 &&& Int64.toUInt64 63)).toInt64) &&& (3689348814741910323 : Int64))).toUInt64 >>> ((4 : Int32).toInt64.toUInt64 &&& Int64.toUInt64 63)).toInt64)) &&& (1085102592571150095 : Int64)).toUInt64 >>> ((8 : Int32).toInt64.toUInt64 &&& Int64.toUInt64 63)).toInt64)) + ((((((((x - (((x.toUInt64 >>> ((1 : Int32).toInt64.toUInt64 &&& Int64.toUInt64 63)).toInt64) &&& (6148914691236517205 : Int64))) &&& (3689348814741910323 : Int64)) + ((((x - (((x.toUInt64 >>> ((1 : Int32).toInt64.toUInt64 &&& Int64.toUInt64 63)).toInt64) &&& (6148914691236517205 : Int64))).toUInt64 >>> ((2 : Int32).toInt64.toUInt64 &&& Int64.toUInt64 63)).toInt64) &&& (3689348814741910323 : Int64))) + (((((x - (((x.toUInt64 >>> ((1 : Int32).toInt64.toUInt64 &&& Int64.toUInt64 63)).toInt64) &&& (6148914691236517205 : Int64))) &&& (3689348814741910323 : Int64)) + ((((x - (((x.toUInt64 >>> ((1 : Int32).toInt64.toUInt64 &&& Int64.toUInt64 63)).toInt64) &&& (6148914691236517205 : Int64))).toUInt64 >>> ((2 : Int32).toInt64.toUInt64 &&& Int64.toUInt64 63)).toInt64) &&& (3689348814741910323 : Int64))).toUInt64 >>> ((4 : Int32).toInt64.toUInt64 &&& Int64.toUInt64 63)).toInt64)) &&& (1085102592571150095 : Int64)) + (((((((x - (((x.toUInt64 >>> ((1 : Int32).toInt64.toUInt64 &&& Int64.toUInt64 63)).toInt64) &&& (6148914691236517205 : Int64))) &&& (3689348814741910323 : Int64)) + ((((x - (((x.toUInt64 >>> ((1 : Int32).toInt64.toUInt64 &&& Int64.toUInt64 63)).toInt64) &&& (6148914691236517205 : Int64))).toUInt64 >>> ((2 : Int32).toInt64.toUInt64 &&& Int64.toUInt64 63)).toInt64) &&& (3689348814741910323 : Int64))) + (((((x - (((x.toUInt64 >>> ((1 : Int32).toInt64.toUInt64 &&& Int64.toUInt64 63)).toInt64) &&& (6148914691236517205 : Int64))) &&& (3689348814741910323 : Int64)) + ((((x - (((x.toUInt64 >>> ((1 : Int32).toInt64.toUInt64 &&& Int64.toUInt64 63)).toInt64) &&& (6148914691236517205 : Int64))).toUInt64 >>> ((2 : Int32).toInt64.toUInt64 &&& Int64.toUInt64 63)).toInt64) &&& (3689348814741910323 : Int64))).toUInt64 >>> ((4 : Int32).toInt64.toUInt64 &&& Int64.toUInt64 63)).toInt64)) &&& (1085102592571150095 : Int64)).toUInt64 >>> ((8 : Int32).toInt64.toUInt64 &&& Int64.toUInt64 63)).toInt64)).toUInt64 >>> ((16 : Int32).toInt64.toUInt64 &&& Int64.toUInt64 63)).toInt64)).toUInt64 >>> ((32 : Int32).toInt64.toUInt64 &&& Int64.toUInt64 63)).toInt64))), none], [.int ((((((((((x - (((x.toUInt64 >>> ((1 : Int32).toInt64.toUInt64 &&& Int64.toUInt64 63)).toInt64) &&& (6148914691236517205 : Int64))) &&& (3689348814741910323 : Int64)) + ((((x - (((x.toUInt64 >>> ((1 : Int32).toInt64.toUInt64 &&& Int64.toUInt64 63)).toInt64) &&& (6148914691236517205 : Int64))).toUInt64 >>> ((2 : Int32).toInt64.toUInt64 &&& Int64.toUInt64 63)).toInt64) &&& (3689348814741910323 : Int64))) + (((((x - (((x.toUInt64 >>> ((1 : Int32).toInt64.toUInt64 &&& Int64.toUInt64 63)).toInt64) &&& (6148914691236517205 : Int64))) &&& (3689348814741910323 : Int64)) + ((((x - (((x.toUInt64 >>> ((1 : Int32).toInt64.toUInt64 &&& Int64.toUInt64 63)).toInt64) &&& (6148914691236517205 : Int64))).toUInt64 >>> ((2 : Int32).toInt64.toUInt64 &&& Int64.toUInt64 63)).toInt64) &&& (3689348814741910323 : Int64))).toUInt64 >>> ((4 : Int32).toInt64.toUInt64 &&& Int64.toUInt64 63)).toInt64)) &&& (1085102592571150095 : Int64)) + (((((((x - (((x.toUInt64 >>> ((1 : Int32).toInt64.toUInt64 &&& Int64.toUInt64 63)).toInt64) &&& (6148914691236517205 : Int64))) &&& (3689348814741910323 : Int64)) + ((((x - (((x.toUInt64 >>> ((1 : Int32).toInt64.toUInt64 &&& Int64.toUInt64 63)).toInt64) &&& (6148914691236517205 : Int64))).toUInt64 >>> ((2 : Int32).toInt64.toUInt64 &&& Int64.toUInt64 63)).toInt64) &&& (3689348814741910323 : Int64))) + (((((x - (((x.toUInt64 >>> ((1 : Int32).toInt64.toUInt64 &&& Int64.toUInt64 63)).toInt64) &&& (6148914691236517205 : Int64))) &&& (3689348814741910323 : Int64)) + ((((x - (((x.toUInt64 >>> ((1 : Int32).toInt64.toUInt64 &&& Int64.toUInt64 63)).toInt64) &&& (6148914691236517205 : Int64))).toUInt64 >>> ((2 : Int32).toInt64.toUInt64 &&& Int64.toUInt64 63)).toInt64) &&& (3689348814741910323 : Int64))).toUInt64 >>> ((4 : Int32).toInt64.toUInt64 &&& Int64.toUInt64 63)).toInt64)) &&& (1085102592571150095 : Int64)).toUInt64 >>> ((8 : Int32).toInt64.toUInt64 &&& Int64.toUInt64 63)).toInt64)) + ((((((((x - (((x.toUInt64 >>> ((1 : Int32).toInt64.toUInt64 &&& Int64.toUInt64 63)).toInt64) &&& (6148914691236517205 : Int64))) &&& (3689348814741910323 : Int64)) + ((((x - (((x.toUInt64 >>> ((1 : Int32).toInt64.toUInt64 &&& Int64.toUInt64 63)).toInt64) &&& (6148914691236517205 : Int64))).toUInt64 >>> ((2 : Int32).toInt64.toUInt64 &&& Int64.toUInt64 63)).toInt64) &&& (3689348814741910323 : Int64))) + (((((x - (((x.toUInt64 >>> ((1 : Int32).toInt64.toUInt64 &&& Int64.toUInt64 63)).toInt64) &&& (6148914691236517205 : Int64))) &&& (3689348814741910323 : Int64)) + ((((x - (((x.toUInt64 >>> ((1 : Int32).toInt64.toUInt64 &&& Int64.toUInt64 63)).toInt64) &&& (6148914691236517205 : Int64))).toUInt64 >>> ((2 : Int32).toInt64.toUInt64 &&& Int64.toUInt64 63)).toInt64) &&& (3689348814741910323 : Int64))).toUInt64 >>> ((4 : Int32).toInt64.toUInt64 &&& Int64.toUInt64 63)).toInt64)) &&& (1085102592571150095 : Int64)) + (((((((x - (((x.toUInt64 >>> ((1 : Int32).toInt64.toUInt64 &&& Int64.toUInt64 63)).toInt64) &&& (6148914691236517205 : Int64))) &&& (3689348814741910323 : Int64)) + ((((x - (((x.toUInt64 >>> ((1 : Int32).toInt64.toUInt64 &&& Int64.toUInt64 63)).toInt64) &&& (6148914691236517205 : Int64))).toUInt64 >>> ((2 : Int32).toInt64.toUInt64 &&& Int64.toUInt64 63)).toInt64) &&& (3689348814741910323 : Int64))) + (((((x - (((x.toUInt64 >>> ((1 : Int32).toInt64.toUInt64 &&& Int64.toUInt64 63)).toInt64) &&& (6148914691236517205 : Int64))) &&& (3689348814741910323 : Int64)) + ((((x - (((x.toUInt64 >>> ((1 : Int32).toInt64.toUInt64 &&& Int64.toUInt64 63)).toInt64) &&& (6148914691236517205 : Int64))).toUInt64 >>> ((2 : Int32).toInt64.toUInt64 &&& Int64.toUInt64 63)).toInt64) &&& (3689348814741910323 : Int64))).toUInt64 >>> ((4 : Int32).toInt64.toUInt64 &&& Int64.toUInt64 63)).toInt64)) &&& (1085102592571150095 : Int64)).toUInt64 >>> ((8 : Int32).toInt64.toUInt64 &&& Int64.toUInt64 63)).toInt64)).toUInt64 >>> ((16 : Int32).toInt64.toUInt64 &&& Int64.toUInt64 63)).toInt64)) + (((((((((x - (((x.toUInt64 >>> ((1 : Int32).toInt64.toUInt64 &&& Int64.toUInt64 63)).toInt64) &&& (6148914691236517205 : Int64))) &&& (3689348814741910323 : Int64)) + ((((x - (((x.toUInt64 >>> ((1 : Int32).toInt64.toUInt64 &&& Int64.toUInt64 63)).toInt64) &&& (6148914691236517205 : Int64))).toUInt64 >>> ((2 : Int32).toInt64.toUInt64 &&& Int64.toUInt64 63)).toInt64) &&& (3689348814741910323 : Int64))) + (((((x - (((x.toUInt64 >>> ((1 : Int32).toInt64.toUInt64 &&& Int64.toUInt64 63)).toInt64) &&& (6148914691236517205 : Int64))) &&& (3689348814741910323 : Int64)) + ((((x - (((x.toUInt64 >>> ((1 : Int32).toInt64.toUInt64 &&& Int64.toUInt64 63)).toInt64) &&& (6148914691236517205 : Int64))).toUInt64 >>> ((2 : Int32).toInt64.toUInt64 &&& Int64.toUInt64 63)).toInt64) &&& (3689348814741910323 : Int64))).toUInt64 >>> ((4 : Int32).toInt64.toUInt64 &&& Int64.toUInt64 63)).toInt64)) &&& (1085102592571150095 : Int64)) + (((((((x - (((x.toUInt64 >>> ((1 : Int32).toInt64.toUInt64 &&& Int64.toUInt64 63)).toInt64) &&& (6148914691236517205 : Int64))) &&& (3689348814741910323 : Int64)) + ((((x - (((x.toUInt64 >>> ((1 : Int32).toInt64.toUInt64 &&& Int64.toUInt64 63)).toInt64) &&& (6148914691236517205 : Int64))).toUInt64 >>> ((2 : Int32).toInt64.toUInt64 &&& Int64.toUInt64 63)).toInt64) &&& (3689348814741910323 : Int64))) + (((((x - (((x.toUInt64 >>> ((1 : Int32).toInt64.toUInt64 &&& Int64.toUInt64 63)).toInt64) &&& (6148914691236517205 : Int64))) &&& (3689348814741910323 : Int64)) + ((((x - (((x.toUInt64 >>> ((1 : Int32).toInt64.toUInt64 &&& Int64.toUInt64 63)).toInt64) &&& (6148914691236517205 : Int64))).toUInt64 >>> ((2 : Int32).toInt64.toUInt64 &&& Int64.toUInt64 63)).toInt64) &&& (3689348814741910323 : Int64))).toUInt64 >>> ((4 : Int32).toInt64.toUInt64 &&& Int64.toUInt64 63)).toInt64)) &&& (1085102592571150095 : Int64)).toUInt64 >>> ((8 : Int32).toInt64.toUInt64 &&& Int64.toUInt64 63)).toInt64)) + ((((((((x - (((x.toUInt64 >>> ((1 : Int32).toInt64.toUInt64 &&& Int64.toUInt64 63)).toInt64) &&& (6148914691236517205 : Int64))) &&& (3689348814741910323 : Int64)) + ((((x - (((x.toUInt64 >>> ((1 : Int32).toInt64.toUInt64 &&& Int64.toUInt64 63)).toInt64) &&& (6148914691236517205 : Int64))).toUInt64 >>> ((2 : Int32).toInt64.toUInt64 &&& Int64.toUInt64 63)).toInt64) &&& (3689348814741910323 : Int64))) + (((((x - (((x.toUInt64 >>> ((1 : Int32).toInt64.toUInt64 &&& Int64.toUInt64 63)).toInt64) &&& (6148914691236517205 : Int64))) &&& (3689348814741910323 : Int64)) + ((((x - (((x.toUInt64 >>> ((1 : Int32).toInt64.toUInt64 &&& Int64.toUInt64 63)).toInt64) &&& (6148914691236517205 : Int64))).toUInt64 >>> ((2 : Int32).toInt64.toUInt64 &&& Int64.toUInt64 63)).toInt64) &&& (3689348814741910323 : Int64))).toUInt64 >>> ((4 : Int32).toInt64.toUInt64 &&& Int64.toUInt64 63)).toInt64)) &&& (1085102592571150095 : Int64)) + (((((((x - (((x.toUInt64 >>> ((1 : Int32).toInt64.toUInt64 &&& Int64.toUInt64 63)).toInt64) &&& (6148914691236517205 : Int64))) &&& (3689348814741910323 : Int64)) + ((((x - (((x.toUInt64 >>> ((1 : Int32).toInt64.toUInt64 &&& Int64.toUInt64 63)).toInt64) &&& (6148914691236517205 : Int64))).toUInt64 >>> ((2 : Int32).toInt64.toUInt64 &&& Int64.toUInt64 63)).toInt64) &&& (3689348814741910323 : Int64))) + (((((x - (((x.toUInt64 >>> ((1 : Int32).toInt64.toUInt64 &&& Int64.toUInt64 63)).toInt64) &&& (6148914691236517205 : Int64))) &&& (3689348814741910323 : Int64)) + ((((x - (((x.toUInt64 >>> ((1 : Int32).toInt64.toUInt64 &&& Int64.toUInt64 63)).toInt64) &&& (6148914691236517205 : Int64))).toUInt64 >>> ((2 : Int32).toInt64.toUInt64 &&& Int64.toUInt64 63)).toInt64) &&& (3689348814741910323 : Int64))).toUInt64 >>> ((4 : Int32).toInt64.toUInt64 &&& Int64.toUInt64 63)).toInt64)) &&& (1085102592571150095 : Int64)).toUInt64 >>> ((8 : Int32).toInt64.toUInt64 &&& Int64.toUInt64 63)).toInt64)).toUInt64 >>> ((16 : Int32).toInt64.toUInt64 &&& Int64.toUInt64 63)).toInt64)).toUInt64 >>> ((32 : Int32).toInt64.toUInt64 &&& Int64.toUInt64 63)).toInt64)).toInt32) &&& (127 : Int32))], cs)) k_K_bitCount_0 kc_K_bitCount_0 rfl ⟨trivial, trivial, trivial, trivial, trivial, trivial, trivial, trivial, trivial, trivial, trivial, trivial, trivial, trivial, trivial, trivial, trivial, trivial, trivial, trivial, trivial, trivial, trivial, trivial, trivial, trivial, trivial, trivial, trivial, trivial, trivial, trivial, trivial, trivial, trivial, trivial, trivial, trivial, trivial, trivial, trivial, trivial, trivial, trivial, trivial, trivial, trivial, trivial, trivial⟩ ?_
  exact Run.ret (r := some (.int ((((((((((x - (((x.toUInt64 >>> ((1 : Int32).toInt64.toUInt64 &&& Int64.toUInt64 63)).toInt64) &&& (6148914691236517205 : Int64))) &&& (3689348814741910323 : Int64)) + ((((x - (((x.toUInt64 >>> ((1 : Int32).toInt64.toUInt64 &&& Int64.toUInt64 63)).toInt64) &&& (6148914691236517205 : Int64))).toUInt64 >>> ((2 : Int32).toInt64.toUInt64 &&& Int64.toUInt64 63)).toInt64) &&& (3689348814741910323 : Int64))) + (((((x - (((x.toUInt64 >>> ((1 : Int32).toInt64.toUInt64 &&& Int64.toUInt64 63)).toInt64) &&& (6148914691236517205 : Int64))) &&& (3689348814741910323 : Int64)) + ((((x - (((x.toUInt64 >>> ((1 : Int32).toInt64.toUInt64 &&& Int64.toUInt64 63)).toInt64) &&& (6148914691236517205 : Int64))).toUInt64 >>> ((2 : Int32).toInt64.toUInt64 &&& Int64.toUInt64 63)).toInt64) &&& (3689348814741910323 : Int64))).toUInt64 >>> ((4 : Int32).toInt64.toUInt64 &&& Int64.toUInt64 63)).toInt64)) &&& (1085102592571150095 : Int64)) + (((((((x - (((x.toUInt64 >>> ((1 : Int32).toInt64.toUInt64 &&& Int64.toUInt64 63)).toInt64) &&& (6148914691236517205 : Int64))) &&& (3689348814741910323 : Int64)) + ((((x - (((x.toUInt64 >>> ((1 : Int32).toInt64.toUInt64 &&& Int64.toUInt64 63)).toInt64) &&& (6148914691236517205 : Int64))).toUInt64 >>> ((2 : Int32).toInt64.toUInt64 &&& Int64.toUInt64 63)).toInt64) &&& (3689348814741910323 : Int64))) + (((((x - (((x.toUInt64 >>> ((1 : Int32).toInt64.toUInt64 &&& Int64.toUInt64 63)).toInt64) &&& (6148914691236517205 : Int64))) &&& (3689348814741910323 : Int64)) + ((((x - (((x.toUInt64 >>> ((1 : Int32).toInt64.toUInt64 &&& Int64.toUInt64 63)).toInt64) &&& (6148914691236517205 : Int64))).toUInt64 >>> ((2 : Int32).toInt64.toUInt64 &&& Int64.toUInt64 63)).toInt64) &&& (3689348814741910323 : Int64))).toUInt64 >>> ((4 : Int32).toInt64.toUInt64 &&& Int64.toUInt64 63)).toInt64)) &&& (1085102592571150095 : Int64)).toUInt64 >>> ((8 : Int32).toInt64.toUInt64 &&& Int64.toUInt64 63)).toInt64)) + ((((((((x - (((x.toUInt64 >>> ((1 : Int32).toInt64.toUInt64 &&& Int64.toUInt64 63)).toInt64) &&& (6148914691236517205 : Int64))) &&& (3689348814741910323 : Int64)) + ((((x - (((x.toUInt64 >>> ((1 : Int32).toInt64.toUInt64 &&& Int64.toUInt64 63)).toInt64) &&& (6148914691236517205 : Int64))).toUInt64 >>> ((2 : Int32).toInt64.toUInt64 &&& Int64.toUInt64 63)).toInt64) &&& (3689348814741910323 : Int64))) + (((((x - (((x.toUInt64 >>> ((1 : Int32).toInt64.toUInt64 &&& Int64.toUInt64 63)).toInt64) &&& (6148914691236517205 : Int64))) &&& (3689348814741910323 : Int64)) + ((((x - (((x.toUInt64 >>> ((1 : Int32).toInt64.toUInt64 &&& Int64.toUInt64 63)).toInt64) &&& (6148914691236517205 : Int64))).toUInt64 >>> ((2 : Int32).toInt64.toUInt64 &&& Int64.toUInt64 63)).toInt64) &&& (3689348814741910323 : Int64))).toUInt64 >>> ((4 : Int32).toInt64.toUInt64 &&& Int64.toUInt64 63)).toInt64)) &&& (1085102592571150095 : Int64)) + (((((((x - (((x.toUInt64 >>> ((1 : Int32).toInt64.toUInt64 &&& Int64.toUInt64 63)).toInt64) &&& (6148914691236517205 : Int64))) &&& (3689348814741910323 : Int64)) + ((((x - (((x.toUInt64 >>> ((1 : Int32).toInt64.toUInt64 &&& Int64.toUInt64 63)).toInt64) &&& (6148914691236517205 : Int64))).toUInt64 >>> ((2 : Int32).toInt64.toUInt64 &&& Int64.toUInt64 63)).toInt64) &&& (3689348814741910323 : Int64))) + (((((x - (((x.toUInt64 >>> ((1 : Int32).toInt64.toUInt64 &&& Int64.toUInt64 63)).toInt64) &&& (6148914691236517205 : Int64))) &&& (3689348814741910323 : Int64)) + ((((x - (((x.toUInt64 >>> ((1 : Int32).toInt64.toUInt64 &&& Int64.toUInt64 63)).toInt64) &&& (6148914691236517205 : Int64))).toUInt64 >>> ((2 : Int32).toInt64.toUInt64 &&& Int64.toUInt64 63)).toInt64) &&& (3689348814741910323 : Int64))).toUInt64 >>> ((4 : Int32).toInt64.toUInt64 &&& Int64.toUInt64 63)).toInt64)) &&& (1085102592571150095 : Int64)).toUInt64 >>> ((8 : Int32).toInt64.toUInt64 &&& Int64.toUInt64 63)).toInt64)).toUInt64 >>> ((16 : Int32).toInt64.toUInt64 &&& Int64.toUInt64 63)).toInt64)) + (((((((((x - (((x.toUInt64 >>> ((1 : Int32).toInt64.toUInt64 &&& Int64.toUInt64 63)).toInt64) &&& (6148914691236517205 : Int64))) &&& (3689348814741910323 : Int64)) + ((((x - (((x.toUInt64 >>> ((1 : Int32).toInt64.toUInt64 &&& Int64.toUInt64 63)).toInt64) &&& (6148914691236517205 : Int64))).toUInt64 >>> ((2 : Int32).toInt64.toUInt64 &&& Int64.toUInt64 63)).toInt64) &&& (3689348814741910323 : Int64))) + (((((x - (((x.toUInt64 >>> ((1 : Int32).toInt64.toUInt64 &&& Int64.toUInt64 63)).toInt64) &&& (6148914691236517205 : Int64))) &&& (3689348814741910323 : Int64)) + ((((x - (((x.toUInt64 >>> ((1 : Int32).toInt64.toUInt64 &&& Int64.toUInt64 63)).toInt64) &&& (6148914691236517205 : Int64))).toUInt64 >>> ((2 : Int32).toInt64.toUInt64 &&& Int64.toUInt64 63)).toInt64) &&& (3689348814741910323 : Int64))).toUInt64 >>> ((4 : Int32).toInt64.toUInt64 &&& Int64.toUInt64 63)).toInt64)) &&& (1085102592571150095 : Int64)) + (((((((x - (((x.toUInt64 >>> ((1 : Int32).toInt64.toUInt64 &&& Int64.toUInt64 63)).toInt64) &&& (6148914691236517205 : Int64))) &&& (3689348814741910323 : Int64)) + ((((x - (((x.toUInt64 >>> ((1 : Int32).toInt64.toUInt64 &&& Int64.toUInt64 63)).toInt64) &&& (6148914691236517205 : Int64))).toUInt64 >>> ((2 : Int32).toInt64.toUInt64 &&& Int64.toUInt64 63)).toInt64) &&& (3689348814741910323 : Int64))) + (((((x - (((x.toUInt64 >>> ((1 : Int32).toInt64.toUInt64 &&& Int64.toUInt64 63)).toInt64) &&& (6148914691236517205 : Int64))) &&& (3689348814741910323 : Int64)) + ((((x - (((x.toUInt64 >>> ((1 : Int32).toInt64.toUInt64 &&& Int64.toUInt64 63)).toInt64) &&& (6148914691236517205 : Int64))).toUInt64 >>> ((2 : Int32).toInt64.toUInt64 &&& Int64.toUInt64 63)).toInt64) &&& (3689348814741910323 : Int64))).toUInt64 >>> ((4 : Int32).toInt64.toUInt64 &&& Int64.toUInt64 63)).toInt64)) &&& (1085102592571150095 : Int64)).toUInt64 >>> ((8 : Int32).toInt64.toUInt64 &&& Int64.toUInt64 63)).toInt64)) + ((((((((x - (((x.toUInt64 >>> ((1 : Int32).toInt64.toUInt64 &&& Int64.toUInt64 63)).toInt64) &&& (6148914691236517205 : Int64))) &&& (3689348814741910323 : Int64)) + ((((x - (((x.toUInt64 >>> ((1 : Int32).toInt64.toUInt64 &&& Int64.toUInt64 63)).toInt64) &&& (6148914691236517205 : Int64))).toUInt64 >>> ((2 : Int32).toInt64.toUInt64 &&& Int64.toUInt64 63)).toInt64) &&& (3689348814741910323 : Int64))) + (((((x - (((x.toUInt64 >>> ((1 : Int32).toInt64.toUInt64 &&& Int64.toUInt64 63)).toInt64) &&& (6148914691236517205 : Int64))) &&& (3689348814741910323 : Int64)) + ((((x - (((x.toUInt64 >>> ((1 : Int32).toInt64.toUInt64 &&& Int64.toUInt64 63)).toInt64) &&& (6148914691236517205 : Int64))).toUInt64 >>> ((2 : Int32).toInt64.toUInt64 &&& Int64.toUInt64 63)).toInt64) &&& (3689348814741910323 : Int64))).toUInt64 >>> ((4 : Int32).toInt64.toUInt64 &&& Int64.toUInt64 63)).toInt64)) &&& (1085102592571150095 : Int64)) + (((((((x - (((x.toUInt64 >>> ((1 : Int32).toInt64.toUInt64 &&& Int64.toUInt64 63)).toInt64) &&& (6148914691236517205 : Int64))) &&& (3689348814741910323 : Int64)) + ((((x - (((x.toUInt64 >>> ((1 : Int32).toInt64.toUInt64 &&& Int64.toUInt64 63)).toInt64) &&& (6148914691236517205 : Int64))).toUInt64 >>> ((2 : Int32).toInt64.toUInt64 &&& Int64.toUInt64 63)).toInt64) &&& (3689348814741910323 : Int64))) + (((((x - (((x.toUInt64 >>> ((1 : Int32).toInt64.toUInt64 &&& Int64.toUInt64 63)).toInt64) &&& (6148914691236517205 : Int64))) &&& (3689348814741910323 : Int64)) + ((((x - (((x.toUInt64 >>> ((1 : Int32).toInt64.toUInt64 &&& Int64.toUInt64 63)).toInt64) &&& (6148914691236517205 : Int64))).toUInt64 >>> ((2 : Int32).toInt64.toUInt64 &&& Int64.toUInt64 63)).toInt64) &&& (3689348814741910323 : Int64))).toUInt64 >>> ((4 : Int32).toInt64.toUInt64 &&& Int64.toUInt64 63)).toInt64)) &&& (1085102592571150095 : Int64)).toUInt64 >>> ((8 : Int32).toInt64.toUInt64 &&& Int64.toUInt64 63)).toInt64)).toUInt64 >>> ((16 : Int32).toInt64.toUInt64 &&& Int64.toUInt64 63)).toInt64)).toUInt64 >>> ((32 : Int32).toInt64.toUInt64 &&& Int64.toUInt64 63)).toInt64)).toInt32) &&& (127 : Int32)))) ⟨d_K_bitCount_60, _, rfl, rfl⟩ ⟨rfl, rfl⟩
def f_J_floorMod (x y : Int32) : Int32 := if 0 ≤ (x ^^^ y) then (x - x / y * y) else (if (x - x / y * y) = 0 then (x - x / y * y) else ((x - x / y * y) + y))
set_option maxRecDepth 100000 in
set_option maxHeartbeats 4000000 in
theorem c_J_floorMod (x y : Int32) (hy : ¬ y = 0) : Ct m_J_floorMod 0 0 [.int x, .int y] (cs) (vm_is (some (.int (f_J_floorMod x y))) (cs)) := by
  refine Ct.ofF ⟨by decide +kernel, rfl⟩ (Nat.le_of_ble_eq_true rfl) (lv := [some (.int x), some (.int y), none]) rfl ?_
  refine Run.blk (gs := [True, True, ¬ y = 0, True, True, True, True]) (S' := ([some (.int x), some (.int y), some (.int (x - x / y * y))], [.int (x ^^^ y)], cs)) k_J_floorMod_0 kc_J_floorMod_0 rfl ⟨trivial, trivial, hy, trivial, trivial, trivial, trivial, trivial⟩ ?_
  refine Run.br (tgt := 18) d_J_floorMod_7 rfl (by decide) (fun c_1 => ?_) (fun c_1 => ?_)
  · refine Run.blk (gs := [True]) (S' := ([some (.int x), some (.int y), some (.int (x - x / y * y))], [.int (x - x / y * y)], cs)) k_J_floorMod_18 kc_J_floorMod_18 rfl ⟨trivial, trivial⟩ ?_
    exact Run.ret (r := some (.int (x - x / y * y))) ⟨d_J_floorMod_19, _, rfl, rfl⟩ ⟨by unfold f_J_floorMod; rw [if_pos c_1], rfl⟩
  · refine Run.blk (gs := [True]) (S' := ([some (.int x), some (.int y), some (.int (x - x / y * y))], [.int (x - x / y * y)], cs)) k_J_floorMod_10 kc_J_floorMod_10 rfl ⟨trivial, trivial⟩ ?_
    refine Run.br (tgt := 18) d_J_floorMod_11 rfl (by decide) (fun c_2 => ?_) (fun c_2 => ?_)
    · refine Run.blk (gs := [True]) (S' := ([some (.int x), some (.int y), some (.int (x - x / y * y))], [.int (x - x / y * y)], cs)) k_J_floorMod_18 kc_J_floorMod_18 rfl ⟨trivial, trivial⟩ ?_
      exact Run.ret (r := some (.int (x - x / y * y))) ⟨d_J_floorMod_19, _, rfl, rfl⟩ ⟨by unfold f_J_floorMod; rw [if_neg c_1, if_pos c_2], rfl⟩
    · refine Run.blk (gs := [True, True, True]) (S' := ([some (.int x), some (.int y), some (.int (x - x / y * y))], [.int ((x - x / y * y) + y)], cs)) k_J_floorMod_14 kc_J_floorMod_14 rfl ⟨trivial, trivial, trivial, trivial⟩ ?_
      exact Run.ret (r := some (.int ((x - x / y * y) + y))) ⟨d_J_floorMod_17, _, rfl, rfl⟩ ⟨by unfold f_J_floorMod; rw [if_neg c_1, if_neg c_2], rfl⟩
def f_J_floorDiv (x y : Int32) : Int32 := if 0 ≤ (x ^^^ y) then (x / y) else (if ((x / y) * y) = x then (x / y) else ((x / y) - (1 : Int32)))
set_option maxRecDepth 100000 in
set_option maxHeartbeats 4000000 in
theorem c_J_floorDiv (x y : Int32) (hy : ¬ y = 0) : Ct m_J_floorDiv 0 0 [.int x, .int y] (cs) (vm_is (some (.int (f_J_floorDiv x y))) (cs)) := by
  refine Ct.ofF ⟨by decide +kernel, rfl⟩ (Nat.le_of_ble_eq_true rfl) (lv := [some (.int x), some (.int y), none]) rfl ?_
  refine Run.blk (gs := [True, True, ¬ y = 0, True, True, True, True]) (S' := ([some (.int x), some (.int y), some (.int (x / y))], [.int (x ^^^ y)], cs)) k_J_floorDiv_0 kc_J_floorDiv_0 rfl ⟨trivial, trivial, hy, trivial, trivial, trivial, trivial, trivial⟩ ?_
  refine Run.br (tgt := 21) d_J_floorDiv_7 rfl (by decide) (fun c_1 => ?_) (fun c_1 => ?_)
  · refine Run.blk (gs := [True]) (S' := ([some (.int x), some (.int y), some (.int (x / y))], [.int (x / y)], cs)) k_J_floorDiv_21 kc_J_floorDiv_21 rfl ⟨trivial, trivial⟩ ?_
    exact Run.ret (r := some (.int (x / y))) ⟨d_J_floorDiv_22, _, rfl, rfl⟩ ⟨by unfold f_J_floorDiv; rw [if_pos c_1], rfl⟩
  · refine Run.blk (gs := [True, True, True, True]) (S' := ([some (.int x), some (.int y), some (.int (x / y))], [.int x, .int ((x / y) * y)], cs)) k_J_floorDiv_10 kc_J_floorDiv_10 rfl ⟨trivial, trivial, trivial, trivial, trivial⟩ ?_
    refine Run.br (tgt := 21) d_J_floorDiv_14 rfl (by decide) (fun c_2 => ?_) (fun c_2 => ?_)
    · refine Run.blk (gs := [True]) (S' := ([some (.int x), some (.int y), some (.int (x / y))], [.int (x / y)], cs)) k_J_floorDiv_21 kc_J_floorDiv_21 rfl ⟨trivial, trivial⟩ ?_
      exact Run.ret (r := some (.int (x / y))) ⟨d_J_floorDiv_22, _, rfl, rfl⟩ ⟨by unfold f_J_floorDiv; rw [if_neg c_1, if_pos c_2], rfl⟩
    · refine Run.blk (gs := [True, True, True]) (S' := ([some (.int x), some (.int y), some (.int (x / y))], [.int ((x / y) - (1 : Int32))], cs)) k_J_floorDiv_17 kc_J_floorDiv_17 rfl ⟨trivial, trivial, trivial, trivial⟩ ?_
      exact Run.ret (r := some (.int ((x / y) - (1 : Int32)))) ⟨d_J_floorDiv_20, _, rfl, rfl⟩ ⟨by unfold f_J_floorDiv; rw [if_neg c_1, if_neg c_2], rfl⟩
theorem t1 : (1 : Int32).toInt = 1 := by decide
theorem t2 : (2 : Int32).toInt = 2 := by decide
theorem t4 : (4 : Int32).toInt = 4 := by decide
theorem t64 : (64 : Int32).toInt = 64 := by decide
theorem i32_sub {a b : Int32} (h1 : -2 ^ 30 ≤ a.toInt) (h2 : a.toInt < 2 ^ 30) (h3 : -2 ^ 30 ≤ b.toInt) (h4 : b.toInt < 2 ^ 30) : (a - b).toInt = a.toInt - b.toInt := by
  rw [Int32.toInt_sub]
  simp only [Int.bmod]
  split <;> omega
set_option maxRecDepth 100000 in
set_option maxHeartbeats 4000000 in
theorem c_L_isPage (x : Int32) : Ct m_L_isPage 0 0 [.int x] (cs) (vm_is (some (.int (if 0 ≤ x.toInt ∧ x.toInt < 64 then 1 else 0))) (cs)) := by
  refine Ct.of ⟨by decide +kernel, rfl⟩ (Nat.le_of_ble_eq_true rfl) (lv := [some (.int x)]) rfl ?_
  refine Run.blk (gs := [True]) (S' := ([some (.int x)], [.int x], cs)) k_L_isPage_0 kc_L_isPage_0 rfl ⟨trivial, trivial⟩ ?_
  refine Run.br (tgt := 14) d_L_isPage_1 rfl (by decide) (fun c_1 => ?_) (fun c_1 => ?_)
  · refine Run.blk (gs := [True]) (S' := ([some (.int x)], [.int (0 : Int32)], cs)) k_L_isPage_14 kc_L_isPage_14 rfl ⟨trivial, trivial⟩ ?_
    exact Run.ret (r := some (.int (0 : Int32))) ⟨d_L_isPage_15, _, rfl, rfl⟩ ⟨by simp only [← Int32.toInt_inj, Int32.lt_iff_toInt_lt, Int32.le_iff_toInt_le, t0, t1, t2, t4, t64] at c_1; rw [if_neg (by omega)], rfl⟩
  · refine Run.blk (gs := [True, True]) (S' := ([some (.int x)], [.int (64 : Int32), .int x], cs)) k_L_isPage_4 kc_L_isPage_4 rfl ⟨trivial, trivial, trivial⟩ ?_
    refine Run.br (tgt := 14) d_L_isPage_7 rfl (by decide) (fun c_2 => ?_) (fun c_2 => ?_)
    · refine Run.blk (gs := [True]) (S' := ([some (.int x)], [.int (0 : Int32)], cs)) k_L_isPage_14 kc_L_isPage_14 rfl ⟨trivial, trivial⟩ ?_
      exact Run.ret (r := some (.int (0 : Int32))) ⟨d_L_isPage_15, _, rfl, rfl⟩ ⟨by simp only [← Int32.toInt_inj, Int32.lt_iff_toInt_lt, Int32.le_iff_toInt_le, t0, t1, t2, t4, t64] at c_1 c_2; rw [if_neg (by omega)], rfl⟩
    · refine Run.blk (gs := [True]) (S' := ([some (.int x)], [.int (1 : Int32)], cs)) k_L_isPage_10 kc_L_isPage_10 rfl ⟨trivial, trivial⟩ ?_
      refine Run.goto (tgt := 15) d_L_isPage_11 (by decide) ?_
      exact Run.ret (r := some (.int (1 : Int32))) ⟨d_L_isPage_15, _, rfl, rfl⟩ ⟨by simp only [← Int32.toInt_inj, Int32.lt_iff_toInt_lt, Int32.le_iff_toInt_le, t0, t1, t2, t4, t64] at c_1 c_2; rw [if_pos (by omega)], rfl⟩
set_option maxRecDepth 100000 in
set_option maxHeartbeats 4000000 in
theorem c_L_isSize (x : Int32) : Ct m_L_isSize 0 0 [.int x] (cs) (vm_is (some (.int (if x.toInt = 1 ∨ x.toInt = 2 ∨ x.toInt = 4 then 1 else 0))) (cs)) := by
  refine Ct.of ⟨by decide +kernel, rfl⟩ (Nat.le_of_ble_eq_true rfl) (lv := [some (.int x)]) rfl ?_
  refine Run.blk (gs := [True, True]) (S' := ([some (.int x)], [.int (1 : Int32), .int x], cs)) k_L_isSize_0 kc_L_isSize_0 rfl ⟨trivial, trivial, trivial⟩ ?_
  refine Run.br (tgt := 15) d_L_isSize_2 rfl (by decide) (fun c_1 => ?_) (fun c_1 => ?_)
  · refine Run.blk (gs := [True]) (S' := ([some (.int x)], [.int (1 : Int32)], cs)) k_L_isSize_15 kc_L_isSize_15 rfl ⟨trivial, trivial⟩ ?_
    refine Run.goto (tgt := 20) d_L_isSize_16 (by decide) ?_
    exact Run.ret (r := some (.int (1 : Int32))) ⟨d_L_isSize_20, _, rfl, rfl⟩ ⟨by simp only [← Int32.toInt_inj, Int32.lt_iff_toInt_lt, Int32.le_iff_toInt_le, t0, t1, t2, t4, t64] at c_1; rw [if_pos (by omega)], rfl⟩
  · refine Run.blk (gs := [True, True]) (S' := ([some (.int x)], [.int (2 : Int32), .int x], cs)) k_L_isSize_5 kc_L_isSize_5 rfl ⟨trivial, trivial, trivial⟩ ?_
    refine Run.br (tgt := 15) d_L_isSize_7 rfl (by decide) (fun c_2 => ?_) (fun c_2 => ?_)
    · refine Run.blk (gs := [True]) (S' := ([some (.int x)], [.int (1 : Int32)], cs)) k_L_isSize_15 kc_L_isSize_15 rfl ⟨trivial, trivial⟩ ?_
      refine Run.goto (tgt := 20) d_L_isSize_16 (by decide) ?_
      exact Run.ret (r := some (.int (1 : Int32))) ⟨d_L_isSize_20, _, rfl, rfl⟩ ⟨by simp only [← Int32.toInt_inj, Int32.lt_iff_toInt_lt, Int32.le_iff_toInt_le, t0, t1, t2, t4, t64] at c_1 c_2; rw [if_pos (by omega)], rfl⟩
    · refine Run.blk (gs := [True, True]) (S' := ([some (.int x)], [.int (4 : Int32), .int x], cs)) k_L_isSize_10 kc_L_isSize_10 rfl ⟨trivial, trivial, trivial⟩ ?_
      refine Run.br (tgt := 19) d_L_isSize_12 rfl (by decide) (fun c_3 => ?_) (fun c_3 => ?_)
      · refine Run.blk (gs := [True]) (S' := ([some (.int x)], [.int (0 : Int32)], cs)) k_L_isSize_19 kc_L_isSize_19 rfl ⟨trivial, trivial⟩ ?_
        exact Run.ret (r := some (.int (0 : Int32))) ⟨d_L_isSize_20, _, rfl, rfl⟩ ⟨by simp only [← Int32.toInt_inj, Int32.lt_iff_toInt_lt, Int32.le_iff_toInt_le, t0, t1, t2, t4, t64] at c_1 c_2 c_3; rw [if_neg (by omega)], rfl⟩
      · have c_3 := Classical.not_not.mp c_3
        refine Run.blk (gs := [True]) (S' := ([some (.int x)], [.int (1 : Int32)], cs)) k_L_isSize_15 kc_L_isSize_15 rfl ⟨trivial, trivial⟩ ?_
        refine Run.goto (tgt := 20) d_L_isSize_16 (by decide) ?_
        exact Run.ret (r := some (.int (1 : Int32))) ⟨d_L_isSize_20, _, rfl, rfl⟩ ⟨by simp only [← Int32.toInt_inj, Int32.lt_iff_toInt_lt, Int32.le_iff_toInt_le, t0, t1, t2, t4, t64] at c_1 c_2 c_3; rw [if_pos (by omega)], rfl⟩
set_option maxRecDepth 100000 in
set_option maxHeartbeats 4000000 in
theorem c_L_arePages (x y : Int32) : Ct m_L_arePages 0 0 [.int x, .int y] (cs) (vm_is (some (.int (if y.toInt = 0 ∨ (0 < y.toInt ∧ y.toInt ≤ 64 ∧ 0 ≤ x.toInt ∧ x.toInt ≤ 64 - y.toInt) then 1 else 0))) (cs)) := by
  refine Ct.of ⟨by decide +kernel, rfl⟩ (Nat.le_of_ble_eq_true rfl) (lv := [some (.int x), some (.int y)]) rfl ?_
  refine Run.blk (gs := [True]) (S' := ([some (.int x), some (.int y)], [.int y], cs)) k_L_arePages_0 kc_L_arePages_0 rfl ⟨trivial, trivial⟩ ?_
  refine Run.br (tgt := 26) d_L_arePages_1 rfl (by decide) (fun c_1 => ?_) (fun c_1 => ?_)
  · refine Run.blk (gs := [True]) (S' := ([some (.int x), some (.int y)], [.int (1 : Int32)], cs)) k_L_arePages_26 kc_L_arePages_26 rfl ⟨trivial, trivial⟩ ?_
    refine Run.goto (tgt := 31) d_L_arePages_27 (by decide) ?_
    exact Run.ret (r := some (.int (1 : Int32))) ⟨d_L_arePages_31, _, rfl, rfl⟩ ⟨by simp only [← Int32.toInt_inj, Int32.lt_iff_toInt_lt, Int32.le_iff_toInt_le, t0, t1, t2, t4, t64] at c_1; rw [if_pos (by omega)], rfl⟩
  · refine Run.blk (gs := [True]) (S' := ([some (.int x), some (.int y)], [.int y], cs)) k_L_arePages_4 kc_L_arePages_4 rfl ⟨trivial, trivial⟩ ?_
    refine Run.br (tgt := 30) d_L_arePages_5 rfl (by decide) (fun c_2 => ?_) (fun c_2 => ?_)
    · refine Run.blk (gs := [True]) (S' := ([some (.int x), some (.int y)], [.int (0 : Int32)], cs)) k_L_arePages_30 kc_L_arePages_30 rfl ⟨trivial, trivial⟩ ?_
      exact Run.ret (r := some (.int (0 : Int32))) ⟨d_L_arePages_31, _, rfl, rfl⟩ ⟨by simp only [← Int32.toInt_inj, Int32.lt_iff_toInt_lt, Int32.le_iff_toInt_le, t0, t1, t2, t4, t64] at c_1 c_2; rw [if_neg (by omega)], rfl⟩
    · refine Run.blk (gs := [True, True]) (S' := ([some (.int x), some (.int y)], [.int (64 : Int32), .int y], cs)) k_L_arePages_8 kc_L_arePages_8 rfl ⟨trivial, trivial, trivial⟩ ?_
      refine Run.br (tgt := 30) d_L_arePages_11 rfl (by decide) (fun c_3 => ?_) (fun c_3 => ?_)
      · refine Run.blk (gs := [True]) (S' := ([some (.int x), some (.int y)], [.int (0 : Int32)], cs)) k_L_arePages_30 kc_L_arePages_30 rfl ⟨trivial, trivial⟩ ?_
        exact Run.ret (r := some (.int (0 : Int32))) ⟨d_L_arePages_31, _, rfl, rfl⟩ ⟨by simp only [← Int32.toInt_inj, Int32.lt_iff_toInt_lt, Int32.le_iff_toInt_le, t0, t1, t2, t4, t64] at c_1 c_2 c_3; rw [if_neg (by omega)], rfl⟩
      · refine Run.blk (gs := [True]) (S' := ([some (.int x), some (.int y)], [.int x], cs)) k_L_arePages_14 kc_L_arePages_14 rfl ⟨trivial, trivial⟩ ?_
        refine Run.br (tgt := 30) d_L_arePages_15 rfl (by decide) (fun c_4 => ?_) (fun c_4 => ?_)
        · refine Run.blk (gs := [True]) (S' := ([some (.int x), some (.int y)], [.int (0 : Int32)], cs)) k_L_arePages_30 kc_L_arePages_30 rfl ⟨trivial, trivial⟩ ?_
          exact Run.ret (r := some (.int (0 : Int32))) ⟨d_L_arePages_31, _, rfl, rfl⟩ ⟨by simp only [← Int32.toInt_inj, Int32.lt_iff_toInt_lt, Int32.le_iff_toInt_le, t0, t1, t2, t4, t64] at c_1 c_2 c_3 c_4; rw [if_neg (by omega)], rfl⟩
        · refine Run.blk (gs := [True, True, True, True]) (S' := ([some (.int x), some (.int y)], [.int ((64 : Int32) - y), .int x], cs)) k_L_arePages_18 kc_L_arePages_18 rfl ⟨trivial, trivial, trivial, trivial, trivial⟩ ?_
          refine Run.br (tgt := 30) d_L_arePages_23 rfl (by decide) (fun c_5 => ?_) (fun c_5 => ?_)
          · refine Run.blk (gs := [True]) (S' := ([some (.int x), some (.int y)], [.int (0 : Int32)], cs)) k_L_arePages_30 kc_L_arePages_30 rfl ⟨trivial, trivial⟩ ?_
            have hs := i32_sub (a := 64) (b := y) (by decide) (by decide) (by simp only [← Int32.toInt_inj, Int32.lt_iff_toInt_lt, Int32.le_iff_toInt_le, t0, t1, t2, t4, t64] at *; omega) (by simp only [← Int32.toInt_inj, Int32.lt_iff_toInt_lt, Int32.le_iff_toInt_le, t0, t1, t2, t4, t64] at *; omega)
            exact Run.ret (r := some (.int (0 : Int32))) ⟨d_L_arePages_31, _, rfl, rfl⟩ ⟨by simp only [← Int32.toInt_inj, Int32.lt_iff_toInt_lt, Int32.le_iff_toInt_le, t0, t1, t2, t4, t64, hs] at c_1 c_2 c_3 c_4 c_5; rw [if_neg (by omega)], rfl⟩
          · refine Run.blk (gs := [True]) (S' := ([some (.int x), some (.int y)], [.int (1 : Int32)], cs)) k_L_arePages_26 kc_L_arePages_26 rfl ⟨trivial, trivial⟩ ?_
            refine Run.goto (tgt := 31) d_L_arePages_27 (by decide) ?_
            have hs := i32_sub (a := 64) (b := y) (by decide) (by decide) (by simp only [← Int32.toInt_inj, Int32.lt_iff_toInt_lt, Int32.le_iff_toInt_le, t0, t1, t2, t4, t64] at *; omega) (by simp only [← Int32.toInt_inj, Int32.lt_iff_toInt_lt, Int32.le_iff_toInt_le, t0, t1, t2, t4, t64] at *; omega)
            exact Run.ret (r := some (.int (1 : Int32))) ⟨d_L_arePages_31, _, rfl, rfl⟩ ⟨by simp only [← Int32.toInt_inj, Int32.lt_iff_toInt_lt, Int32.le_iff_toInt_le, t0, t1, t2, t4, t64, hs] at c_1 c_2 c_3 c_4 c_5; rw [if_pos (by omega)], rfl⟩
set_option maxRecDepth 100000 in
set_option maxHeartbeats 4000000 in
theorem c_M_in (x a b : Int32) : Ct m_M_in 0 0 [.int x, .int a, .int b] (cs) (vm_is (some (.int (if a.toInt ≤ x.toInt ∧ x.toInt ≤ b.toInt then 1 else 0))) (cs)) := by
  refine Ct.of ⟨by decide +kernel, rfl⟩ (Nat.le_of_ble_eq_true rfl) (lv := [some (.int x), some (.int a), some (.int b)]) rfl ?_
  refine Run.blk (gs := [True, True]) (S' := ([some (.int x), some (.int a), some (.int b)], [.int a, .int x], cs)) k_M_in_0 kc_M_in_0 rfl ⟨trivial, trivial, trivial⟩ ?_
  refine Run.br (tgt := 14) d_M_in_2 rfl (by decide) (fun c_1 => ?_) (fun c_1 => ?_)
  · refine Run.blk (gs := [True]) (S' := ([some (.int x), some (.int a), some (.int b)], [.int (0 : Int32)], cs)) k_M_in_14 kc_M_in_14 rfl ⟨trivial, trivial⟩ ?_
    exact Run.ret (r := some (.int (0 : Int32))) ⟨d_M_in_15, _, rfl, rfl⟩ ⟨by simp only [← Int32.toInt_inj, Int32.lt_iff_toInt_lt, Int32.le_iff_toInt_le, t0, t1, t2, t4, t64] at c_1; rw [if_neg (by omega)], rfl⟩
  · refine Run.blk (gs := [True, True]) (S' := ([some (.int x), some (.int a), some (.int b)], [.int b, .int x], cs)) k_M_in_5 kc_M_in_5 rfl ⟨trivial, trivial, trivial⟩ ?_
    refine Run.br (tgt := 14) d_M_in_7 rfl (by decide) (fun c_2 => ?_) (fun c_2 => ?_)
    · refine Run.blk (gs := [True]) (S' := ([some (.int x), some (.int a), some (.int b)], [.int (0 : Int32)], cs)) k_M_in_14 kc_M_in_14 rfl ⟨trivial, trivial⟩ ?_
      exact Run.ret (r := some (.int (0 : Int32))) ⟨d_M_in_15, _, rfl, rfl⟩ ⟨by simp only [← Int32.toInt_inj, Int32.lt_iff_toInt_lt, Int32.le_iff_toInt_le, t0, t1, t2, t4, t64] at c_1 c_2; rw [if_neg (by omega)], rfl⟩
    · refine Run.blk (gs := [True]) (S' := ([some (.int x), some (.int a), some (.int b)], [.int (1 : Int32)], cs)) k_M_in_10 kc_M_in_10 rfl ⟨trivial, trivial⟩ ?_
      refine Run.goto (tgt := 15) d_M_in_11 (by decide) ?_
      exact Run.ret (r := some (.int (1 : Int32))) ⟨d_M_in_15, _, rfl, rfl⟩ ⟨by simp only [← Int32.toInt_inj, Int32.lt_iff_toInt_lt, Int32.le_iff_toInt_le, t0, t1, t2, t4, t64] at c_1 c_2; rw [if_pos (by omega)], rfl⟩
set_option maxRecDepth 100000 in
set_option maxHeartbeats 4000000 in
theorem c_M_isWide (x : Int32) : Ct m_M_isWide 0 0 [.int x] (cs) (vm_is (some (.int (if x.toInt = 1 ∨ x.toInt = 2 ∨ x.toInt = 4 then 1 else 0))) (cs)) := by
  refine Ct.of ⟨by decide +kernel, rfl⟩ (Nat.le_of_ble_eq_true rfl) (lv := [some (.int x)]) rfl ?_
  refine Run.blk (gs := [True, True]) (S' := ([some (.int x)], [.int (1 : Int32), .int x], cs)) k_M_isWide_0 kc_M_isWide_0 rfl ⟨trivial, trivial, trivial⟩ ?_
  refine Run.br (tgt := 15) d_M_isWide_2 rfl (by decide) (fun c_1 => ?_) (fun c_1 => ?_)
  · refine Run.blk (gs := [True]) (S' := ([some (.int x)], [.int (1 : Int32)], cs)) k_M_isWide_15 kc_M_isWide_15 rfl ⟨trivial, trivial⟩ ?_
    refine Run.goto (tgt := 20) d_M_isWide_16 (by decide) ?_
    exact Run.ret (r := some (.int (1 : Int32))) ⟨d_M_isWide_20, _, rfl, rfl⟩ ⟨by simp only [← Int32.toInt_inj, Int32.lt_iff_toInt_lt, Int32.le_iff_toInt_le, t0, t1, t2, t4, t64] at c_1; rw [if_pos (by omega)], rfl⟩
  · refine Run.blk (gs := [True, True]) (S' := ([some (.int x)], [.int (2 : Int32), .int x], cs)) k_M_isWide_5 kc_M_isWide_5 rfl ⟨trivial, trivial, trivial⟩ ?_
    refine Run.br (tgt := 15) d_M_isWide_7 rfl (by decide) (fun c_2 => ?_) (fun c_2 => ?_)
    · refine Run.blk (gs := [True]) (S' := ([some (.int x)], [.int (1 : Int32)], cs)) k_M_isWide_15 kc_M_isWide_15 rfl ⟨trivial, trivial⟩ ?_
      refine Run.goto (tgt := 20) d_M_isWide_16 (by decide) ?_
      exact Run.ret (r := some (.int (1 : Int32))) ⟨d_M_isWide_20, _, rfl, rfl⟩ ⟨by simp only [← Int32.toInt_inj, Int32.lt_iff_toInt_lt, Int32.le_iff_toInt_le, t0, t1, t2, t4, t64] at c_1 c_2; rw [if_pos (by omega)], rfl⟩
    · refine Run.blk (gs := [True, True]) (S' := ([some (.int x)], [.int (4 : Int32), .int x], cs)) k_M_isWide_10 kc_M_isWide_10 rfl ⟨trivial, trivial, trivial⟩ ?_
      refine Run.br (tgt := 19) d_M_isWide_12 rfl (by decide) (fun c_3 => ?_) (fun c_3 => ?_)
      · refine Run.blk (gs := [True]) (S' := ([some (.int x)], [.int (0 : Int32)], cs)) k_M_isWide_19 kc_M_isWide_19 rfl ⟨trivial, trivial⟩ ?_
        exact Run.ret (r := some (.int (0 : Int32))) ⟨d_M_isWide_20, _, rfl, rfl⟩ ⟨by simp only [← Int32.toInt_inj, Int32.lt_iff_toInt_lt, Int32.le_iff_toInt_le, t0, t1, t2, t4, t64] at c_1 c_2 c_3; rw [if_neg (by omega)], rfl⟩
      · have c_3 := Classical.not_not.mp c_3
        refine Run.blk (gs := [True]) (S' := ([some (.int x)], [.int (1 : Int32)], cs)) k_M_isWide_15 kc_M_isWide_15 rfl ⟨trivial, trivial⟩ ?_
        refine Run.goto (tgt := 20) d_M_isWide_16 (by decide) ?_
        exact Run.ret (r := some (.int (1 : Int32))) ⟨d_M_isWide_20, _, rfl, rfl⟩ ⟨by simp only [← Int32.toInt_inj, Int32.lt_iff_toInt_lt, Int32.le_iff_toInt_le, t0, t1, t2, t4, t64] at c_1 c_2 c_3; rw [if_pos (by omega)], rfl⟩
theorem nI_m1 {z : Nat} (h : ¬ nI z ≤ 0) (hz : z ≤ 900) : nI z - 1 = nI (z - 1) := by
  cases z with
  | zero => exact absurd (show nI 0 ≤ 0 by decide) h
  | succ k => exact nI_pred k
theorem nI_eq0 {a : Nat} (h : a < 2 ^ 31) : nI a = 0 ↔ a = 0 := nI_eq (b := 0) h (by decide)
set_option maxRecDepth 100000 in
set_option maxHeartbeats 4000000 in
theorem c_T_lacksLastZero {t : Nat → Nat} {z : Nat} (ht : ∀ j, t j < 256) (hz : z ≤ 900) : Ct m_T_lacksLastZero 0 0 [.ref 1] (Ac fp le lp lb il (sbf t) (nI z) bf rf fr mp sc ifp ib ie pw dh rl rb re sy sb rc sg ex) (vm_is (some (.int (if 0 < z ∧ ¬ t (z - 1) = 0 then 1 else 0))) (Ac fp le lp lb il (sbf t) (nI z) bf rf fr mp sc ifp ib ie pw dh rl rb re sy sb rc sg ex)) := by
  refine Ct.of ⟨by decide +kernel, rfl⟩ (Nat.le_of_ble_eq_true rfl) (lv := [some (.ref 1)]) rfl ?_
  refine Run.blk (gs := [True, True]) (S' := ([some (.ref 1)], [.int (nI z)], Ac fp le lp lb il (sbf t) (nI z) bf rf fr mp sc ifp ib ie pw dh rl rb re sy sb rc sg ex)) k_T_lacksLastZero_0 kc_T_lacksLastZero_0 rfl ⟨trivial, trivial, trivial⟩ ?_
  refine Run.br (tgt := 24) d_T_lacksLastZero_4 rfl (by decide) (fun c_1 => ?_) (fun c_1 => ?_)
  · refine Run.blk (gs := [True]) (S' := ([some (.ref 1)], [.int (0 : Int32)], Ac fp le lp lb il (sbf t) (nI z) bf rf fr mp sc ifp ib ie pw dh rl rb re sy sb rc sg ex)) k_T_lacksLastZero_24 kc_T_lacksLastZero_24 rfl ⟨trivial, trivial⟩ ?_
    have hz0 : ¬ 0 < z := fun q => absurd c_1 (nI_nle q (by omega))
    exact Run.ret (r := some (.int (0 : Int32))) ⟨d_T_lacksLastZero_25, _, rfl, rfl⟩ ⟨by rw [if_neg (fun q => hz0 q.1)], rfl⟩
  · refine Run.blk (gs := [True, True, True, True, True]) (S' := ([some (.ref 1)], [.int ((nI z) - (1 : Int32)), .ref 1], Ac fp le lp lb il (sbf t) (nI z) bf rf fr mp sc ifp ib ie pw dh rl rb re sy sb rc sg ex)) k_T_lacksLastZero_7 kc_T_lacksLastZero_7 rfl ⟨trivial, trivial, trivial, trivial, trivial, trivial⟩ ?_
    refine Run.callV (b := 1) (As := [.int ((nI z) - (1 : Int32))]) (rest := []) v_T_lacksLastZero_14 (c_T_byteAt ht hz (p := z - 1) (nI_m1 c_1 hz) (by omega)) rfl (Nat.le_of_ble_eq_true rfl) rfl rfl rfl rfl (fun r cs' hp => ?_)
    obtain ⟨rfl, rfl⟩ := hp
    show Run _ _ _ _ 17 ([some (.ref 1)], [.int (nI (tb t z (z - 1)))], Ac fp le lp lb il (sbf t) (nI z) bf rf fr mp sc ifp ib ie pw dh rl rb re sy sb rc sg ex) _
    refine Run.br (tgt := 24) d_T_lacksLastZero_17 rfl (by decide) (fun c_2 => ?_) (fun c_2 => ?_)
    · refine Run.blk (gs := [True]) (S' := ([some (.ref 1)], [.int (0 : Int32)], Ac fp le lp lb il (sbf t) (nI z) bf rf fr mp sc ifp ib ie pw dh rl rb re sy sb rc sg ex)) k_T_lacksLastZero_24 kc_T_lacksLastZero_24 rfl ⟨trivial, trivial⟩ ?_
      have hz0 : 0 < z := Nat.pos_of_ne_zero (fun q => c_1 (by rw [q]; decide))
      have e0 : tb t z (z - 1) = t (z - 1) := if_pos (by omega)
      have h256 := ht (z - 1)
      rw [e0, nI_eq0 (by omega)] at c_2
      exact Run.ret (r := some (.int (0 : Int32))) ⟨d_T_lacksLastZero_25, _, rfl, rfl⟩ ⟨by rw [if_neg (by omega)], rfl⟩
    · refine Run.blk (gs := [True]) (S' := ([some (.ref 1)], [.int (1 : Int32)], Ac fp le lp lb il (sbf t) (nI z) bf rf fr mp sc ifp ib ie pw dh rl rb re sy sb rc sg ex)) k_T_lacksLastZero_20 kc_T_lacksLastZero_20 rfl ⟨trivial, trivial⟩ ?_
      refine Run.goto (tgt := 25) d_T_lacksLastZero_21 (by decide) ?_
      have hz0 : 0 < z := Nat.pos_of_ne_zero (fun q => c_1 (by rw [q]; decide))
      have e0 : tb t z (z - 1) = t (z - 1) := if_pos (by omega)
      have h256 := ht (z - 1)
      rw [e0, nI_eq0 (by omega)] at c_2
      exact Run.ret (r := some (.int (1 : Int32))) ⟨d_T_lacksLastZero_25, _, rfl, rfl⟩ ⟨by rw [if_pos (by omega)], rfl⟩
set_option maxRecDepth 100000 in
set_option maxHeartbeats 4000000 in
theorem c_T_shorten {z k : Nat} (hz : z ≤ 900) (hk : k ≤ z) {x : Int32} (hx : x = nI k) : Ct m_T_shorten 0 0 [.ref 1, .int x] (Ac fp le lp lb il tf (nI z) bf rf fr mp sc ifp ib ie pw dh rl rb re sy sb rc sg ex) (vm_is none (Ac fp le lp lb il tf (nI k) bf rf fr mp sc ifp ib ie pw dh rl rb re sy sb rc sg ex)) := by
  subst hx
  refine Ct.of ⟨by decide +kernel, rfl⟩ (Nat.le_of_ble_eq_true rfl) (lv := [some (.ref 1), some (.int (nI k))]) rfl ?_
  refine Run.blk (gs := [True]) (S' := ([some (.ref 1), some (.int (nI k))], [.int (nI k)], Ac fp le lp lb il tf (nI z) bf rf fr mp sc ifp ib ie pw dh rl rb re sy sb rc sg ex)) k_T_shorten_0 kc_T_shorten_0 rfl ⟨trivial, trivial⟩ ?_
  refine Run.br (tgt := 17) d_T_shorten_1 rfl (by decide) (fun c_1 => ?_) (fun c_1 => ?_)
  · exact absurd c_1 (nI_pos (by omega))
  · refine Run.blk (gs := [True, True, True]) (S' := ([some (.ref 1), some (.int (nI k))], [.int (nI z), .int (nI k)], Ac fp le lp lb il tf (nI z) bf rf fr mp sc ifp ib ie pw dh rl rb re sy sb rc sg ex)) k_T_shorten_4 kc_T_shorten_4 rfl ⟨trivial, trivial, trivial, trivial⟩ ?_
    refine Run.br (tgt := 17) d_T_shorten_9 rfl (by decide) (fun c_2 => ?_) (fun c_2 => ?_)
    · have hk : k = z := by have := (nI_leI (a := z) (b := k) (by omega) (by omega)).mp c_2; omega
      subst hk
      exact Run.ret (r := none) ⟨d_T_shorten_17, rfl⟩ ⟨rfl, rfl⟩
    · refine Run.blk (gs := [True, True, True]) (S' := ([some (.ref 1), some (.int (nI k))], [], Ac fp le lp lb il tf (nI k) bf rf fr mp sc ifp ib ie pw dh rl rb re sy sb rc sg ex)) k_T_shorten_12 kc_T_shorten_12 rfl ⟨trivial, trivial, trivial, trivial⟩ ?_
      exact Run.ret (r := none) ⟨d_T_shorten_17, rfl⟩ ⟨rfl, rfl⟩
end P16
end
section
section P17
variable {fp le lp lb il : Int32} {tf bf rf : Nat → Int32} {tz fr mp sc ifp ib ie pw dh rc : Int32} {rl rb re sy sb : Int64} {sg : Nat → A_G} {ex : List va_E}
variable {b : Nat → Nat} {n : Nat}
def rO (rf : Nat → Int32) (x : Int32) : Int32 := if 0 ≤ x.toInt ∧ x.toInt < 64 then rf x.toNatClampNeg else -1
theorem rO_in {rf : Nat → Int32} {p : Nat} (h : p < 64) : rO rf (nI p) = rf p := by
  unfold rO; rw [if_pos (by rw [nI_toInt (by omega)]; omega), nI_clamp (by omega)]
def fillN (b : Nat → Nat) (a k v : Nat) : Nat → Nat := fun j => if a ≤ j ∧ j < a + k then v else b j
def fillI (f : Nat → Int32) (a k : Nat) (v : Int32) : Nat → Int32 := fun j => if a ≤ j ∧ j < a + k then v else f j
theorem fillN_0 (b : Nat → Nat) (a v : Nat) : fillN b a 0 v = b := by
  funext j; unfold fillN; rw [if_neg (by omega)]
theorem fillI_0 (f : Nat → Int32) (a : Nat) (v : Int32) : fillI f a 0 v = f := by
  funext j; unfold fillI; rw [if_neg (by omega)]
theorem fillN_s (b : Nat → Nat) (a k v : Nat) : upN (fillN b a k v) (a + k) v = fillN b a (k + 1) v := by
  funext j; unfold upN fillN
  by_cases h : j = a + k
  · rw [if_pos h, if_pos (by omega)]
  · rw [if_neg h]
    by_cases h2 : a ≤ j ∧ j < a + k
    · rw [if_pos h2, if_pos (by omega)]
    · rw [if_neg h2, if_neg (by omega)]
theorem fillI_s (f : Nat → Int32) (a k : Nat) (v : Int32) : upd (fillI f a k v) (a + k) v = fillI f a (k + 1) v := by
  funext j; unfold upd fillI
  by_cases h : j = a + k
  · rw [if_pos h, if_pos (by omega)]
  · rw [if_neg h]
    by_cases h2 : a ≤ j ∧ j < a + k
    · rw [if_pos h2, if_pos (by omega)]
    · rw [if_neg h2, if_neg (by omega)]
theorem fillN_app (b : Nat → Nat) (a k l v : Nat) : fillN (fillN b a k v) (a + k) l v = fillN b a (k + l) v := by
  funext j; unfold fillN
  by_cases h : a ≤ j ∧ j < a + (k + l)
  · rw [if_pos h]
    by_cases h2 : a + k ≤ j ∧ j < a + k + l
    · rw [if_pos h2]
    · rw [if_neg h2, if_pos (by omega)]
  · rw [if_neg h, if_neg (by omega), if_neg (by omega)]
theorem fillI_hi {f : Nat → Int32} {a k : Nat} {v : Int32} {j : Nat} (h : a + k ≤ j) : fillI f a k v j = f j := by
  unfold fillI; rw [if_neg (by omega)]
theorem lb8_0 : lb8 0 = 0 := by decide
def cntM (f : Nat → Int32) (a : Nat) : Nat → Nat
  | 0 => 0
  | k + 1 => cntM f a k + (if f (a + k) = -1 then 0 else 1)
def anyM (f : Nat → Int32) : Nat → Nat → Bool
  | _, 0 => false
  | a, k + 1 => if f a = -1 then anyM f (a + 1) k else true
def pwC (f : Nat → Int32) (r : Int32) : Nat → Nat
  | 0 => 0
  | k + 1 => pwC f r k + (if f k = -1 then 0 else if f k &&& r = 0 then 0 else 1)
def smC (b : Nat → Nat) (m : Prop) [Decidable m] (p : Nat) (s : Int32) : Nat → Int32
  | 0 => s
  | k + 1 => 31 * smC b m p s k + (if m then nI (b (256 * p + k)) else 1000)
theorem pg_mul (p : Nat) : nI p * (256 : Int32) = nI (256 * p) := by rw [Nat.mul_comm]; exact pk_mul p 256
theorem pg_add (p i : Nat) : nI p * (256 : Int32) + nI i = nI (256 * p + i) := by rw [pg_mul]; exact nI_add _ _
theorem a_1 (m : Int32) (i : Nat) : m + nI i + 1 = m + nI (i + 1) := by rw [Int32.add_assoc, nI_1]
theorem s_1 (m : Int32) (i : Nat) : m - nI i - 1 = m - nI (i + 1) := by
  rw [← nI_1, Int32.sub_eq_add_neg, Int32.sub_eq_add_neg, Int32.sub_eq_add_neg, Int32.neg_add, Int32.sub_eq_add_neg, Int32.add_assoc]
theorem nI_gt {a : Nat} {y : Int32} {c : Nat} (hy : y.toInt = (c : Int) - 1) (ha : a < 2 ^ 31) : y < nI a ↔ c ≤ a := by
  rw [Int32.lt_iff_toInt_lt, hy, nI_toInt ha]; omega
set_option maxRecDepth 100000 in
set_option maxHeartbeats 4000000 in
theorem c_P_frames  : Ct m_P_frames 0 0 [.ref 3] (Ac fp le lp lb il tf tz bf rf fr mp sc ifp ib ie pw dh rl rb re sy sb rc sg ex) (vm_is (some (.int fr)) (Ac fp le lp lb il tf tz bf rf fr mp sc ifp ib ie pw dh rl rb re sy sb rc sg ex)) := by
  refine Ct.of ⟨by decide +kernel, rfl⟩ (Nat.le_of_ble_eq_true rfl) (lv := [some (.ref 3)]) rfl ?_
  refine Run.blk (gs := [True, True]) (S' := ([some (.ref 3)], [.int fr], Ac fp le lp lb il tf tz bf rf fr mp sc ifp ib ie pw dh rl rb re sy sb rc sg ex)) k_P_frames_0 kc_P_frames_0 rfl ⟨trivial, trivial, trivial⟩ ?_
  exact Run.ret (r := some (.int fr)) ⟨d_P_frames_4, _, rfl, rfl⟩ ⟨rfl, rfl⟩
set_option maxRecDepth 100000 in
set_option maxHeartbeats 4000000 in
theorem c_P_mappedPages  : Ct m_P_mappedPages 0 0 [.ref 3] (Ac fp le lp lb il tf tz bf rf fr mp sc ifp ib ie pw dh rl rb re sy sb rc sg ex) (vm_is (some (.int mp)) (Ac fp le lp lb il tf tz bf rf fr mp sc ifp ib ie pw dh rl rb re sy sb rc sg ex)) := by
  refine Ct.of ⟨by decide +kernel, rfl⟩ (Nat.le_of_ble_eq_true rfl) (lv := [some (.ref 3)]) rfl ?_
  refine Run.blk (gs := [True, True]) (S' := ([some (.ref 3)], [.int mp], Ac fp le lp lb il tf tz bf rf fr mp sc ifp ib ie pw dh rl rb re sy sb rc sg ex)) k_P_mappedPages_0 kc_P_mappedPages_0 rfl ⟨trivial, trivial, trivial⟩ ?_
  exact Run.ret (r := some (.int mp)) ⟨d_P_mappedPages_4, _, rfl, rfl⟩ ⟨rfl, rfl⟩
set_option maxRecDepth 100000 in
set_option maxHeartbeats 4000000 in
theorem c_P_freeFrames  : Ct m_P_freeFrames 0 0 [.ref 3] (Ac fp le lp lb il tf tz bf rf fr mp sc ifp ib ie pw dh rl rb re sy sb rc sg ex) (vm_is (some (.int (fr - mp))) (Ac fp le lp lb il tf tz bf rf fr mp sc ifp ib ie pw dh rl rb re sy sb rc sg ex)) := by
  refine Ct.of ⟨by decide +kernel, rfl⟩ (Nat.le_of_ble_eq_true rfl) (lv := [some (.ref 3)]) rfl ?_
  refine Run.blk (gs := [True, True, True, True, True]) (S' := ([some (.ref 3)], [.int (fr - mp)], Ac fp le lp lb il tf tz bf rf fr mp sc ifp ib ie pw dh rl rb re sy sb rc sg ex)) k_P_freeFrames_0 kc_P_freeFrames_0 rfl ⟨trivial, trivial, trivial, trivial, trivial, trivial⟩ ?_
  exact Run.ret (r := some (.int (fr - mp))) ⟨d_P_freeFrames_9, _, rfl, rfl⟩ ⟨rfl, rfl⟩
set_option maxRecDepth 100000 in
set_option maxHeartbeats 4000000 in
theorem c_P_byteAt {p : Nat} (hb : ∀ j, b j < 256) {x : Int32} (hx : x = nI p) (hp : p < 16384) : Ct m_P_byteAt 0 0 [.ref 3, .int x] (Ac fp le lp lb il tf tz (sbf b) rf fr mp sc ifp ib ie pw dh rl rb re sy sb rc sg ex) (vm_is (some (.int (nI (b p)))) (Ac fp le lp lb il tf tz (sbf b) rf fr mp sc ifp ib ie pw dh rl rb re sy sb rc sg ex)) := by
  subst hx
  refine Ct.of ⟨by decide +kernel, rfl⟩ (Nat.le_of_ble_eq_true rfl) (lv := [some (.ref 3), some (.int (nI p))]) rfl ?_
  refine Run.blk (gs := [True]) (S' := ([some (.ref 3), some (.int (nI p))], [.int (nI p)], Ac fp le lp lb il tf tz (sbf b) rf fr mp sc ifp ib ie pw dh rl rb re sy sb rc sg ex)) k_P_byteAt_0 kc_P_byteAt_0 rfl ⟨trivial, trivial⟩ ?_
  refine Run.br (tgt := 26) d_P_byteAt_1 rfl (by decide) (fun c_1 => ?_) (fun c_1 => ?_)
  · exact absurd c_1 (nI_pos (by omega))
  · refine Run.blk (gs := [True, True, True, True]) (S' := ([some (.ref 3), some (.int (nI p))], [.int (nI 16384), .int (nI p)], Ac fp le lp lb il tf tz (sbf b) rf fr mp sc ifp ib ie pw dh rl rb re sy sb rc sg ex)) k_P_byteAt_4 kc_P_byteAt_4 rfl ⟨trivial, trivial, trivial, trivial, trivial⟩ ?_
    refine Run.br (tgt := 26) d_P_byteAt_10 rfl (by decide) (fun c_2 => ?_) (fun c_2 => ?_)
    · exact absurd c_2 (nI_ge (show p < 16384 by omega) (by decide))
    · refine Run.blk (gs := [True, True, True, vp_in (nI p) 16384, True, True]) (S' := ([some (.ref 3), some (.int (nI p))], [.int (((sbf b) (nI p).toNatClampNeg) &&& (255 : Int32))], Ac fp le lp lb il tf tz (sbf b) rf fr mp sc ifp ib ie pw dh rl rb re sy sb rc sg ex)) k_P_byteAt_13 kc_P_byteAt_13 rfl ⟨trivial, trivial, trivial, (vp_in_nI (show p < 16384 by omega) (by decide)), trivial, trivial, trivial⟩ ?_
      refine Run.goto (tgt := 27) d_P_byteAt_23 (by decide) ?_
      exact Run.ret (r := some (.int (((sbf b) (nI p).toNatClampNeg) &&& (255 : Int32)))) ⟨d_P_byteAt_27, _, rfl, rfl⟩ ⟨by rw [nI_clamp (by omega)]; exact congrArg (fun x => some (Value.int x)) (s8_and (hb p)), rfl⟩
set_option maxRecDepth 100000 in
set_option maxHeartbeats 4000000 in
theorem c_P_setByte {p : Nat} {x v : Int32} (hx : x = nI p) (hp : p < 16384) : Ct m_P_setByte 0 0 [.ref 3, .int x, .int v] (Ac fp le lp lb il tf tz (sbf b) rf fr mp sc ifp ib ie pw dh rl rb re sy sb rc sg ex) (vm_is none (Ac fp le lp lb il tf tz (sbf (upN b p (lb8 v))) rf fr mp sc ifp ib ie pw dh rl rb re sy sb rc sg ex)) := by
  subst hx
  refine Ct.of ⟨by decide +kernel, rfl⟩ (Nat.le_of_ble_eq_true rfl) (lv := [some (.ref 3), some (.int (nI p)), some (.int v)]) rfl ?_
  refine Run.blk (gs := [True]) (S' := ([some (.ref 3), some (.int (nI p)), some (.int v)], [.int (nI p)], Ac fp le lp lb il tf tz (sbf b) rf fr mp sc ifp ib ie pw dh rl rb re sy sb rc sg ex)) k_P_setByte_0 kc_P_setByte_0 rfl ⟨trivial, trivial⟩ ?_
  refine Run.br (tgt := 21) d_P_setByte_1 rfl (by decide) (fun c_1 => ?_) (fun c_1 => ?_)
  · exact absurd c_1 (nI_pos (by omega))
  · refine Run.blk (gs := [True, True, True, True]) (S' := ([some (.ref 3), some (.int (nI p)), some (.int v)], [.int (nI 16384), .int (nI p)], Ac fp le lp lb il tf tz (sbf b) rf fr mp sc ifp ib ie pw dh rl rb re sy sb rc sg ex)) k_P_setByte_4 kc_P_setByte_4 rfl ⟨trivial, trivial, trivial, trivial, trivial⟩ ?_
    refine Run.br (tgt := 21) d_P_setByte_10 rfl (by decide) (fun c_2 => ?_) (fun c_2 => ?_)
    · exact absurd c_2 (nI_ge (show p < 16384 by omega) (by decide))
    · refine Run.blk (gs := [True, True, True, True, True, vp_in (nI p) 16384]) (S' := ([some (.ref 3), some (.int (nI p)), some (.int v)], [], Ac fp le lp lb il tf tz (upd (sbf b) (nI p).toNatClampNeg (vp_nar .byte v.toInt8.toInt32)) rf fr mp sc ifp ib ie pw dh rl rb re sy sb rc sg ex)) k_P_setByte_13 kc_P_setByte_13 rfl ⟨trivial, trivial, trivial, trivial, trivial, (vp_in_nI (show p < 16384 by omega) (by decide)), trivial⟩ ?_
      exact Run.ret (r := none) ⟨d_P_setByte_21, rfl⟩ ⟨rfl, by rw [nI_clamp (by omega), nar_i2b, upd_sbf]⟩
theorem vp64 {x : Int32} (h : 0 ≤ x.toInt ∧ x.toInt < 64) : vp_in x 64 := vp_in_iff.mpr ⟨h.1, by omega⟩
set_option maxRecDepth 100000 in
set_option maxHeartbeats 4000000 in
theorem c_P_rightsOf {x : Int32} : Ct m_P_rightsOf 0 0 [.ref 3, .int x] (Ac fp le lp lb il tf tz bf rf fr mp sc ifp ib ie pw dh rl rb re sy sb rc sg ex) (vm_is (some (.int (rO rf x))) (Ac fp le lp lb il tf tz bf rf fr mp sc ifp ib ie pw dh rl rb re sy sb rc sg ex)) := by
  refine Ct.of ⟨by decide +kernel, rfl⟩ (Nat.le_of_ble_eq_true rfl) (lv := [some (.ref 3), some (.int x)]) rfl ?_
  refine Run.blk (gs := [True]) (S' := ([some (.ref 3), some (.int x)], [.int x], Ac fp le lp lb il tf tz bf rf fr mp sc ifp ib ie pw dh rl rb re sy sb rc sg ex)) k_P_rightsOf_0 kc_P_rightsOf_0 rfl ⟨trivial, trivial⟩ ?_
  refine Run.callN (As := [.int x]) (rest := []) v_P_rightsOf_1 (c_L_isPage x) rfl (Nat.le_of_ble_eq_true rfl) rfl (fun r cs' hp => ?_)
  obtain ⟨rfl, rfl⟩ := hp
  show Run _ _ _ _ 4 ([some (.ref 3), some (.int x)], [.int (if 0 ≤ x.toInt ∧ x.toInt < 64 then 1 else 0)], Ac fp le lp lb il tf tz bf rf fr mp sc ifp ib ie pw dh rl rb re sy sb rc sg ex) _
  refine Run.br (tgt := 16) d_P_rightsOf_4 rfl (by decide) (fun c_1 => ?_) (fun c_1 => ?_)
  · have c_1 := zi_f c_1
    refine Run.blk (gs := [True]) (S' := ([some (.ref 3), some (.int x)], [.int (-1 : Int32)], Ac fp le lp lb il tf tz bf rf fr mp sc ifp ib ie pw dh rl rb re sy sb rc sg ex)) k_P_rightsOf_16 kc_P_rightsOf_16 rfl ⟨trivial, trivial⟩ ?_
    exact Run.ret (r := some (.int (-1 : Int32))) ⟨d_P_rightsOf_17, _, rfl, rfl⟩ ⟨by unfold rO; rw [if_neg c_1], rfl⟩
  · have c_1 := zi_t c_1
    refine Run.blk (gs := [True, True, True, vp_in x 64]) (S' := ([some (.ref 3), some (.int x)], [.int (rf x.toNatClampNeg)], Ac fp le lp lb il tf tz bf rf fr mp sc ifp ib ie pw dh rl rb re sy sb rc sg ex)) k_P_rightsOf_7 kc_P_rightsOf_7 rfl ⟨trivial, trivial, trivial, (vp64 c_1), trivial⟩ ?_
    refine Run.goto (tgt := 17) d_P_rightsOf_13 (by decide) ?_
    exact Run.ret (r := some (.int (rf x.toNatClampNeg))) ⟨d_P_rightsOf_17, _, rfl, rfl⟩ ⟨by unfold rO; rw [if_pos c_1], rfl⟩
set_option maxRecDepth 100000 in
set_option maxHeartbeats 4000000 in
theorem c_P_setRights {p : Nat} {x v : Int32} (hx : x = nI p) (hp : p < 64) : Ct m_P_setRights 0 0 [.ref 3, .int x, .int v] (Ac fp le lp lb il tf tz bf rf fr mp sc ifp ib ie pw dh rl rb re sy sb rc sg ex) (vm_is none (Ac fp le lp lb il tf tz bf (upd rf p v) fr mp sc ifp ib ie pw dh rl rb re sy sb rc sg ex)) := by
  subst hx
  refine Ct.of ⟨by decide +kernel, rfl⟩ (Nat.le_of_ble_eq_true rfl) (lv := [some (.ref 3), some (.int (nI p)), some (.int v)]) rfl ?_
  refine Run.blk (gs := [True]) (S' := ([some (.ref 3), some (.int (nI p)), some (.int v)], [.int (nI p)], Ac fp le lp lb il tf tz bf rf fr mp sc ifp ib ie pw dh rl rb re sy sb rc sg ex)) k_P_setRights_0 kc_P_setRights_0 rfl ⟨trivial, trivial⟩ ?_
  refine Run.callN (As := [.int (nI p)]) (rest := []) v_P_setRights_1 (c_L_isPage (nI p)) rfl (Nat.le_of_ble_eq_true rfl) rfl (fun r cs' hp => ?_)
  obtain ⟨rfl, rfl⟩ := hp
  show Run _ _ _ _ 4 ([some (.ref 3), some (.int (nI p)), some (.int v)], [.int (if 0 ≤ (nI p).toInt ∧ (nI p).toInt < 64 then 1 else 0)], Ac fp le lp lb il tf tz bf rf fr mp sc ifp ib ie pw dh rl rb re sy sb rc sg ex) _
  refine Run.br (tgt := 14) d_P_setRights_4 rfl (by decide) (fun c_1 => ?_) (fun c_1 => ?_)
  · have c_1 := zi_f c_1
    exact absurd (show 0 ≤ (nI p).toInt ∧ (nI p).toInt < 64 by rw [nI_toInt (by omega)]; omega) c_1
  · have c_1 := zi_t c_1
    refine Run.blk (gs := [True, True, True, True, vp_in (nI p) 64]) (S' := ([some (.ref 3), some (.int (nI p)), some (.int v)], [], Ac fp le lp lb il tf tz bf (upd rf (nI p).toNatClampNeg v) fr mp sc ifp ib ie pw dh rl rb re sy sb rc sg ex)) k_P_setRights_7 kc_P_setRights_7 rfl ⟨trivial, trivial, trivial, trivial, (vp64 c_1), trivial⟩ ?_
    exact Run.ret (r := none) ⟨d_P_setRights_14, rfl⟩ ⟨rfl, by rw [nI_clamp (by omega)]⟩
set_option maxRecDepth 100000 in
set_option maxHeartbeats 4000000 in
theorem l_P_clear {p : Nat} (hp : p < 64) : ∀ (k i : Nat) (x : Int32) (bb : Nat → Nat), x = nI i → bb = fillN b (256 * p) i 0 → i + k = 256 → Run m_P_clear n 0 0 2 ([some (.ref 3), some (.int (nI p)), some (.int x)], [], Ac fp le lp lb il tf tz (sbf bb) rf fr mp sc ifp ib ie pw dh rl rb re sy sb rc sg ex) (vm_is none (Ac fp le lp lb il tf tz (sbf (fillN b (256 * p) 256 0)) rf fr mp sc ifp ib ie pw dh rl rb re sy sb rc sg ex))
  | 0, i, x, bb, hx, hbb, hi => by
    obtain rfl : i = 256 := by omega
    refine Run.blk (gs := [True, True]) (S' := ([some (.ref 3), some (.int (nI p)), some (.int x)], [.int (256 : Int32), .int x], Ac fp le lp lb il tf tz (sbf bb) rf fr mp sc ifp ib ie pw dh rl rb re sy sb rc sg ex)) k_P_clear_2 kc_P_clear_2 rfl ⟨trivial, trivial, trivial⟩ ?_
    refine Run.br (tgt := 27) d_P_clear_6 rfl (by decide) (fun c_1 => ?_) (fun c_1 => ?_)
    · exact Run.ret (r := none) ⟨d_P_clear_27, rfl⟩ ⟨rfl, by rw [hbb]⟩
    · exact absurd (by rw [hx]; exact Int32.le_refl _) c_1
  | k + 1, i, x, bb, hx, hbb, hi => by
    refine Run.blk (gs := [True, True]) (S' := ([some (.ref 3), some (.int (nI p)), some (.int x)], [.int (256 : Int32), .int x], Ac fp le lp lb il tf tz (sbf bb) rf fr mp sc ifp ib ie pw dh rl rb re sy sb rc sg ex)) k_P_clear_2 kc_P_clear_2 rfl ⟨trivial, trivial, trivial⟩ ?_
    refine Run.br (tgt := 27) d_P_clear_6 rfl (by decide) (fun c_1 => ?_) (fun c_1 => ?_)
    · exact absurd c_1 (by rw [hx]; exact nI_ge (show i < 256 by omega) (by decide))
    · refine Run.blk (gs := [True, True, True, True, True, True, True]) (S' := ([some (.ref 3), some (.int (nI p)), some (.int x)], [.int (0 : Int32), .int (((nI p) * (256 : Int32)) + x), .ref 3], Ac fp le lp lb il tf tz (sbf bb) rf fr mp sc ifp ib ie pw dh rl rb re sy sb rc sg ex)) k_P_clear_9 kc_P_clear_9 rfl ⟨trivial, trivial, trivial, trivial, trivial, trivial, trivial, trivial⟩ ?_
      refine Run.callV (b := 3) (As := [.int (((nI p) * (256 : Int32)) + x), .int (0 : Int32)]) (rest := []) v_P_clear_18 (c_P_setByte (p := 256 * p + i) (by rw [hx]; exact pg_add p i) (by omega)) rfl (Nat.le_of_ble_eq_true rfl) rfl rfl rfl rfl (fun r cs' hp => ?_)
      obtain ⟨rfl, rfl⟩ := hp
      show Run _ _ _ _ 21 ([some (.ref 3), some (.int (nI p)), some (.int x)], [], Ac fp le lp lb il tf tz (sbf (upN bb (256 * p + i) (lb8 0))) rf fr mp sc ifp ib ie pw dh rl rb re sy sb rc sg ex) _
      refine Run.blk (gs := [True]) (S' := ([some (.ref 3), some (.int (nI p)), some (.int (x + (1 : Int32)))], [], Ac fp le lp lb il tf tz (sbf (upN bb (256 * p + i) (lb8 0))) rf fr mp sc ifp ib ie pw dh rl rb re sy sb rc sg ex)) k_P_clear_21 kc_P_clear_21 rfl ⟨trivial, trivial⟩ ?_
      refine Run.goto (tgt := 2) d_P_clear_24 (by decide) ?_
      exact l_P_clear hp k (i + 1) _ _ (by rw [hx, nI_1]) (by rw [hbb, lb8_0, fillN_s]) (by omega)
set_option maxRecDepth 100000 in
set_option maxHeartbeats 4000000 in
theorem c_P_clear {p : Nat} {x : Int32} (hx : x = nI p) (hp : p < 64) : Ct m_P_clear 0 0 [.ref 3, .int x] (Ac fp le lp lb il tf tz (sbf b) rf fr mp sc ifp ib ie pw dh rl rb re sy sb rc sg ex) (vm_is none (Ac fp le lp lb il tf tz (sbf (fillN b (256 * p) 256 0)) rf fr mp sc ifp ib ie pw dh rl rb re sy sb rc sg ex)) := by
  subst hx
  refine Ct.of ⟨by decide +kernel, rfl⟩ (Nat.le_of_ble_eq_true rfl) (lv := [some (.ref 3), some (.int (nI p)), none]) rfl ?_
  refine Run.blk (gs := [True, True]) (S' := ([some (.ref 3), some (.int (nI p)), some (.int (0 : Int32))], [], Ac fp le lp lb il tf tz (sbf b) rf fr mp sc ifp ib ie pw dh rl rb re sy sb rc sg ex)) k_P_clear_0 kc_P_clear_0 rfl ⟨trivial, trivial, trivial⟩ ?_
  exact l_P_clear hp 256 0 _ _ rfl (fillN_0 _ _ _).symm rfl
set_option maxRecDepth 100000 in
set_option maxHeartbeats 4000000 in
theorem l_P_anyMapped {x y : Int32} {c : Nat} (hy : y.toInt = (c : Int) - 1) (hc : c ≤ 64) : ∀ (k a : Nat) (v : Int32), v = nI a → a ≤ 64 → c ≤ a + k → Run m_P_anyMapped n 0 0 2 ([some (.ref 3), some (.int x), some (.int y), some (.int v)], [], Ac fp le lp lb il tf tz bf rf fr mp sc ifp ib ie pw dh rl rb re sy sb rc sg ex) (vm_is (some (.int (if anyM rf a (c - a) = true then 1 else 0))) (Ac fp le lp lb il tf tz bf rf fr mp sc ifp ib ie pw dh rl rb re sy sb rc sg ex))
  | 0, a, v, hv, ha, h => by
    refine Run.blk (gs := [True, True]) (S' := ([some (.ref 3), some (.int x), some (.int y), some (.int v)], [.int y, .int v], Ac fp le lp lb il tf tz bf rf fr mp sc ifp ib ie pw dh rl rb re sy sb rc sg ex)) k_P_anyMapped_2 kc_P_anyMapped_2 rfl ⟨trivial, trivial, trivial⟩ ?_
    refine Run.br (tgt := 24) d_P_anyMapped_4 rfl (by decide) (fun c_1 => ?_) (fun c_1 => ?_)
    · have hca : c ≤ a := (nI_gt hy (by omega)).mp (by rw [← hv]; exact c_1)
      refine Run.blk (gs := [True]) (S' := ([some (.ref 3), some (.int x), some (.int y), some (.int v)], [.int (0 : Int32)], Ac fp le lp lb il tf tz bf rf fr mp sc ifp ib ie pw dh rl rb re sy sb rc sg ex)) k_P_anyMapped_24 kc_P_anyMapped_24 rfl ⟨trivial, trivial⟩ ?_
      rw [show c - a = 0 by omega]
      exact Run.ret (r := some (.int (0 : Int32))) ⟨d_P_anyMapped_25, _, rfl, rfl⟩ ⟨rfl, rfl⟩
    · have hca : a < c := Nat.lt_of_not_le (fun q => c_1 (by rw [hv]; exact (nI_gt hy (by omega)).mpr q))
      exact absurd hca (by omega)
  | k + 1, a, v, hv, ha, h => by
    refine Run.blk (gs := [True, True]) (S' := ([some (.ref 3), some (.int x), some (.int y), some (.int v)], [.int y, .int v], Ac fp le lp lb il tf tz bf rf fr mp sc ifp ib ie pw dh rl rb re sy sb rc sg ex)) k_P_anyMapped_2 kc_P_anyMapped_2 rfl ⟨trivial, trivial, trivial⟩ ?_
    refine Run.br (tgt := 24) d_P_anyMapped_4 rfl (by decide) (fun c_1 => ?_) (fun c_1 => ?_)
    · have hca : c ≤ a := (nI_gt hy (by omega)).mp (by rw [← hv]; exact c_1)
      refine Run.blk (gs := [True]) (S' := ([some (.ref 3), some (.int x), some (.int y), some (.int v)], [.int (0 : Int32)], Ac fp le lp lb il tf tz bf rf fr mp sc ifp ib ie pw dh rl rb re sy sb rc sg ex)) k_P_anyMapped_24 kc_P_anyMapped_24 rfl ⟨trivial, trivial⟩ ?_
      rw [show c - a = 0 by omega]
      exact Run.ret (r := some (.int (0 : Int32))) ⟨d_P_anyMapped_25, _, rfl, rfl⟩ ⟨rfl, rfl⟩
    · have hca : a < c := Nat.lt_of_not_le (fun q => c_1 (by rw [hv]; exact (nI_gt hy (by omega)).mpr q))
      refine Run.blk (gs := [True, True]) (S' := ([some (.ref 3), some (.int x), some (.int y), some (.int v)], [.int v, .ref 3], Ac fp le lp lb il tf tz bf rf fr mp sc ifp ib ie pw dh rl rb re sy sb rc sg ex)) k_P_anyMapped_7 kc_P_anyMapped_7 rfl ⟨trivial, trivial, trivial⟩ ?_
      refine Run.callV (b := 3) (As := [.int v]) (rest := []) v_P_anyMapped_9 c_P_rightsOf rfl (Nat.le_of_ble_eq_true rfl) rfl rfl rfl rfl (fun r cs' hp => ?_)
      obtain ⟨rfl, rfl⟩ := hp
      show Run _ _ _ _ 12 ([some (.ref 3), some (.int x), some (.int y), some (.int v)], [.int (rO rf v)], Ac fp le lp lb il tf tz bf rf fr mp sc ifp ib ie pw dh rl rb re sy sb rc sg ex) _
      refine Run.blk (gs := [True]) (S' := ([some (.ref 3), some (.int x), some (.int y), some (.int v)], [.int (-1 : Int32), .int (rO rf v)], Ac fp le lp lb il tf tz bf rf fr mp sc ifp ib ie pw dh rl rb re sy sb rc sg ex)) k_P_anyMapped_12 kc_P_anyMapped_12 rfl ⟨trivial, trivial⟩ ?_
      refine Run.br (tgt := 18) d_P_anyMapped_13 rfl (by decide) (fun c_2 => ?_) (fun c_2 => ?_)
      · rw [hv, rO_in (by omega)] at c_2
        refine Run.blk (gs := [True]) (S' := ([some (.ref 3), some (.int x), some (.int y), some (.int (v + (1 : Int32)))], [], Ac fp le lp lb il tf tz bf rf fr mp sc ifp ib ie pw dh rl rb re sy sb rc sg ex)) k_P_anyMapped_18 kc_P_anyMapped_18 rfl ⟨trivial, trivial⟩ ?_
        refine Run.goto (tgt := 2) d_P_anyMapped_21 (by decide) ?_
        rw [show c - a = (c - (a + 1)) + 1 by omega, anyM, if_pos c_2]
        exact l_P_anyMapped hy hc k (a + 1) _ (by rw [hv, nI_1]) (by omega) (by omega)
      · rw [hv, rO_in (by omega)] at c_2
        refine Run.blk (gs := [True]) (S' := ([some (.ref 3), some (.int x), some (.int y), some (.int v)], [.int (1 : Int32)], Ac fp le lp lb il tf tz bf rf fr mp sc ifp ib ie pw dh rl rb re sy sb rc sg ex)) k_P_anyMapped_16 kc_P_anyMapped_16 rfl ⟨trivial, trivial⟩ ?_
        exact Run.ret (r := some (.int (1 : Int32))) ⟨d_P_anyMapped_17, _, rfl, rfl⟩ ⟨by rw [show c - a = (c - a - 1) + 1 by omega, anyM, if_neg c_2]; rfl, rfl⟩
set_option maxRecDepth 100000 in
set_option maxHeartbeats 4000000 in
theorem c_P_anyMapped {a c : Nat} {x y : Int32} (hx : x = nI a) (hy : y.toInt = (c : Int) - 1) (hc : c ≤ 64) (ha : a ≤ 64) : Ct m_P_anyMapped 0 0 [.ref 3, .int x, .int y] (Ac fp le lp lb il tf tz bf rf fr mp sc ifp ib ie pw dh rl rb re sy sb rc sg ex) (vm_is (some (.int (if anyM rf a (c - a) = true then 1 else 0))) (Ac fp le lp lb il tf tz bf rf fr mp sc ifp ib ie pw dh rl rb re sy sb rc sg ex)) := by
  refine Ct.of ⟨by decide +kernel, rfl⟩ (Nat.le_of_ble_eq_true rfl) (lv := [some (.ref 3), some (.int x), some (.int y), none]) rfl ?_
  refine Run.blk (gs := [True, True]) (S' := ([some (.ref 3), some (.int x), some (.int y), some (.int x)], [], Ac fp le lp lb il tf tz bf rf fr mp sc ifp ib ie pw dh rl rb re sy sb rc sg ex)) k_P_anyMapped_0 kc_P_anyMapped_0 rfl ⟨trivial, trivial, trivial⟩ ?_
  exact l_P_anyMapped hy hc 64 a _ hx ha (by omega)
set_option maxRecDepth 100000 in
set_option maxHeartbeats 4000000 in
theorem l_P_releaseAll {x y : Int32} {a c : Nat} (hy : y.toInt = (c : Int) - 1) (hc : c ≤ 64) (hac : a ≤ c) : ∀ (k i : Nat) (v mq : Int32) (rg : Nat → Int32), v = nI (a + i) → rg = fillI rf a i (-1) → mq = mp - nI (cntM rf a i) → a + i + k = c → Run m_P_releaseAll n 0 0 2 ([some (.ref 3), some (.int x), some (.int y), some (.int v)], [], Ac fp le lp lb il tf tz bf rg fr mq sc ifp ib ie pw dh rl rb re sy sb rc sg ex) (vm_is none (Ac fp le lp lb il tf tz bf (fillI rf a (c - a) (-1)) fr (mp - nI (cntM rf a (c - a))) sc ifp ib ie pw dh rl rb re sy sb rc sg ex))
  | 0, i, v, mq, rg, hv, hrg, hmq, h => by
    refine Run.blk (gs := [True, True]) (S' := ([some (.ref 3), some (.int x), some (.int y), some (.int v)], [.int y, .int v], Ac fp le lp lb il tf tz bf rg fr mq sc ifp ib ie pw dh rl rb re sy sb rc sg ex)) k_P_releaseAll_2 kc_P_releaseAll_2 rfl ⟨trivial, trivial, trivial⟩ ?_
    refine Run.br (tgt := 38) d_P_releaseAll_4 rfl (by decide) (fun c_1 => ?_) (fun c_1 => ?_)
    · obtain rfl : i = c - a := by omega
      exact Run.ret (r := none) ⟨d_P_releaseAll_38, rfl⟩ ⟨rfl, by rw [hrg, hmq]⟩
    · exact absurd (by rw [hv]; exact (nI_gt (a := a + i) hy (by omega)).mpr (by omega)) c_1
  | k + 1, i, v, mq, rg, hv, hrg, hmq, h => by
    refine Run.blk (gs := [True, True]) (S' := ([some (.ref 3), some (.int x), some (.int y), some (.int v)], [.int y, .int v], Ac fp le lp lb il tf tz bf rg fr mq sc ifp ib ie pw dh rl rb re sy sb rc sg ex)) k_P_releaseAll_2 kc_P_releaseAll_2 rfl ⟨trivial, trivial, trivial⟩ ?_
    refine Run.br (tgt := 38) d_P_releaseAll_4 rfl (by decide) (fun c_1 => ?_) (fun c_1 => ?_)
    · exact absurd ((nI_gt (a := a + i) hy (by omega)).mp (by rw [← hv]; exact c_1)) (by omega)
    · refine Run.blk (gs := [True, True]) (S' := ([some (.ref 3), some (.int x), some (.int y), some (.int v)], [.int v, .ref 3], Ac fp le lp lb il tf tz bf rg fr mq sc ifp ib ie pw dh rl rb re sy sb rc sg ex)) k_P_releaseAll_7 kc_P_releaseAll_7 rfl ⟨trivial, trivial, trivial⟩ ?_
      refine Run.callV (b := 3) (As := [.int v]) (rest := []) v_P_releaseAll_9 c_P_rightsOf rfl (Nat.le_of_ble_eq_true rfl) rfl rfl rfl rfl (fun r cs' hp => ?_)
      obtain ⟨rfl, rfl⟩ := hp
      show Run _ _ _ _ 12 ([some (.ref 3), some (.int x), some (.int y), some (.int v)], [.int (rO rg v)], Ac fp le lp lb il tf tz bf rg fr mq sc ifp ib ie pw dh rl rb re sy sb rc sg ex) _
      refine Run.blk (gs := [True]) (S' := ([some (.ref 3), some (.int x), some (.int y), some (.int v)], [.int (-1 : Int32), .int (rO rg v)], Ac fp le lp lb il tf tz bf rg fr mq sc ifp ib ie pw dh rl rb re sy sb rc sg ex)) k_P_releaseAll_12 kc_P_releaseAll_12 rfl ⟨trivial, trivial⟩ ?_
      refine Run.br (tgt := 32) d_P_releaseAll_13 rfl (by decide) (fun c_2 => ?_) (fun c_2 => ?_)
      · rw [hv, rO_in (by omega), hrg, fillI_hi (by omega)] at c_2
        refine Run.blk (gs := [True]) (S' := ([some (.ref 3), some (.int x), some (.int y), some (.int (v + (1 : Int32)))], [], Ac fp le lp lb il tf tz bf rg fr mq sc ifp ib ie pw dh rl rb re sy sb rc sg ex)) k_P_releaseAll_32 kc_P_releaseAll_32 rfl ⟨trivial, trivial⟩ ?_
        refine Run.goto (tgt := 2) d_P_releaseAll_35 (by decide) ?_
        have e1 : fillI rf a i (-1) = fillI rf a (i + 1) (-1) := by
          rw [← fillI_s]; funext j; unfold upd
          by_cases hj : j = a + i
          · rw [if_pos hj, hj, fillI_hi (by omega)]; exact c_2
          · rw [if_neg hj]
        exact l_P_releaseAll hy hc hac k (i + 1) _ _ _ (by rw [hv, nI_1]; rfl) (by rw [hrg, e1]) (by rw [hmq, cntM, if_pos c_2]; rfl) (by omega)
      · rw [hv, rO_in (by omega), hrg, fillI_hi (by omega)] at c_2
        refine Run.blk (gs := [True, True, True]) (S' := ([some (.ref 3), some (.int x), some (.int y), some (.int v)], [.int (-1 : Int32), .int v, .ref 3], Ac fp le lp lb il tf tz bf rg fr mq sc ifp ib ie pw dh rl rb re sy sb rc sg ex)) k_P_releaseAll_16 kc_P_releaseAll_16 rfl ⟨trivial, trivial, trivial, trivial⟩ ?_
        refine Run.callV (b := 3) (As := [.int v, .int (-1 : Int32)]) (rest := []) v_P_releaseAll_19 (c_P_setRights (p := a + i) hv (by omega)) rfl (Nat.le_of_ble_eq_true rfl) rfl rfl rfl rfl (fun r cs' hp => ?_)
        obtain ⟨rfl, rfl⟩ := hp
        show Run _ _ _ _ 22 ([some (.ref 3), some (.int x), some (.int y), some (.int v)], [], Ac fp le lp lb il tf tz bf (upd rg (a + i) (-1 : Int32)) fr mq sc ifp ib ie pw dh rl rb re sy sb rc sg ex) _
        refine Run.blk (gs := [True, True, True, True, True, True]) (S' := ([some (.ref 3), some (.int x), some (.int y), some (.int v)], [], Ac fp le lp lb il tf tz bf (upd rg (a + i) (-1 : Int32)) fr (mq - (1 : Int32)) sc ifp ib ie pw dh rl rb re sy sb rc sg ex)) k_P_releaseAll_22 kc_P_releaseAll_22 rfl ⟨trivial, trivial, trivial, trivial, trivial, trivial, trivial⟩ ?_
        refine Run.blk (gs := [True]) (S' := ([some (.ref 3), some (.int x), some (.int y), some (.int (v + (1 : Int32)))], [], Ac fp le lp lb il tf tz bf (upd rg (a + i) (-1 : Int32)) fr (mq - (1 : Int32)) sc ifp ib ie pw dh rl rb re sy sb rc sg ex)) k_P_releaseAll_32 kc_P_releaseAll_32 rfl ⟨trivial, trivial⟩ ?_
        refine Run.goto (tgt := 2) d_P_releaseAll_35 (by decide) ?_
        exact l_P_releaseAll hy hc hac k (i + 1) _ _ _ (by rw [hv, nI_1]; rfl) (by rw [hrg, fillI_s]) (by rw [hmq, s_1, cntM, if_neg c_2]) (by omega)
set_option maxRecDepth 100000 in
set_option maxHeartbeats 4000000 in
theorem c_P_releaseAll {a c : Nat} {x y : Int32} (hx : x = nI a) (hy : y.toInt = (c : Int) - 1) (hc : c ≤ 64) (hac : a ≤ c) : Ct m_P_releaseAll 0 0 [.ref 3, .int x, .int y] (Ac fp le lp lb il tf tz bf rf fr mp sc ifp ib ie pw dh rl rb re sy sb rc sg ex) (vm_is none (Ac fp le lp lb il tf tz bf (fillI rf a (c - a) (-1)) fr (mp - nI (cntM rf a (c - a))) sc ifp ib ie pw dh rl rb re sy sb rc sg ex)) := by
  refine Ct.of ⟨by decide +kernel, rfl⟩ (Nat.le_of_ble_eq_true rfl) (lv := [some (.ref 3), some (.int x), some (.int y), none]) rfl ?_
  refine Run.blk (gs := [True, True]) (S' := ([some (.ref 3), some (.int x), some (.int y), some (.int x)], [], Ac fp le lp lb il tf tz bf rf fr mp sc ifp ib ie pw dh rl rb re sy sb rc sg ex)) k_P_releaseAll_0 kc_P_releaseAll_0 rfl ⟨trivial, trivial, trivial⟩ ?_
  exact l_P_releaseAll hy hc hac (c - a) 0 _ _ _ hx (fillI_0 _ _ _).symm (by show mp = mp - 0; exact (Int32.sub_zero mp).symm) (by omega)
set_option maxRecDepth 100000 in
set_option maxHeartbeats 4000000 in
theorem l_P_mapAll {x y to : Int32} {a c : Nat} (hy : y.toInt = (c : Int) - 1) (hc : c ≤ 64) (hac : a ≤ c) (hfree : ∀ j, a ≤ j → j < c → rf j = -1) : ∀ (k i : Nat) (v mq : Int32) (rg : Nat → Int32) (bb : Nat → Nat), v = nI (a + i) → rg = fillI rf a i to → mq = mp + nI i → bb = fillN b (256 * a) (256 * i) 0 → a + i + k = c → Run m_P_mapAll n 0 0 3 ([some (.ref 3), some (.int x), some (.int y), some (.int to), some (.int v)], [], Ac fp le lp lb il tf tz (sbf bb) rg fr mq sc ifp ib ie pw dh rl rb re sy sb rc sg ex) (vm_is none (Ac fp le lp lb il tf tz (sbf (fillN b (256 * a) (256 * (c - a)) 0)) (fillI rf a (c - a) to) fr (mp + nI (c - a)) sc ifp ib ie pw dh rl rb re sy sb rc sg ex))
  | 0, i, v, mq, rg, bb, hv, hrg, hmq, hbb, h => by
    refine Run.blk (gs := [True, True]) (S' := ([some (.ref 3), some (.int x), some (.int y), some (.int to), some (.int v)], [.int y, .int v], Ac fp le lp lb il tf tz (sbf bb) rg fr mq sc ifp ib ie pw dh rl rb re sy sb rc sg ex)) k_P_mapAll_3 kc_P_mapAll_3 rfl ⟨trivial, trivial, trivial⟩ ?_
    refine Run.br (tgt := 56) d_P_mapAll_6 rfl (by decide) (fun c_1 => ?_) (fun c_1 => ?_)
    · obtain rfl : i = c - a := by omega
      exact Run.ret (r := none) ⟨d_P_mapAll_56, rfl⟩ ⟨rfl, by rw [hrg, hmq, hbb]⟩
    · exact absurd (by rw [hv]; exact (nI_gt (a := a + i) hy (by omega)).mpr (by omega)) c_1
  | k + 1, i, v, mq, rg, bb, hv, hrg, hmq, hbb, h => by
    refine Run.blk (gs := [True, True]) (S' := ([some (.ref 3), some (.int x), some (.int y), some (.int to), some (.int v)], [.int y, .int v], Ac fp le lp lb il tf tz (sbf bb) rg fr mq sc ifp ib ie pw dh rl rb re sy sb rc sg ex)) k_P_mapAll_3 kc_P_mapAll_3 rfl ⟨trivial, trivial, trivial⟩ ?_
    refine Run.br (tgt := 56) d_P_mapAll_6 rfl (by decide) (fun c_1 => ?_) (fun c_1 => ?_)
    · exact absurd ((nI_gt (a := a + i) hy (by omega)).mp (by rw [← hv]; exact c_1)) (by omega)
    · refine Run.blk (gs := [True]) (S' := ([some (.ref 3), some (.int x), some (.int y), some (.int to), some (.int v)], [.int v], Ac fp le lp lb il tf tz (sbf bb) rg fr mq sc ifp ib ie pw dh rl rb re sy sb rc sg ex)) k_P_mapAll_9 kc_P_mapAll_9 rfl ⟨trivial, trivial⟩ ?_
      refine Run.callN (As := [.int v]) (rest := []) v_P_mapAll_11 (c_L_isPage v) rfl (Nat.le_of_ble_eq_true rfl) rfl (fun r cs' hp => ?_)
      obtain ⟨rfl, rfl⟩ := hp
      show Run _ _ _ _ 14 ([some (.ref 3), some (.int x), some (.int y), some (.int to), some (.int v)], [.int (if 0 ≤ v.toInt ∧ v.toInt < 64 then 1 else 0)], Ac fp le lp lb il tf tz (sbf bb) rg fr mq sc ifp ib ie pw dh rl rb re sy sb rc sg ex) _
      refine Run.br (tgt := 50) d_P_mapAll_14 rfl (by decide) (fun c_2 => ?_) (fun c_2 => ?_)
      · have c_2 := zi_f c_2
        exact absurd (by rw [hv, nI_toInt (by omega)]; omega) c_2
      · have c_2 := zi_t c_2
        refine Run.blk (gs := [True, True]) (S' := ([some (.ref 3), some (.int x), some (.int y), some (.int to), some (.int v)], [.int v, .ref 3], Ac fp le lp lb il tf tz (sbf bb) rg fr mq sc ifp ib ie pw dh rl rb re sy sb rc sg ex)) k_P_mapAll_17 kc_P_mapAll_17 rfl ⟨trivial, trivial, trivial⟩ ?_
        refine Run.callV (b := 3) (As := [.int v]) (rest := []) v_P_mapAll_20 c_P_rightsOf rfl (Nat.le_of_ble_eq_true rfl) rfl rfl rfl rfl (fun r cs' hp => ?_)
        obtain ⟨rfl, rfl⟩ := hp
        show Run _ _ _ _ 23 ([some (.ref 3), some (.int x), some (.int y), some (.int to), some (.int v)], [.int (rO rg v)], Ac fp le lp lb il tf tz (sbf bb) rg fr mq sc ifp ib ie pw dh rl rb re sy sb rc sg ex) _
        refine Run.blk (gs := [True]) (S' := ([some (.ref 3), some (.int x), some (.int y), some (.int to), some (.int v)], [.int (-1 : Int32), .int (rO rg v)], Ac fp le lp lb il tf tz (sbf bb) rg fr mq sc ifp ib ie pw dh rl rb re sy sb rc sg ex)) k_P_mapAll_23 kc_P_mapAll_23 rfl ⟨trivial, trivial⟩ ?_
        refine Run.br (tgt := 50) d_P_mapAll_24 rfl (by decide) (fun c_3 => ?_) (fun c_3 => ?_)
        · exact absurd (by rw [hv, rO_in (by omega), hrg, fillI_hi (by omega)]; exact hfree _ (by omega) (by omega)) c_3
        · have c_3 := Classical.not_not.mp c_3
          refine Run.blk (gs := [True, True, True]) (S' := ([some (.ref 3), some (.int x), some (.int y), some (.int to), some (.int v)], [.int to, .int v, .ref 3], Ac fp le lp lb il tf tz (sbf bb) rg fr mq sc ifp ib ie pw dh rl rb re sy sb rc sg ex)) k_P_mapAll_27 kc_P_mapAll_27 rfl ⟨trivial, trivial, trivial, trivial⟩ ?_
          refine Run.callV (b := 3) (As := [.int v, .int to]) (rest := []) v_P_mapAll_31 (c_P_setRights (p := a + i) hv (by omega)) rfl (Nat.le_of_ble_eq_true rfl) rfl rfl rfl rfl (fun r cs' hp => ?_)
          obtain ⟨rfl, rfl⟩ := hp
          show Run _ _ _ _ 34 ([some (.ref 3), some (.int x), some (.int y), some (.int to), some (.int v)], [], Ac fp le lp lb il tf tz (sbf bb) (upd rg (a + i) to) fr mq sc ifp ib ie pw dh rl rb re sy sb rc sg ex) _
          refine Run.blk (gs := [True, True, True, True, True, True, True, True]) (S' := ([some (.ref 3), some (.int x), some (.int y), some (.int to), some (.int v)], [.int v, .ref 3], Ac fp le lp lb il tf tz (sbf bb) (upd rg (a + i) to) fr (mq + (1 : Int32)) sc ifp ib ie pw dh rl rb re sy sb rc sg ex)) k_P_mapAll_34 kc_P_mapAll_34 rfl ⟨trivial, trivial, trivial, trivial, trivial, trivial, trivial, trivial, trivial⟩ ?_
          refine Run.callV (b := 3) (As := [.int v]) (rest := []) v_P_mapAll_47 (c_P_clear (p := a + i) hv (by omega)) rfl (Nat.le_of_ble_eq_true rfl) rfl rfl rfl rfl (fun r cs' hp => ?_)
          obtain ⟨rfl, rfl⟩ := hp
          show Run _ _ _ _ 50 ([some (.ref 3), some (.int x), some (.int y), some (.int to), some (.int v)], [], Ac fp le lp lb il tf tz (sbf (fillN bb (256 * (a + i)) 256 0)) (upd rg (a + i) to) fr (mq + (1 : Int32)) sc ifp ib ie pw dh rl rb re sy sb rc sg ex) _
          refine Run.blk (gs := [True]) (S' := ([some (.ref 3), some (.int x), some (.int y), some (.int to), some (.int (v + (1 : Int32)))], [], Ac fp le lp lb il tf tz (sbf (fillN bb (256 * (a + i)) 256 0)) (upd rg (a + i) to) fr (mq + (1 : Int32)) sc ifp ib ie pw dh rl rb re sy sb rc sg ex)) k_P_mapAll_50 kc_P_mapAll_50 rfl ⟨trivial, trivial⟩ ?_
          refine Run.goto (tgt := 3) d_P_mapAll_53 (by decide) ?_
          exact l_P_mapAll hy hc hac hfree k (i + 1) _ _ _ _ (by rw [hv, nI_1]; rfl) (by rw [hrg, fillI_s]) (by rw [hmq, a_1]) (by rw [hbb, show 256 * (a + i) = 256 * a + 256 * i by omega, fillN_app]; rfl) (by omega)
set_option maxRecDepth 100000 in
set_option maxHeartbeats 4000000 in
theorem c_P_mapAll {a c : Nat} {x y to : Int32} (hx : x = nI a) (hy : y.toInt = (c : Int) - 1) (hc : c ≤ 64) (hac : a ≤ c) (hfree : ∀ j, a ≤ j → j < c → rf j = -1) : Ct m_P_mapAll 0 0 [.ref 3, .int x, .int y, .int to] (Ac fp le lp lb il tf tz (sbf b) rf fr mp sc ifp ib ie pw dh rl rb re sy sb rc sg ex) (vm_is none (Ac fp le lp lb il tf tz (sbf (fillN b (256 * a) (256 * (c - a)) 0)) (fillI rf a (c - a) to) fr (mp + nI (c - a)) sc ifp ib ie pw dh rl rb re sy sb rc sg ex)) := by
  refine Ct.of ⟨by decide +kernel, rfl⟩ (Nat.le_of_ble_eq_true rfl) (lv := [some (.ref 3), some (.int x), some (.int y), some (.int to), none]) rfl ?_
  refine Run.blk (gs := [True, True]) (S' := ([some (.ref 3), some (.int x), some (.int y), some (.int to), some (.int x)], [], Ac fp le lp lb il tf tz (sbf b) rf fr mp sc ifp ib ie pw dh rl rb re sy sb rc sg ex)) k_P_mapAll_0 kc_P_mapAll_0 rfl ⟨trivial, trivial, trivial⟩ ?_
  exact l_P_mapAll hy hc hac hfree (c - a) 0 _ _ _ _ hx (fillI_0 _ _ _).symm (by show mp = mp + 0; exact (Int32.add_zero mp).symm) (fillN_0 _ _ _).symm (by omega)
end P17
end
section
theorem wb_tb (n : Nat) : (lN n).toBitVec = BitVec.ofNat 64 n := rfl
theorem wb_inj {a b : Int64} (h : a.toBitVec = b.toBitVec) : a = b := Int64.toBitVec_inj.mp h
theorem wb_tn {n : Nat} (h : n < 2 ^ 64) : (lN n).toBitVec.toNat = n := by rw [wb_tb, BitVec.toNat_ofNat, Nat.mod_eq_of_lt h]
theorem wb_of (x : Int64) : ∃ n, n < 2 ^ 64 ∧ x = lN n := ⟨x.toBitVec.toNat, x.toBitVec.isLt, wb_inj (by rw [wb_tb]; simp)⟩
theorem wb_of32 (x : Int32) : ∃ n, n < 2 ^ 32 ∧ x = nI n := ⟨x.toBitVec.toNat, x.toBitVec.isLt, Int32.toBitVec_inj.mp (by show _ = BitVec.ofNat 32 _; simp)⟩
theorem wb_c : ∀ k, k < 64 → ((nI k).toInt64 &&& 63) = lN k := by decide +kernel
theorem wb_cu : ∀ k, k < 64 → ((nI k).toInt64.toUInt64 &&& Int64.toUInt64 63) = UInt64.ofNat k := by decide +kernel
theorem wb_sm : ∀ k, k < 64 → (BitVec.ofNat 64 k).smod 64 = BitVec.ofNat 64 k := by decide +kernel
theorem wb_pw {a b : Nat} (h : a ≤ b) : 2 ^ b = 2 ^ a * 2 ^ (b - a) := by rw [← Nat.pow_add]; congr 1; omega
theorem wb_lt2 {a b : Nat} (h : a < b) : 2 ^ a < 2 ^ b := Nat.pow_lt_pow_right (by decide) h
theorem wb_mod (n : Nat) : lN n = lN (n % 2 ^ 64) := wb_inj (by rw [wb_tb, wb_tb]; apply BitVec.eq_of_toNat_eq; rw [BitVec.toNat_ofNat, BitVec.toNat_ofNat, Nat.mod_mod])
theorem wb_shr {n k : Nat} (hn : n < 2 ^ 64) (hk : k < 64) : ((lN n).toUInt64 >>> ((nI k).toInt64.toUInt64 &&& Int64.toUInt64 63)).toInt64 = lN (n / 2 ^ k) := by
  rw [wb_cu k hk]
  apply wb_inj
  apply BitVec.eq_of_toNat_eq
  show ((lN n).toUInt64 >>> UInt64.ofNat k).toNat = (BitVec.ofNat 64 _).toNat
  have h1 : (UInt64.ofNat k).toNat = k := by
    show (BitVec.ofNat 64 k).toNat = k
    rw [BitVec.toNat_ofNat, Nat.mod_eq_of_lt (by omega)]
  have h2 : (lN n).toUInt64.toNat = n := wb_tn hn
  rw [UInt64.toNat_shiftRight, h1, h2, Nat.mod_eq_of_lt hk, Nat.shiftRight_eq_div_pow, BitVec.toNat_ofNat, Nat.mod_eq_of_lt (Nat.lt_of_le_of_lt (Nat.div_le_self _ _) hn)]
theorem wb_shl (n : Nat) {k : Nat} (hk : k < 64) : lN n <<< ((nI k).toInt64 &&& 63) = lN (n * 2 ^ k) := by
  rw [wb_c k hk]
  apply wb_inj
  rw [Int64.toBitVec_shiftLeft, wb_tb, wb_tb, wb_tb, wb_sm k hk]
  apply BitVec.eq_of_toNat_eq
  rw [BitVec.shiftLeft_eq', BitVec.toNat_shiftLeft, BitVec.toNat_ofNat, BitVec.toNat_ofNat, BitVec.toNat_ofNat, Nat.mod_eq_of_lt (show k < 2 ^ 64 by omega), Nat.shiftLeft_eq, Nat.mul_mod, Nat.mod_mod, ← Nat.mul_mod]
theorem wb_and {a b : Nat} (ha : a < 2 ^ 64) (hb : b < 2 ^ 64) : lN a &&& lN b = lN (a &&& b) := by
  apply wb_inj
  rw [Int64.toBitVec_and, wb_tb, wb_tb, wb_tb]
  apply BitVec.eq_of_toNat_eq
  rw [BitVec.toNat_and, BitVec.toNat_ofNat, BitVec.toNat_ofNat, BitVec.toNat_ofNat, Nat.mod_eq_of_lt ha, Nat.mod_eq_of_lt hb, Nat.mod_eq_of_lt (Nat.and_lt_two_pow _ hb)]
theorem wb_or {a b : Nat} (ha : a < 2 ^ 64) (hb : b < 2 ^ 64) : lN a ||| lN b = lN (a ||| b) := by
  apply wb_inj
  rw [Int64.toBitVec_or, wb_tb, wb_tb, wb_tb]
  apply BitVec.eq_of_toNat_eq
  rw [BitVec.toNat_or, BitVec.toNat_ofNat, BitVec.toNat_ofNat, BitVec.toNat_ofNat, Nat.mod_eq_of_lt ha, Nat.mod_eq_of_lt hb, Nat.mod_eq_of_lt (Nat.or_lt_two_pow ha hb)]
theorem wb_mask {n k : Nat} (hn : n < 2 ^ 64) (hk : k < 64) : lN n &&& lN (2 ^ k - 1) = lN (n % 2 ^ k) := by
  rw [wb_and hn (by have := wb_lt2 hk; omega), Nat.and_two_pow_sub_one_eq_mod]
theorem wb_a1 {n : Nat} (hn : n < 2 ^ 64) : lN n &&& 1 = lN (n % 2) := wb_mask (k := 1) hn (by decide)
theorem wb_bit {n k : Nat} (hn : n < 2 ^ 64) (hk : k < 64) : ((lN n).toUInt64 >>> ((nI k).toInt64.toUInt64 &&& Int64.toUInt64 63)).toInt64 &&& 1 = lN (n / 2 ^ k % 2) := by
  rw [wb_shr hn hk, wb_a1 (Nat.lt_of_le_of_lt (Nat.div_le_self _ _) hn)]
theorem u_tn {n : Nat} (h : n < 2 ^ 64) : (UInt64.ofNat n).toNat = n := Nat.mod_eq_of_lt h
theorem g_and {a b c : Nat} (ha : a < 2 ^ 64) (hb : b < 2 ^ 64) (hc : a &&& b = c) : lN a &&& lN b = lN c := by
  subst hc
  have h : UInt64.ofNat a &&& UInt64.ofNat b = UInt64.ofNat (a &&& b) := UInt64.toNat_inj.mp (by rw [UInt64.toNat_and, u_tn ha, u_tn hb, u_tn (Nat.and_lt_two_pow a hb)])
  have h2 := congrArg UInt64.toInt64 h
  exact h2
theorem g_and1 {a : Nat} (ha : a < 2 ^ 64) : lN a &&& 1 = lN (a % 2) := g_and (b := 1) ha (by decide) (Nat.and_two_pow_sub_one_eq_mod a 1)
theorem g_mask {a s p : Nat} (hp : 2 ^ s = p) (hs : s < 64) (ha : a < 2 ^ 64) : lN a &&& lN (p - 1) = lN (a % p) := by
  subst hp
  have := Nat.pow_lt_pow_right (show 1 < 2 by decide) hs
  exact g_and ha (by omega) (Nat.and_two_pow_sub_one_eq_mod a s)
theorem g_or {k p a b : Nat} (hp : 2 ^ k = p) (ha : a < p) (h : b * p + a < 2 ^ 64) : lN (b * p) ||| lN a = lN (b * p + a) := by
  subst hp
  have h1 : b * 2 ^ k ||| a = b * 2 ^ k + a := by rw [← Nat.shiftLeft_eq, Nat.shiftLeft_add_eq_or_of_lt ha]
  have h3 : UInt64.ofNat (b * 2 ^ k) ||| UInt64.ofNat a = UInt64.ofNat (b * 2 ^ k + a) := UInt64.toNat_inj.mp (by rw [UInt64.toNat_or, u_tn (by omega), u_tn (by omega), u_tn h, h1])
  have h2 := congrArg UInt64.toInt64 h3
  exact h2
theorem g_or' {k p a b : Nat} (hp : 2 ^ k = p) (ha : a < p) (h : a + b * p < 2 ^ 64) : lN a ||| lN (b * p) = lN (a + b * p) := by
  rw [Int64.or_comm, g_or hp ha (by omega), Nat.add_comm]
theorem g_ushr {a k p : Nat} {y : UInt64} (hy : y = UInt64.ofNat k) (hk : k < 64) (hp : 2 ^ k = p) (ha : a < 2 ^ 64) : ((lN a).toUInt64 >>> y).toInt64 = lN (a / p) := by
  subst hy hp
  have h : UInt64.ofNat a >>> UInt64.ofNat k = UInt64.ofNat (a / 2 ^ k) := UInt64.toNat_inj.mp (by rw [UInt64.toNat_shiftRight, u_tn ha, u_tn (by omega), u_tn (Nat.lt_of_le_of_lt (Nat.div_le_self _ _) ha), Nat.mod_eq_of_lt hk, Nat.shiftRight_eq_div_pow])
  have h2 := congrArg UInt64.toInt64 h
  exact h2
theorem g_shl {a k p : Nat} {y : Int64} (hy : y.toBitVec.smod 64 = BitVec.ofNat 64 k) (hk : k < 64) (hp : 2 ^ k = p) (ha : a < 2 ^ 64) : lN a <<< y = lN (a * p) := by
  subst hp
  apply Int64.toBitVec_inj.mp
  rw [Int64.toBitVec_shiftLeft, hy]
  apply BitVec.eq_of_toNat_eq
  have hb : (lN a).toBitVec.toNat = a := Nat.mod_eq_of_lt ha
  have hk' : (BitVec.ofNat 64 k).toNat = k := Nat.mod_eq_of_lt (by omega)
  have h : ((lN a).toBitVec <<< BitVec.ofNat 64 k).toNat = (a * 2 ^ k) % 2 ^ 64 := by simp only [BitVec.shiftLeft_eq', BitVec.toNat_shiftLeft, hb, hk', Nat.shiftLeft_eq]
  exact h
/-! ===== lN to 2^62 under >> and >>> ===== -/
theorem pf_lI {a : Nat} (h : a < 2 ^ 63) : (lN a).toInt = (a : Int) := lg_ofNat_toInt h
theorem pf_shr {a d : Nat} {D : Int64} (hD : (D.toBitVec.smod 64).toNat = d) (h : a < 2 ^ 62) : lN a >>> D = lN (a / 2 ^ d) := by
  have hd : a / 2 ^ d ≤ a := Nat.div_le_self _ _
  apply Int64.toInt_inj.mp
  have e : (lN a >>> D).toInt = (lN a).toInt >>> d := by
    rw [← hD]
    exact BitVec.toInt_sshiftRight ..
  rw [e, Int.shiftRight_eq_div_pow, pf_lI (by omega), pf_lI (by omega)]
  rfl
theorem pf_ushr {a d : Nat} {D : UInt64} (hD : D.toNat % 64 = d) (h : a < 2 ^ 62) : ((lN a).toUInt64 >>> D).toInt64 = lN (a / 2 ^ d) := by
  have hd : a / 2 ^ d ≤ a := Nat.div_le_self _ _
  have e : (lN a).toUInt64 >>> D = UInt64.ofNat (a / 2 ^ d) := UInt64.toNat_inj.mp (by
    rw [UInt64.toNat_shiftRight, hD, Nat.shiftRight_eq_div_pow, UInt64.toNat_ofNat']
    show (UInt64.ofNat a).toNat / 2 ^ d = _
    rw [UInt64.toNat_ofNat', Nat.mod_eq_of_lt (by omega), Nat.mod_eq_of_lt (by omega)])
  rw [e]
  rfl
theorem pf_andw (x : Int64) : ∃ m, m < 2 ^ 32 ∧ x &&& 4294967295 = lN m := ⟨x.toBitVec.toNat % 2 ^ 32, Nat.mod_lt _ (by decide), Int64.toBitVec_inj.mp (BitVec.eq_of_toNat_eq (by
  show (x.toBitVec &&& 4294967295#64).toNat = (BitVec.ofNat 64 (x.toBitVec.toNat % 2 ^ 32)).toNat
  rw [BitVec.toNat_and, show (4294967295#64).toNat = 2 ^ 32 - 1 from by decide, Nat.and_two_pow_sub_one_eq_mod, BitVec.toNat_ofNat]
  omega))⟩
end
section
section P18
variable {fp le lp lb il : Int32} {tf bf rf : Nat → Int32} {tz fr mp sc ifp ib ie pw dh rc : Int32} {rl rb re sy sb : Int64} {sg : Nat → A_G} {ex : List va_E}
variable {b : Nat → Nat} {n : Nat}
def f_P_refusal (rf : Nat → Int32) (x y r : Int32) : Int32 := if y.toInt = 1 ∨ y.toInt = 2 ∨ y.toInt = 4 then (if (x &&& (y - (1 : Int32))) = 0 then (if (rO rf (f_J_floorDiv x (256 : Int32))) = (-1 : Int32) then (-1 : Int32) else (if ((rO rf (f_J_floorDiv x (256 : Int32))) &&& r) = 0 then (-2 : Int32) else (0 : Int32))) else (-3 : Int32)) else (-4 : Int32)
set_option maxRecDepth 100000 in
set_option maxHeartbeats 4000000 in
theorem c_P_refusal {x y r : Int32} : Ct m_P_refusal 0 0 [.ref 3, .int x, .int y, .int r] (Ac fp le lp lb il tf tz bf rf fr mp sc ifp ib ie pw dh rl rb re sy sb rc sg ex) (vm_is (some (.int (f_P_refusal rf x y r))) (Ac fp le lp lb il tf tz bf rf fr mp sc ifp ib ie pw dh rl rb re sy sb rc sg ex)) := by
  refine Ct.of ⟨by decide +kernel, rfl⟩ (Nat.le_of_ble_eq_true rfl) (lv := [some (.ref 3), some (.int x), some (.int y), some (.int r), none]) rfl ?_
  refine Run.blk (gs := [True]) (S' := ([some (.ref 3), some (.int x), some (.int y), some (.int r), none], [.int y], Ac fp le lp lb il tf tz bf rf fr mp sc ifp ib ie pw dh rl rb re sy sb rc sg ex)) k_P_refusal_0 kc_P_refusal_0 rfl ⟨trivial, trivial⟩ ?_
  refine Run.callN (As := [.int y]) (rest := []) v_P_refusal_1 (c_L_isSize y) rfl (Nat.le_of_ble_eq_true rfl) rfl (fun r cs' hp => ?_)
  obtain ⟨rfl, rfl⟩ := hp
  show Run _ _ _ _ 4 ([some (.ref 3), some (.int x), some (.int y), some (.int r), none], [.int (if y.toInt = 1 ∨ y.toInt = 2 ∨ y.toInt = 4 then 1 else 0)], Ac fp le lp lb il tf tz bf rf fr mp sc ifp ib ie pw dh rl rb re sy sb rc sg ex) _
  refine Run.br (tgt := 10) d_P_refusal_4 rfl (by decide) (fun c_1 => ?_) (fun c_1 => ?_)
  · have c_1 := zi_t c_1
    refine Run.blk (gs := [True, True, True, True, True]) (S' := ([some (.ref 3), some (.int x), some (.int y), some (.int r), none], [.int (x &&& (y - (1 : Int32)))], Ac fp le lp lb il tf tz bf rf fr mp sc ifp ib ie pw dh rl rb re sy sb rc sg ex)) k_P_refusal_10 kc_P_refusal_10 rfl ⟨trivial, trivial, trivial, trivial, trivial, trivial⟩ ?_
    refine Run.br (tgt := 21) d_P_refusal_15 rfl (by decide) (fun c_2 => ?_) (fun c_2 => ?_)
    · refine Run.blk (gs := [True, True, True]) (S' := ([some (.ref 3), some (.int x), some (.int y), some (.int r), none], [.int (256 : Int32), .int x, .ref 3], Ac fp le lp lb il tf tz bf rf fr mp sc ifp ib ie pw dh rl rb re sy sb rc sg ex)) k_P_refusal_21 kc_P_refusal_21 rfl ⟨trivial, trivial, trivial, trivial⟩ ?_
      refine Run.callS (As := [.int x, .int (256 : Int32)]) (rest := [.ref 3]) v_P_refusal_26 (c_J_floorDiv x (256 : Int32) (by decide)) rfl (Nat.le_of_ble_eq_true rfl) rfl (fun r cs' hp => ?_)
      obtain ⟨rfl, rfl⟩ := hp
      show Run _ _ _ _ 29 ([some (.ref 3), some (.int x), some (.int y), some (.int r), none], [.int (f_J_floorDiv x (256 : Int32)), .ref 3], Ac fp le lp lb il tf tz bf rf fr mp sc ifp ib ie pw dh rl rb re sy sb rc sg ex) _
      refine Run.callV (b := 3) (As := [.int (f_J_floorDiv x (256 : Int32))]) (rest := []) v_P_refusal_29 c_P_rightsOf rfl (Nat.le_of_ble_eq_true rfl) rfl rfl rfl rfl (fun r cs' hp => ?_)
      obtain ⟨rfl, rfl⟩ := hp
      show Run _ _ _ _ 32 ([some (.ref 3), some (.int x), some (.int y), some (.int r), none], [.int (rO rf (f_J_floorDiv x (256 : Int32)))], Ac fp le lp lb il tf tz bf rf fr mp sc ifp ib ie pw dh rl rb re sy sb rc sg ex) _
      refine Run.blk (gs := [True, True, True]) (S' := ([some (.ref 3), some (.int x), some (.int y), some (.int r), some (.int (rO rf (f_J_floorDiv x (256 : Int32))))], [.int (-1 : Int32), .int (rO rf (f_J_floorDiv x (256 : Int32)))], Ac fp le lp lb il tf tz bf rf fr mp sc ifp ib ie pw dh rl rb re sy sb rc sg ex)) k_P_refusal_32 kc_P_refusal_32 rfl ⟨trivial, trivial, trivial, trivial⟩ ?_
      refine Run.br (tgt := 42) d_P_refusal_37 rfl (by decide) (fun c_3 => ?_) (fun c_3 => ?_)
      · refine Run.blk (gs := [True, True, True]) (S' := ([some (.ref 3), some (.int x), some (.int y), some (.int r), some (.int (rO rf (f_J_floorDiv x (256 : Int32))))], [.int ((rO rf (f_J_floorDiv x (256 : Int32))) &&& r)], Ac fp le lp lb il tf tz bf rf fr mp sc ifp ib ie pw dh rl rb re sy sb rc sg ex)) k_P_refusal_42 kc_P_refusal_42 rfl ⟨trivial, trivial, trivial, trivial⟩ ?_
        refine Run.br (tgt := 53) d_P_refusal_46 rfl (by decide) (fun c_4 => ?_) (fun c_4 => ?_)
        · refine Run.blk (gs := [True]) (S' := ([some (.ref 3), some (.int x), some (.int y), some (.int r), some (.int (rO rf (f_J_floorDiv x (256 : Int32))))], [.int (-2 : Int32)], Ac fp le lp lb il tf tz bf rf fr mp sc ifp ib ie pw dh rl rb re sy sb rc sg ex)) k_P_refusal_53 kc_P_refusal_53 rfl ⟨trivial, trivial⟩ ?_
          exact Run.ret (r := some (.int (-2 : Int32))) ⟨d_P_refusal_55, _, rfl, rfl⟩ ⟨by unfold f_P_refusal; rw [if_pos c_1, if_pos c_2, if_neg c_3, if_pos c_4], rfl⟩
        · refine Run.blk (gs := [True]) (S' := ([some (.ref 3), some (.int x), some (.int y), some (.int r), some (.int (rO rf (f_J_floorDiv x (256 : Int32))))], [.int (0 : Int32)], Ac fp le lp lb il tf tz bf rf fr mp sc ifp ib ie pw dh rl rb re sy sb rc sg ex)) k_P_refusal_49 kc_P_refusal_49 rfl ⟨trivial, trivial⟩ ?_
          refine Run.goto (tgt := 55) d_P_refusal_50 (by decide) ?_
          exact Run.ret (r := some (.int (0 : Int32))) ⟨d_P_refusal_55, _, rfl, rfl⟩ ⟨by unfold f_P_refusal; rw [if_pos c_1, if_pos c_2, if_neg c_3, if_neg c_4], rfl⟩
      · have c_3 := Classical.not_not.mp c_3
        refine Run.blk (gs := [True]) (S' := ([some (.ref 3), some (.int x), some (.int y), some (.int r), some (.int (rO rf (f_J_floorDiv x (256 : Int32))))], [.int (-1 : Int32)], Ac fp le lp lb il tf tz bf rf fr mp sc ifp ib ie pw dh rl rb re sy sb rc sg ex)) k_P_refusal_40 kc_P_refusal_40 rfl ⟨trivial, trivial⟩ ?_
        exact Run.ret (r := some (.int (-1 : Int32))) ⟨d_P_refusal_41, _, rfl, rfl⟩ ⟨by unfold f_P_refusal; rw [if_pos c_1, if_pos c_2, if_pos c_3], rfl⟩
    · refine Run.blk (gs := [True]) (S' := ([some (.ref 3), some (.int x), some (.int y), some (.int r), none], [.int (-3 : Int32)], Ac fp le lp lb il tf tz bf rf fr mp sc ifp ib ie pw dh rl rb re sy sb rc sg ex)) k_P_refusal_18 kc_P_refusal_18 rfl ⟨trivial, trivial⟩ ?_
      exact Run.ret (r := some (.int (-3 : Int32))) ⟨d_P_refusal_20, _, rfl, rfl⟩ ⟨by unfold f_P_refusal; rw [if_pos c_1, if_neg c_2], rfl⟩
  · have c_1 := zi_f (Classical.not_not.mp c_1)
    refine Run.blk (gs := [True]) (S' := ([some (.ref 3), some (.int x), some (.int y), some (.int r), none], [.int (-4 : Int32)], Ac fp le lp lb il tf tz bf rf fr mp sc ifp ib ie pw dh rl rb re sy sb rc sg ex)) k_P_refusal_7 kc_P_refusal_7 rfl ⟨trivial, trivial⟩ ?_
    exact Run.ret (r := some (.int (-4 : Int32))) ⟨d_P_refusal_9, _, rfl, rfl⟩ ⟨by unfold f_P_refusal; rw [if_neg c_1], rfl⟩
set_option maxRecDepth 100000 in
set_option maxHeartbeats 4000000 in
theorem l_P_pagesWith {r : Int32} : ∀ (k i : Nat) (f v : Int32) (q4 : Option Value), v = nI i → f = nI (pwC rf r i) → i + k = 64 → Run m_P_pagesWith n 0 0 4 ([some (.ref 3), some (.int r), some (.int f), some (.int v), q4], [], Ac fp le lp lb il tf tz bf rf fr mp sc ifp ib ie pw dh rl rb re sy sb rc sg ex) (vm_is (some (.int (nI (pwC rf r 64)))) (Ac fp le lp lb il tf tz bf rf fr mp sc ifp ib ie pw dh rl rb re sy sb rc sg ex))
  | 0, i, f, v, q4, hv, hf, h => by
    obtain rfl : i = 64 := by omega
    refine Run.blk (gs := [True, True]) (S' := ([some (.ref 3), some (.int r), some (.int f), some (.int v), q4], [.int (64 : Int32), .int v], Ac fp le lp lb il tf tz bf rf fr mp sc ifp ib ie pw dh rl rb re sy sb rc sg ex)) k_P_pagesWith_4 kc_P_pagesWith_4 rfl ⟨trivial, trivial, trivial⟩ ?_
    refine Run.br (tgt := 39) d_P_pagesWith_7 rfl (by decide) (fun c_1 => ?_) (fun c_1 => ?_)
    · refine Run.blk (gs := [True]) (S' := ([some (.ref 3), some (.int r), some (.int f), some (.int v), q4], [.int f], Ac fp le lp lb il tf tz bf rf fr mp sc ifp ib ie pw dh rl rb re sy sb rc sg ex)) k_P_pagesWith_39 kc_P_pagesWith_39 rfl ⟨trivial, trivial⟩ ?_
      exact Run.ret (r := some (.int f)) ⟨d_P_pagesWith_40, _, rfl, rfl⟩ ⟨by rw [hf], rfl⟩
    · exact absurd (by rw [hv]; exact Int32.le_refl _) c_1
  | k + 1, i, f, v, q4, hv, hf, h => by
    refine Run.blk (gs := [True, True]) (S' := ([some (.ref 3), some (.int r), some (.int f), some (.int v), q4], [.int (64 : Int32), .int v], Ac fp le lp lb il tf tz bf rf fr mp sc ifp ib ie pw dh rl rb re sy sb rc sg ex)) k_P_pagesWith_4 kc_P_pagesWith_4 rfl ⟨trivial, trivial, trivial⟩ ?_
    refine Run.br (tgt := 39) d_P_pagesWith_7 rfl (by decide) (fun c_1 => ?_) (fun c_1 => ?_)
    · exact absurd c_1 (by rw [hv]; exact nI_ge (show i < 64 by omega) (by decide))
    · refine Run.blk (gs := [True, True]) (S' := ([some (.ref 3), some (.int r), some (.int f), some (.int v), q4], [.int v, .ref 3], Ac fp le lp lb il tf tz bf rf fr mp sc ifp ib ie pw dh rl rb re sy sb rc sg ex)) k_P_pagesWith_10 kc_P_pagesWith_10 rfl ⟨trivial, trivial, trivial⟩ ?_
      refine Run.callV (b := 3) (As := [.int v]) (rest := []) v_P_pagesWith_12 c_P_rightsOf rfl (Nat.le_of_ble_eq_true rfl) rfl rfl rfl rfl (fun r cs' hp => ?_)
      obtain ⟨rfl, rfl⟩ := hp
      show Run _ _ _ _ 15 ([some (.ref 3), some (.int r), some (.int f), some (.int v), q4], [.int (rO rf v)], Ac fp le lp lb il tf tz bf rf fr mp sc ifp ib ie pw dh rl rb re sy sb rc sg ex) _
      refine Run.blk (gs := [True, True, True]) (S' := ([some (.ref 3), some (.int r), some (.int f), some (.int v), some (.int (rO rf v))], [.int (-1 : Int32), .int (rO rf v)], Ac fp le lp lb il tf tz bf rf fr mp sc ifp ib ie pw dh rl rb re sy sb rc sg ex)) k_P_pagesWith_15 kc_P_pagesWith_15 rfl ⟨trivial, trivial, trivial, trivial⟩ ?_
      refine Run.br (tgt := 33) d_P_pagesWith_20 rfl (by decide) (fun c_2 => ?_) (fun c_2 => ?_)
      · rw [hv, rO_in (by omega)] at c_2
        refine Run.blk (gs := [True]) (S' := ([some (.ref 3), some (.int r), some (.int f), some (.int (v + (1 : Int32))), some (.int (rO rf v))], [], Ac fp le lp lb il tf tz bf rf fr mp sc ifp ib ie pw dh rl rb re sy sb rc sg ex)) k_P_pagesWith_33 kc_P_pagesWith_33 rfl ⟨trivial, trivial⟩ ?_
        refine Run.goto (tgt := 4) d_P_pagesWith_36 (by decide) ?_
        exact l_P_pagesWith k (i + 1) _ _ _ (by rw [hv, nI_1]) (by rw [hf, pwC, if_pos c_2]; rfl) (by omega)
      · rw [hv, rO_in (by omega)] at c_2
        refine Run.blk (gs := [True, True, True]) (S' := ([some (.ref 3), some (.int r), some (.int f), some (.int v), some (.int (rO rf v))], [.int ((rO rf v) &&& r)], Ac fp le lp lb il tf tz bf rf fr mp sc ifp ib ie pw dh rl rb re sy sb rc sg ex)) k_P_pagesWith_23 kc_P_pagesWith_23 rfl ⟨trivial, trivial, trivial, trivial⟩ ?_
        refine Run.br (tgt := 33) d_P_pagesWith_27 rfl (by decide) (fun c_3 => ?_) (fun c_3 => ?_)
        · rw [hv, rO_in (by omega)] at c_3
          refine Run.blk (gs := [True]) (S' := ([some (.ref 3), some (.int r), some (.int f), some (.int (v + (1 : Int32))), some (.int (rO rf v))], [], Ac fp le lp lb il tf tz bf rf fr mp sc ifp ib ie pw dh rl rb re sy sb rc sg ex)) k_P_pagesWith_33 kc_P_pagesWith_33 rfl ⟨trivial, trivial⟩ ?_
          refine Run.goto (tgt := 4) d_P_pagesWith_36 (by decide) ?_
          exact l_P_pagesWith k (i + 1) _ _ _ (by rw [hv, nI_1]) (by rw [hf, pwC, if_neg c_2, if_pos c_3]; rfl) (by omega)
        · rw [hv, rO_in (by omega)] at c_3
          refine Run.blk (gs := [True]) (S' := ([some (.ref 3), some (.int r), some (.int (f + (1 : Int32))), some (.int v), some (.int (rO rf v))], [], Ac fp le lp lb il tf tz bf rf fr mp sc ifp ib ie pw dh rl rb re sy sb rc sg ex)) k_P_pagesWith_30 kc_P_pagesWith_30 rfl ⟨trivial, trivial⟩ ?_
          refine Run.blk (gs := [True]) (S' := ([some (.ref 3), some (.int r), some (.int (f + (1 : Int32))), some (.int (v + (1 : Int32))), some (.int (rO rf v))], [], Ac fp le lp lb il tf tz bf rf fr mp sc ifp ib ie pw dh rl rb re sy sb rc sg ex)) k_P_pagesWith_33 kc_P_pagesWith_33 rfl ⟨trivial, trivial⟩ ?_
          refine Run.goto (tgt := 4) d_P_pagesWith_36 (by decide) ?_
          exact l_P_pagesWith k (i + 1) _ _ _ (by rw [hv, nI_1]) (by rw [hf, pwC, if_neg c_2, if_neg c_3, nI_1]) (by omega)
set_option maxRecDepth 100000 in
set_option maxHeartbeats 4000000 in
theorem c_P_pagesWith {r : Int32} : Ct m_P_pagesWith 0 0 [.ref 3, .int r] (Ac fp le lp lb il tf tz bf rf fr mp sc ifp ib ie pw dh rl rb re sy sb rc sg ex) (vm_is (some (.int (nI (pwC rf r 64)))) (Ac fp le lp lb il tf tz bf rf fr mp sc ifp ib ie pw dh rl rb re sy sb rc sg ex)) := by
  refine Ct.of ⟨by decide +kernel, rfl⟩ (Nat.le_of_ble_eq_true rfl) (lv := [some (.ref 3), some (.int r), none, none, none]) rfl ?_
  refine Run.blk (gs := [True, True, True, True]) (S' := ([some (.ref 3), some (.int r), some (.int (0 : Int32)), some (.int (0 : Int32)), none], [], Ac fp le lp lb il tf tz bf rf fr mp sc ifp ib ie pw dh rl rb re sy sb rc sg ex)) k_P_pagesWith_0 kc_P_pagesWith_0 rfl ⟨trivial, trivial, trivial, trivial, trivial⟩ ?_
  exact l_P_pagesWith 64 0 _ _ _ rfl rfl rfl
def byt (v : Int32) (k : Nat) : Nat := v.toBitVec.toNat / 256 ^ k % 256
theorem byt_lt (v : Int32) (k : Nat) : byt v k < 256 := Nat.mod_lt _ (by decide)
theorem lb8_sh (v s : Int32) (k : Nat) (hs : ((s.toUInt32 &&& Int32.toUInt32 31).toBitVec % 32).toNat = 8 * k) : lb8 (v.toUInt32 >>> (s.toUInt32 &&& Int32.toUInt32 31)).toInt32 = byt v k := by
  unfold lb8 byt
  rw [pk_ushr v s (8 * k) hs, Nat.pow_mul]
def n1 (b : Nat → Nat) (p : Nat) : Nat := b p
def n2 (b : Nat → Nat) (p : Nat) : Nat := b p + 256 * b (p + 1)
def n4 (b : Nat → Nat) (p : Nat) : Nat := b p + 256 * b (p + 1) + 65536 * b (p + 2) + 16777216 * b (p + 3)
def u1 (b : Nat → Nat) (p : Nat) (v : Int32) : Nat → Nat := upN b p (byt v 0)
def u2 (b : Nat → Nat) (p : Nat) (v : Int32) : Nat → Nat := upN (upN b p (byt v 0)) (p + 1) (byt v 1)
def u4 (b : Nat → Nat) (p : Nat) (v : Int32) : Nat → Nat := upN (upN (upN (upN b p (byt v 0)) (p + 1) (byt v 1)) (p + 2) (byt v 2)) (p + 3) (byt v 3)
theorem l_sh (a : Nat) (ha : a < 2 ^ 31) {y : Int32} {k : Nat} (hy : y = nI k) (hk : k < 64) : (nI a).toInt64 <<< (y.toInt64 &&& 63) = lN (a * 2 ^ k) := by
  rw [hy, nI_l ha]; exact wb_shl a hk
theorem n4_lt {b : Nat → Nat} (hb : ∀ j, b j < 256) (p : Nat) : n4 b p < 4294967296 := by
  have h1 := hb p; have h2 := hb (p + 1); have h3 := hb (p + 2); have h4 := hb (p + 3)
  unfold n4; omega
set_option maxRecDepth 100000 in
set_option maxHeartbeats 4000000 in
theorem c_P_number1 {p : Nat} (hb : ∀ j, b j < 256) {x : Int32} (hx : x = nI p) (hp : p + 1 ≤ 16384) : Ct m_P_number 0 0 [.ref 3, .int x, .int (1 : Int32)] (Ac fp le lp lb il tf tz (sbf b) rf fr mp sc ifp ib ie pw dh rl rb re sy sb rc sg ex) (vm_is (some (.long (lN (n1 b p)))) (Ac fp le lp lb il tf tz (sbf b) rf fr mp sc ifp ib ie pw dh rl rb re sy sb rc sg ex)) := by
  subst hx
  refine Ct.of ⟨by decide +kernel, rfl⟩ (Nat.le_of_ble_eq_true rfl) (lv := [some (.ref 3), some (.int (nI p)), some (.int (1 : Int32)), none, none, none]) rfl ?_
  refine Run.blk (gs := [True, True, True, True]) (S' := ([some (.ref 3), some (.int (nI p)), some (.int (1 : Int32)), some (.long (0 : Int64)), none, some (.int (0 : Int32))], [], Ac fp le lp lb il tf tz (sbf b) rf fr mp sc ifp ib ie pw dh rl rb re sy sb rc sg ex)) k_P_number_0 kc_P_number_0 rfl ⟨trivial, trivial, trivial, trivial, trivial⟩ ?_
  refine Run.blk (gs := [True, True]) (S' := ([some (.ref 3), some (.int (nI p)), some (.int (1 : Int32)), some (.long (0 : Int64)), none, some (.int (0 : Int32))], [.int (1 : Int32), .int (0 : Int32)], Ac fp le lp lb il tf tz (sbf b) rf fr mp sc ifp ib ie pw dh rl rb re sy sb rc sg ex)) k_P_number_5 kc_P_number_5 rfl ⟨trivial, trivial, trivial⟩ ?_
  refine Run.br (tgt := 35) d_P_number_8 rfl (by decide) (fun c_1 => ?_) (fun c_1 => ?_)
  · exact absurd c_1 (by decide)
  · refine Run.blk (gs := [True, True, True, True, True]) (S' := ([some (.ref 3), some (.int (nI p)), some (.int (1 : Int32)), some (.long (0 : Int64)), none, some (.int (0 : Int32))], [.int ((nI p) + (0 : Int32)), .ref 3, .long (0 : Int64)], Ac fp le lp lb il tf tz (sbf b) rf fr mp sc ifp ib ie pw dh rl rb re sy sb rc sg ex)) k_P_number_11 kc_P_number_11 rfl ⟨trivial, trivial, trivial, trivial, trivial, trivial⟩ ?_
    refine Run.callV (b := 3) (As := [.int ((nI p) + (0 : Int32))]) (rest := [.long (0 : Int64)]) v_P_number_17 (c_P_byteAt (p := p + 0) hb (show _ = nI (p + 0) from by rw [show (0 : Int32) = nI 0 from by decide]; exact nI_add p 0) (by omega)) rfl (Nat.le_of_ble_eq_true rfl) rfl rfl rfl rfl (fun r cs' hp => ?_)
    obtain ⟨rfl, rfl⟩ := hp
    show Run _ _ _ _ 20 ([some (.ref 3), some (.int (nI p)), some (.int (1 : Int32)), some (.long (0 : Int64)), none, some (.int (0 : Int32))], [.int (nI (b (p + 0))), .long (0 : Int64)], Ac fp le lp lb il tf tz (sbf b) rf fr mp sc ifp ib ie pw dh rl rb re sy sb rc sg ex) _
    refine Run.blk (gs := [True, True, True, True, True, True, True, True]) (S' := ([some (.ref 3), some (.int (nI p)), some (.int (1 : Int32)), some (.long ((0 : Int64) ||| (((nI (b (p + 0))).toInt64) <<< (((8 : Int32) * (0 : Int32)).toInt64 &&& 63)))), none, some (.int ((0 : Int32) + (1 : Int32)))], [], Ac fp le lp lb il tf tz (sbf b) rf fr mp sc ifp ib ie pw dh rl rb re sy sb rc sg ex)) k_P_number_20 kc_P_number_20 rfl ⟨trivial, trivial, trivial, trivial, trivial, trivial, trivial, trivial, trivial⟩ ?_
    refine Run.goto (tgt := 5) d_P_number_32 (by decide) ?_
    refine Run.blk (gs := [True, True]) (S' := ([some (.ref 3), some (.int (nI p)), some (.int (1 : Int32)), some (.long ((0 : Int64) ||| (((nI (b (p + 0))).toInt64) <<< (((8 : Int32) * (0 : Int32)).toInt64 &&& 63)))), none, some (.int ((0 : Int32) + (1 : Int32)))], [.int (1 : Int32), .int ((0 : Int32) + (1 : Int32))], Ac fp le lp lb il tf tz (sbf b) rf fr mp sc ifp ib ie pw dh rl rb re sy sb rc sg ex)) k_P_number_5 kc_P_number_5 rfl ⟨trivial, trivial, trivial⟩ ?_
    refine Run.br (tgt := 35) d_P_number_8 rfl (by decide) (fun c_2 => ?_) (fun c_2 => ?_)
    · refine Run.blk (gs := [True]) (S' := ([some (.ref 3), some (.int (nI p)), some (.int (1 : Int32)), some (.long ((0 : Int64) ||| (((nI (b (p + 0))).toInt64) <<< (((8 : Int32) * (0 : Int32)).toInt64 &&& 63)))), none, some (.int ((0 : Int32) + (1 : Int32)))], [.long ((0 : Int64) ||| (((nI (b (p + 0))).toInt64) <<< (((8 : Int32) * (0 : Int32)).toInt64 &&& 63)))], Ac fp le lp lb il tf tz (sbf b) rf fr mp sc ifp ib ie pw dh rl rb re sy sb rc sg ex)) k_P_number_35 kc_P_number_35 rfl ⟨trivial, trivial⟩ ?_
      refine Run.ret (r := some (.long ((0 : Int64) ||| (((nI (b (p + 0))).toInt64) <<< (((8 : Int32) * (0 : Int32)).toInt64 &&& 63))))) ⟨d_P_number_36, rfl⟩ ⟨?_, rfl⟩
      have h0 := hb (p + 0)
      rw [l_sh (b (p + 0)) (by omega) (k := 0) (by decide) (by decide)]
      have e0 : (0 : Int64) ||| lN (b (p + 0) * 2 ^ 0) = lN (b (p + 0)) := by rw [Nat.pow_zero, Nat.mul_one]; exact Int64.zero_or
      rw [e0]
      rfl
    · exact absurd c_2 (by decide)
set_option maxRecDepth 100000 in
set_option maxHeartbeats 4000000 in
theorem c_P_number2 {p : Nat} (hb : ∀ j, b j < 256) {x : Int32} (hx : x = nI p) (hp : p + 2 ≤ 16384) : Ct m_P_number 0 0 [.ref 3, .int x, .int (2 : Int32)] (Ac fp le lp lb il tf tz (sbf b) rf fr mp sc ifp ib ie pw dh rl rb re sy sb rc sg ex) (vm_is (some (.long (lN (n2 b p)))) (Ac fp le lp lb il tf tz (sbf b) rf fr mp sc ifp ib ie pw dh rl rb re sy sb rc sg ex)) := by
  subst hx
  refine Ct.of ⟨by decide +kernel, rfl⟩ (Nat.le_of_ble_eq_true rfl) (lv := [some (.ref 3), some (.int (nI p)), some (.int (2 : Int32)), none, none, none]) rfl ?_
  refine Run.blk (gs := [True, True, True, True]) (S' := ([some (.ref 3), some (.int (nI p)), some (.int (2 : Int32)), some (.long (0 : Int64)), none, some (.int (0 : Int32))], [], Ac fp le lp lb il tf tz (sbf b) rf fr mp sc ifp ib ie pw dh rl rb re sy sb rc sg ex)) k_P_number_0 kc_P_number_0 rfl ⟨trivial, trivial, trivial, trivial, trivial⟩ ?_
  refine Run.blk (gs := [True, True]) (S' := ([some (.ref 3), some (.int (nI p)), some (.int (2 : Int32)), some (.long (0 : Int64)), none, some (.int (0 : Int32))], [.int (2 : Int32), .int (0 : Int32)], Ac fp le lp lb il tf tz (sbf b) rf fr mp sc ifp ib ie pw dh rl rb re sy sb rc sg ex)) k_P_number_5 kc_P_number_5 rfl ⟨trivial, trivial, trivial⟩ ?_
  refine Run.br (tgt := 35) d_P_number_8 rfl (by decide) (fun c_1 => ?_) (fun c_1 => ?_)
  · exact absurd c_1 (by decide)
  · refine Run.blk (gs := [True, True, True, True, True]) (S' := ([some (.ref 3), some (.int (nI p)), some (.int (2 : Int32)), some (.long (0 : Int64)), none, some (.int (0 : Int32))], [.int ((nI p) + (0 : Int32)), .ref 3, .long (0 : Int64)], Ac fp le lp lb il tf tz (sbf b) rf fr mp sc ifp ib ie pw dh rl rb re sy sb rc sg ex)) k_P_number_11 kc_P_number_11 rfl ⟨trivial, trivial, trivial, trivial, trivial, trivial⟩ ?_
    refine Run.callV (b := 3) (As := [.int ((nI p) + (0 : Int32))]) (rest := [.long (0 : Int64)]) v_P_number_17 (c_P_byteAt (p := p + 0) hb (show _ = nI (p + 0) from by rw [show (0 : Int32) = nI 0 from by decide]; exact nI_add p 0) (by omega)) rfl (Nat.le_of_ble_eq_true rfl) rfl rfl rfl rfl (fun r cs' hp => ?_)
    obtain ⟨rfl, rfl⟩ := hp
    show Run _ _ _ _ 20 ([some (.ref 3), some (.int (nI p)), some (.int (2 : Int32)), some (.long (0 : Int64)), none, some (.int (0 : Int32))], [.int (nI (b (p + 0))), .long (0 : Int64)], Ac fp le lp lb il tf tz (sbf b) rf fr mp sc ifp ib ie pw dh rl rb re sy sb rc sg ex) _
    refine Run.blk (gs := [True, True, True, True, True, True, True, True]) (S' := ([some (.ref 3), some (.int (nI p)), some (.int (2 : Int32)), some (.long ((0 : Int64) ||| (((nI (b (p + 0))).toInt64) <<< (((8 : Int32) * (0 : Int32)).toInt64 &&& 63)))), none, some (.int ((0 : Int32) + (1 : Int32)))], [], Ac fp le lp lb il tf tz (sbf b) rf fr mp sc ifp ib ie pw dh rl rb re sy sb rc sg ex)) k_P_number_20 kc_P_number_20 rfl ⟨trivial, trivial, trivial, trivial, trivial, trivial, trivial, trivial, trivial⟩ ?_
    refine Run.goto (tgt := 5) d_P_number_32 (by decide) ?_
    refine Run.blk (gs := [True, True]) (S' := ([some (.ref 3), some (.int (nI p)), some (.int (2 : Int32)), some (.long ((0 : Int64) ||| (((nI (b (p + 0))).toInt64) <<< (((8 : Int32) * (0 : Int32)).toInt64 &&& 63)))), none, some (.int ((0 : Int32) + (1 : Int32)))], [.int (2 : Int32), .int ((0 : Int32) + (1 : Int32))], Ac fp le lp lb il tf tz (sbf b) rf fr mp sc ifp ib ie pw dh rl rb re sy sb rc sg ex)) k_P_number_5 kc_P_number_5 rfl ⟨trivial, trivial, trivial⟩ ?_
    refine Run.br (tgt := 35) d_P_number_8 rfl (by decide) (fun c_2 => ?_) (fun c_2 => ?_)
    · exact absurd c_2 (by decide)
    · refine Run.blk (gs := [True, True, True, True, True]) (S' := ([some (.ref 3), some (.int (nI p)), some (.int (2 : Int32)), some (.long ((0 : Int64) ||| (((nI (b (p + 0))).toInt64) <<< (((8 : Int32) * (0 : Int32)).toInt64 &&& 63)))), none, some (.int ((0 : Int32) + (1 : Int32)))], [.int ((nI p) + ((0 : Int32) + (1 : Int32))), .ref 3, .long ((0 : Int64) ||| (((nI (b (p + 0))).toInt64) <<< (((8 : Int32) * (0 : Int32)).toInt64 &&& 63)))], Ac fp le lp lb il tf tz (sbf b) rf fr mp sc ifp ib ie pw dh rl rb re sy sb rc sg ex)) k_P_number_11 kc_P_number_11 rfl ⟨trivial, trivial, trivial, trivial, trivial, trivial⟩ ?_
      refine Run.callV (b := 3) (As := [.int ((nI p) + ((0 : Int32) + (1 : Int32)))]) (rest := [.long ((0 : Int64) ||| (((nI (b (p + 0))).toInt64) <<< (((8 : Int32) * (0 : Int32)).toInt64 &&& 63)))]) v_P_number_17 (c_P_byteAt (p := p + 1) hb (show _ = nI (p + 1) from by rw [show ((0 : Int32) + (1 : Int32)) = nI 1 from by decide]; exact nI_add p 1) (by omega)) rfl (Nat.le_of_ble_eq_true rfl) rfl rfl rfl rfl (fun r cs' hp => ?_)
      obtain ⟨rfl, rfl⟩ := hp
      show Run _ _ _ _ 20 ([some (.ref 3), some (.int (nI p)), some (.int (2 : Int32)), some (.long ((0 : Int64) ||| (((nI (b (p + 0))).toInt64) <<< (((8 : Int32) * (0 : Int32)).toInt64 &&& 63)))), none, some (.int ((0 : Int32) + (1 : Int32)))], [.int (nI (b (p + 1))), .long ((0 : Int64) ||| (((nI (b (p + 0))).toInt64) <<< (((8 : Int32) * (0 : Int32)).toInt64 &&& 63)))], Ac fp le lp lb il tf tz (sbf b) rf fr mp sc ifp ib ie pw dh rl rb re sy sb rc sg ex) _
      refine Run.blk (gs := [True, True, True, True, True, True, True, True]) (S' := ([some (.ref 3), some (.int (nI p)), some (.int (2 : Int32)), some (.long (((0 : Int64) ||| (((nI (b (p + 0))).toInt64) <<< (((8 : Int32) * (0 : Int32)).toInt64 &&& 63))) ||| (((nI (b (p + 1))).toInt64) <<< (((8 : Int32) * ((0 : Int32) + (1 : Int32))).toInt64 &&& 63)))), none, some (.int (((0 : Int32) + (1 : Int32)) + (1 : Int32)))], [], Ac fp le lp lb il tf tz (sbf b) rf fr mp sc ifp ib ie pw dh rl rb re sy sb rc sg ex)) k_P_number_20 kc_P_number_20 rfl ⟨trivial, trivial, trivial, trivial, trivial, trivial, trivial, trivial, trivial⟩ ?_
      refine Run.goto (tgt := 5) d_P_number_32 (by decide) ?_
      refine Run.blk (gs := [True, True]) (S' := ([some (.ref 3), some (.int (nI p)), some (.int (2 : Int32)), some (.long (((0 : Int64) ||| (((nI (b (p + 0))).toInt64) <<< (((8 : Int32) * (0 : Int32)).toInt64 &&& 63))) ||| (((nI (b (p + 1))).toInt64) <<< (((8 : Int32) * ((0 : Int32) + (1 : Int32))).toInt64 &&& 63)))), none, some (.int (((0 : Int32) + (1 : Int32)) + (1 : Int32)))], [.int (2 : Int32), .int (((0 : Int32) + (1 : Int32)) + (1 : Int32))], Ac fp le lp lb il tf tz (sbf b) rf fr mp sc ifp ib ie pw dh rl rb re sy sb rc sg ex)) k_P_number_5 kc_P_number_5 rfl ⟨trivial, trivial, trivial⟩ ?_
      refine Run.br (tgt := 35) d_P_number_8 rfl (by decide) (fun c_3 => ?_) (fun c_3 => ?_)
      · refine Run.blk (gs := [True]) (S' := ([some (.ref 3), some (.int (nI p)), some (.int (2 : Int32)), some (.long (((0 : Int64) ||| (((nI (b (p + 0))).toInt64) <<< (((8 : Int32) * (0 : Int32)).toInt64 &&& 63))) ||| (((nI (b (p + 1))).toInt64) <<< (((8 : Int32) * ((0 : Int32) + (1 : Int32))).toInt64 &&& 63)))), none, some (.int (((0 : Int32) + (1 : Int32)) + (1 : Int32)))], [.long (((0 : Int64) ||| (((nI (b (p + 0))).toInt64) <<< (((8 : Int32) * (0 : Int32)).toInt64 &&& 63))) ||| (((nI (b (p + 1))).toInt64) <<< (((8 : Int32) * ((0 : Int32) + (1 : Int32))).toInt64 &&& 63)))], Ac fp le lp lb il tf tz (sbf b) rf fr mp sc ifp ib ie pw dh rl rb re sy sb rc sg ex)) k_P_number_35 kc_P_number_35 rfl ⟨trivial, trivial⟩ ?_
        refine Run.ret (r := some (.long (((0 : Int64) ||| (((nI (b (p + 0))).toInt64) <<< (((8 : Int32) * (0 : Int32)).toInt64 &&& 63))) ||| (((nI (b (p + 1))).toInt64) <<< (((8 : Int32) * ((0 : Int32) + (1 : Int32))).toInt64 &&& 63))))) ⟨d_P_number_36, rfl⟩ ⟨?_, rfl⟩
        have h0 := hb (p + 0)
        have h1 := hb (p + 1)
        rw [l_sh (b (p + 0)) (by omega) (k := 0) (by decide) (by decide), l_sh (b (p + 1)) (by omega) (k := 8) (by decide) (by decide)]
        have e0 : (0 : Int64) ||| lN (b (p + 0) * 2 ^ 0) = lN (b (p + 0)) := by rw [Nat.pow_zero, Nat.mul_one]; exact Int64.zero_or
        rw [e0, g_or' (k := 8) rfl (by omega) (by omega)]
        congr 3
        unfold n2
        simp only [Nat.add_zero] at *
        omega
      · exact absurd c_3 (by decide)
set_option maxRecDepth 100000 in
set_option maxHeartbeats 4000000 in
theorem c_P_number4 {p : Nat} (hb : ∀ j, b j < 256) {x : Int32} (hx : x = nI p) (hp : p + 4 ≤ 16384) : Ct m_P_number 0 0 [.ref 3, .int x, .int (4 : Int32)] (Ac fp le lp lb il tf tz (sbf b) rf fr mp sc ifp ib ie pw dh rl rb re sy sb rc sg ex) (vm_is (some (.long (lN (n4 b p)))) (Ac fp le lp lb il tf tz (sbf b) rf fr mp sc ifp ib ie pw dh rl rb re sy sb rc sg ex)) := by
  subst hx
  refine Ct.of ⟨by decide +kernel, rfl⟩ (Nat.le_of_ble_eq_true rfl) (lv := [some (.ref 3), some (.int (nI p)), some (.int (4 : Int32)), none, none, none]) rfl ?_
  refine Run.blk (gs := [True, True, True, True]) (S' := ([some (.ref 3), some (.int (nI p)), some (.int (4 : Int32)), some (.long (0 : Int64)), none, some (.int (0 : Int32))], [], Ac fp le lp lb il tf tz (sbf b) rf fr mp sc ifp ib ie pw dh rl rb re sy sb rc sg ex)) k_P_number_0 kc_P_number_0 rfl ⟨trivial, trivial, trivial, trivial, trivial⟩ ?_
  refine Run.blk (gs := [True, True]) (S' := ([some (.ref 3), some (.int (nI p)), some (.int (4 : Int32)), some (.long (0 : Int64)), none, some (.int (0 : Int32))], [.int (4 : Int32), .int (0 : Int32)], Ac fp le lp lb il tf tz (sbf b) rf fr mp sc ifp ib ie pw dh rl rb re sy sb rc sg ex)) k_P_number_5 kc_P_number_5 rfl ⟨trivial, trivial, trivial⟩ ?_
  refine Run.br (tgt := 35) d_P_number_8 rfl (by decide) (fun c_1 => ?_) (fun c_1 => ?_)
  · exact absurd c_1 (by decide)
  · refine Run.blk (gs := [True, True, True, True, True]) (S' := ([some (.ref 3), some (.int (nI p)), some (.int (4 : Int32)), some (.long (0 : Int64)), none, some (.int (0 : Int32))], [.int ((nI p) + (0 : Int32)), .ref 3, .long (0 : Int64)], Ac fp le lp lb il tf tz (sbf b) rf fr mp sc ifp ib ie pw dh rl rb re sy sb rc sg ex)) k_P_number_11 kc_P_number_11 rfl ⟨trivial, trivial, trivial, trivial, trivial, trivial⟩ ?_
    refine Run.callV (b := 3) (As := [.int ((nI p) + (0 : Int32))]) (rest := [.long (0 : Int64)]) v_P_number_17 (c_P_byteAt (p := p + 0) hb (show _ = nI (p + 0) from by rw [show (0 : Int32) = nI 0 from by decide]; exact nI_add p 0) (by omega)) rfl (Nat.le_of_ble_eq_true rfl) rfl rfl rfl rfl (fun r cs' hp => ?_)
    obtain ⟨rfl, rfl⟩ := hp
    show Run _ _ _ _ 20 ([some (.ref 3), some (.int (nI p)), some (.int (4 : Int32)), some (.long (0 : Int64)), none, some (.int (0 : Int32))], [.int (nI (b (p + 0))), .long (0 : Int64)], Ac fp le lp lb il tf tz (sbf b) rf fr mp sc ifp ib ie pw dh rl rb re sy sb rc sg ex) _
    refine Run.blk (gs := [True, True, True, True, True, True, True, True]) (S' := ([some (.ref 3), some (.int (nI p)), some (.int (4 : Int32)), some (.long ((0 : Int64) ||| (((nI (b (p + 0))).toInt64) <<< (((8 : Int32) * (0 : Int32)).toInt64 &&& 63)))), none, some (.int ((0 : Int32) + (1 : Int32)))], [], Ac fp le lp lb il tf tz (sbf b) rf fr mp sc ifp ib ie pw dh rl rb re sy sb rc sg ex)) k_P_number_20 kc_P_number_20 rfl ⟨trivial, trivial, trivial, trivial, trivial, trivial, trivial, trivial, trivial⟩ ?_
    refine Run.goto (tgt := 5) d_P_number_32 (by decide) ?_
    refine Run.blk (gs := [True, True]) (S' := ([some (.ref 3), some (.int (nI p)), some (.int (4 : Int32)), some (.long ((0 : Int64) ||| (((nI (b (p + 0))).toInt64) <<< (((8 : Int32) * (0 : Int32)).toInt64 &&& 63)))), none, some (.int ((0 : Int32) + (1 : Int32)))], [.int (4 : Int32), .int ((0 : Int32) + (1 : Int32))], Ac fp le lp lb il tf tz (sbf b) rf fr mp sc ifp ib ie pw dh rl rb re sy sb rc sg ex)) k_P_number_5 kc_P_number_5 rfl ⟨trivial, trivial, trivial⟩ ?_
    refine Run.br (tgt := 35) d_P_number_8 rfl (by decide) (fun c_2 => ?_) (fun c_2 => ?_)
    · exact absurd c_2 (by decide)
    · refine Run.blk (gs := [True, True, True, True, True]) (S' := ([some (.ref 3), some (.int (nI p)), some (.int (4 : Int32)), some (.long ((0 : Int64) ||| (((nI (b (p + 0))).toInt64) <<< (((8 : Int32) * (0 : Int32)).toInt64 &&& 63)))), none, some (.int ((0 : Int32) + (1 : Int32)))], [.int ((nI p) + ((0 : Int32) + (1 : Int32))), .ref 3, .long ((0 : Int64) ||| (((nI (b (p + 0))).toInt64) <<< (((8 : Int32) * (0 : Int32)).toInt64 &&& 63)))], Ac fp le lp lb il tf tz (sbf b) rf fr mp sc ifp ib ie pw dh rl rb re sy sb rc sg ex)) k_P_number_11 kc_P_number_11 rfl ⟨trivial, trivial, trivial, trivial, trivial, trivial⟩ ?_
      refine Run.callV (b := 3) (As := [.int ((nI p) + ((0 : Int32) + (1 : Int32)))]) (rest := [.long ((0 : Int64) ||| (((nI (b (p + 0))).toInt64) <<< (((8 : Int32) * (0 : Int32)).toInt64 &&& 63)))]) v_P_number_17 (c_P_byteAt (p := p + 1) hb (show _ = nI (p + 1) from by rw [show ((0 : Int32) + (1 : Int32)) = nI 1 from by decide]; exact nI_add p 1) (by omega)) rfl (Nat.le_of_ble_eq_true rfl) rfl rfl rfl rfl (fun r cs' hp => ?_)
      obtain ⟨rfl, rfl⟩ := hp
      show Run _ _ _ _ 20 ([some (.ref 3), some (.int (nI p)), some (.int (4 : Int32)), some (.long ((0 : Int64) ||| (((nI (b (p + 0))).toInt64) <<< (((8 : Int32) * (0 : Int32)).toInt64 &&& 63)))), none, some (.int ((0 : Int32) + (1 : Int32)))], [.int (nI (b (p + 1))), .long ((0 : Int64) ||| (((nI (b (p + 0))).toInt64) <<< (((8 : Int32) * (0 : Int32)).toInt64 &&& 63)))], Ac fp le lp lb il tf tz (sbf b) rf fr mp sc ifp ib ie pw dh rl rb re sy sb rc sg ex) _
      refine Run.blk (gs := [True, True, True, True, True, True, True, True]) (S' := ([some (.ref 3), some (.int (nI p)), some (.int (4 : Int32)), some (.long (((0 : Int64) ||| (((nI (b (p + 0))).toInt64) <<< (((8 : Int32) * (0 : Int32)).toInt64 &&& 63))) ||| (((nI (b (p + 1))).toInt64) <<< (((8 : Int32) * ((0 : Int32) + (1 : Int32))).toInt64 &&& 63)))), none, some (.int (((0 : Int32) + (1 : Int32)) + (1 : Int32)))], [], Ac fp le lp lb il tf tz (sbf b) rf fr mp sc ifp ib ie pw dh rl rb re sy sb rc sg ex)) k_P_number_20 kc_P_number_20 rfl ⟨trivial, trivial, trivial, trivial, trivial, trivial, trivial, trivial, trivial⟩ ?_
      refine Run.goto (tgt := 5) d_P_number_32 (by decide) ?_
      refine Run.blk (gs := [True, True]) (S' := ([some (.ref 3), some (.int (nI p)), some (.int (4 : Int32)), some (.long (((0 : Int64) ||| (((nI (b (p + 0))).toInt64) <<< (((8 : Int32) * (0 : Int32)).toInt64 &&& 63))) ||| (((nI (b (p + 1))).toInt64) <<< (((8 : Int32) * ((0 : Int32) + (1 : Int32))).toInt64 &&& 63)))), none, some (.int (((0 : Int32) + (1 : Int32)) + (1 : Int32)))], [.int (4 : Int32), .int (((0 : Int32) + (1 : Int32)) + (1 : Int32))], Ac fp le lp lb il tf tz (sbf b) rf fr mp sc ifp ib ie pw dh rl rb re sy sb rc sg ex)) k_P_number_5 kc_P_number_5 rfl ⟨trivial, trivial, trivial⟩ ?_
      refine Run.br (tgt := 35) d_P_number_8 rfl (by decide) (fun c_3 => ?_) (fun c_3 => ?_)
      · exact absurd c_3 (by decide)
      · refine Run.blk (gs := [True, True, True, True, True]) (S' := ([some (.ref 3), some (.int (nI p)), some (.int (4 : Int32)), some (.long (((0 : Int64) ||| (((nI (b (p + 0))).toInt64) <<< (((8 : Int32) * (0 : Int32)).toInt64 &&& 63))) ||| (((nI (b (p + 1))).toInt64) <<< (((8 : Int32) * ((0 : Int32) + (1 : Int32))).toInt64 &&& 63)))), none, some (.int (((0 : Int32) + (1 : Int32)) + (1 : Int32)))], [.int ((nI p) + (((0 : Int32) + (1 : Int32)) + (1 : Int32))), .ref 3, .long (((0 : Int64) ||| (((nI (b (p + 0))).toInt64) <<< (((8 : Int32) * (0 : Int32)).toInt64 &&& 63))) ||| (((nI (b (p + 1))).toInt64) <<< (((8 : Int32) * ((0 : Int32) + (1 : Int32))).toInt64 &&& 63)))], Ac fp le lp lb il tf tz (sbf b) rf fr mp sc ifp ib ie pw dh rl rb re sy sb rc sg ex)) k_P_number_11 kc_P_number_11 rfl ⟨trivial, trivial, trivial, trivial, trivial, trivial⟩ ?_
        refine Run.callV (b := 3) (As := [.int ((nI p) + (((0 : Int32) + (1 : Int32)) + (1 : Int32)))]) (rest := [.long (((0 : Int64) ||| (((nI (b (p + 0))).toInt64) <<< (((8 : Int32) * (0 : Int32)).toInt64 &&& 63))) ||| (((nI (b (p + 1))).toInt64) <<< (((8 : Int32) * ((0 : Int32) + (1 : Int32))).toInt64 &&& 63)))]) v_P_number_17 (c_P_byteAt (p := p + 2) hb (show _ = nI (p + 2) from by rw [show (((0 : Int32) + (1 : Int32)) + (1 : Int32)) = nI 2 from by decide]; exact nI_add p 2) (by omega)) rfl (Nat.le_of_ble_eq_true rfl) rfl rfl rfl rfl (fun r cs' hp => ?_)
        obtain ⟨rfl, rfl⟩ := hp
        show Run _ _ _ _ 20 ([some (.ref 3), some (.int (nI p)), some (.int (4 : Int32)), some (.long (((0 : Int64) ||| (((nI (b (p + 0))).toInt64) <<< (((8 : Int32) * (0 : Int32)).toInt64 &&& 63))) ||| (((nI (b (p + 1))).toInt64) <<< (((8 : Int32) * ((0 : Int32) + (1 : Int32))).toInt64 &&& 63)))), none, some (.int (((0 : Int32) + (1 : Int32)) + (1 : Int32)))], [.int (nI (b (p + 2))), .long (((0 : Int64) ||| (((nI (b (p + 0))).toInt64) <<< (((8 : Int32) * (0 : Int32)).toInt64 &&& 63))) ||| (((nI (b (p + 1))).toInt64) <<< (((8 : Int32) * ((0 : Int32) + (1 : Int32))).toInt64 &&& 63)))], Ac fp le lp lb il tf tz (sbf b) rf fr mp sc ifp ib ie pw dh rl rb re sy sb rc sg ex) _
        refine Run.blk (gs := [True, True, True, True, True, True, True, True]) (S' := ([some (.ref 3), some (.int (nI p)), some (.int (4 : Int32)), some (.long ((((0 : Int64) ||| (((nI (b (p + 0))).toInt64) <<< (((8 : Int32) * (0 : Int32)).toInt64 &&& 63))) ||| (((nI (b (p + 1))).toInt64) <<< (((8 : Int32) * ((0 : Int32) + (1 : Int32))).toInt64 &&& 63))) ||| (((nI (b (p + 2))).toInt64) <<< (((8 : Int32) * (((0 : Int32) + (1 : Int32)) + (1 : Int32))).toInt64 &&& 63)))), none, some (.int ((((0 : Int32) + (1 : Int32)) + (1 : Int32)) + (1 : Int32)))], [], Ac fp le lp lb il tf tz (sbf b) rf fr mp sc ifp ib ie pw dh rl rb re sy sb rc sg ex)) k_P_number_20 kc_P_number_20 rfl ⟨trivial, trivial, trivial, trivial, trivial, trivial, trivial, trivial, trivial⟩ ?_
        refine Run.goto (tgt := 5) d_P_number_32 (by decide) ?_
        refine Run.blk (gs := [True, True]) (S' := ([some (.ref 3), some (.int (nI p)), some (.int (4 : Int32)), some (.long ((((0 : Int64) ||| (((nI (b (p + 0))).toInt64) <<< (((8 : Int32) * (0 : Int32)).toInt64 &&& 63))) ||| (((nI (b (p + 1))).toInt64) <<< (((8 : Int32) * ((0 : Int32) + (1 : Int32))).toInt64 &&& 63))) ||| (((nI (b (p + 2))).toInt64) <<< (((8 : Int32) * (((0 : Int32) + (1 : Int32)) + (1 : Int32))).toInt64 &&& 63)))), none, some (.int ((((0 : Int32) + (1 : Int32)) + (1 : Int32)) + (1 : Int32)))], [.int (4 : Int32), .int ((((0 : Int32) + (1 : Int32)) + (1 : Int32)) + (1 : Int32))], Ac fp le lp lb il tf tz (sbf b) rf fr mp sc ifp ib ie pw dh rl rb re sy sb rc sg ex)) k_P_number_5 kc_P_number_5 rfl ⟨trivial, trivial, trivial⟩ ?_
        refine Run.br (tgt := 35) d_P_number_8 rfl (by decide) (fun c_4 => ?_) (fun c_4 => ?_)
        · exact absurd c_4 (by decide)
        · refine Run.blk (gs := [True, True, True, True, True]) (S' := ([some (.ref 3), some (.int (nI p)), some (.int (4 : Int32)), some (.long ((((0 : Int64) ||| (((nI (b (p + 0))).toInt64) <<< (((8 : Int32) * (0 : Int32)).toInt64 &&& 63))) ||| (((nI (b (p + 1))).toInt64) <<< (((8 : Int32) * ((0 : Int32) + (1 : Int32))).toInt64 &&& 63))) ||| (((nI (b (p + 2))).toInt64) <<< (((8 : Int32) * (((0 : Int32) + (1 : Int32)) + (1 : Int32))).toInt64 &&& 63)))), none, some (.int ((((0 : Int32) + (1 : Int32)) + (1 : Int32)) + (1 : Int32)))], [.int ((nI p) + ((((0 : Int32) + (1 : Int32)) + (1 : Int32)) + (1 : Int32))), .ref 3, .long ((((0 : Int64) ||| (((nI (b (p + 0))).toInt64) <<< (((8 : Int32) * (0 : Int32)).toInt64 &&& 63))) ||| (((nI (b (p + 1))).toInt64) <<< (((8 : Int32) * ((0 : Int32) + (1 : Int32))).toInt64 &&& 63))) ||| (((nI (b (p + 2))).toInt64) <<< (((8 : Int32) * (((0 : Int32) + (1 : Int32)) + (1 : Int32))).toInt64 &&& 63)))], Ac fp le lp lb il tf tz (sbf b) rf fr mp sc ifp ib ie pw dh rl rb re sy sb rc sg ex)) k_P_number_11 kc_P_number_11 rfl ⟨trivial, trivial, trivial, trivial, trivial, trivial⟩ ?_
          refine Run.callV (b := 3) (As := [.int ((nI p) + ((((0 : Int32) + (1 : Int32)) + (1 : Int32)) + (1 : Int32)))]) (rest := [.long ((((0 : Int64) ||| (((nI (b (p + 0))).toInt64) <<< (((8 : Int32) * (0 : Int32)).toInt64 &&& 63))) ||| (((nI (b (p + 1))).toInt64) <<< (((8 : Int32) * ((0 : Int32) + (1 : Int32))).toInt64 &&& 63))) ||| (((nI (b (p + 2))).toInt64) <<< (((8 : Int32) * (((0 : Int32) + (1 : Int32)) + (1 : Int32))).toInt64 &&& 63)))]) v_P_number_17 (c_P_byteAt (p := p + 3) hb (show _ = nI (p + 3) from by rw [show ((((0 : Int32) + (1 : Int32)) + (1 : Int32)) + (1 : Int32)) = nI 3 from by decide]; exact nI_add p 3) (by omega)) rfl (Nat.le_of_ble_eq_true rfl) rfl rfl rfl rfl (fun r cs' hp => ?_)
          obtain ⟨rfl, rfl⟩ := hp
          show Run _ _ _ _ 20 ([some (.ref 3), some (.int (nI p)), some (.int (4 : Int32)), some (.long ((((0 : Int64) ||| (((nI (b (p + 0))).toInt64) <<< (((8 : Int32) * (0 : Int32)).toInt64 &&& 63))) ||| (((nI (b (p + 1))).toInt64) <<< (((8 : Int32) * ((0 : Int32) + (1 : Int32))).toInt64 &&& 63))) ||| (((nI (b (p + 2))).toInt64) <<< (((8 : Int32) * (((0 : Int32) + (1 : Int32)) + (1 : Int32))).toInt64 &&& 63)))), none, some (.int ((((0 : Int32) + (1 : Int32)) + (1 : Int32)) + (1 : Int32)))], [.int (nI (b (p + 3))), .long ((((0 : Int64) ||| (((nI (b (p + 0))).toInt64) <<< (((8 : Int32) * (0 : Int32)).toInt64 &&& 63))) ||| (((nI (b (p + 1))).toInt64) <<< (((8 : Int32) * ((0 : Int32) + (1 : Int32))).toInt64 &&& 63))) ||| (((nI (b (p + 2))).toInt64) <<< (((8 : Int32) * (((0 : Int32) + (1 : Int32)) + (1 : Int32))).toInt64 &&& 63)))], Ac fp le lp lb il tf tz (sbf b) rf fr mp sc ifp ib ie pw dh rl rb re sy sb rc sg ex) _
          refine Run.blk (gs := [True, True, True, True, True, True, True, True]) (S' := ([some (.ref 3), some (.int (nI p)), some (.int (4 : Int32)), some (.long (((((0 : Int64) ||| (((nI (b (p + 0))).toInt64) <<< (((8 : Int32) * (0 : Int32)).toInt64 &&& 63))) ||| (((nI (b (p + 1))).toInt64) <<< (((8 : Int32) * ((0 : Int32) + (1 : Int32))).toInt64 &&& 63))) ||| (((nI (b (p + 2))).toInt64) <<< (((8 : Int32) * (((0 : Int32) + (1 : Int32)) + (1 : Int32))).toInt64 &&& 63))) ||| (((nI (b (p + 3))).toInt64) <<< (((8 : Int32) * ((((0 : Int32) + (1 : Int32)) + (1 : Int32)) + (1 : Int32))).toInt64 &&& 63)))), none, some (.int (((((0 : Int32) + (1 : Int32)) + (1 : Int32)) + (1 : Int32)) + (1 : Int32)))], [], Ac fp le lp lb il tf tz (sbf b) rf fr mp sc ifp ib ie pw dh rl rb re sy sb rc sg ex)) k_P_number_20 kc_P_number_20 rfl ⟨trivial, trivial, trivial, trivial, trivial, trivial, trivial, trivial, trivial⟩ ?_
          refine Run.goto (tgt := 5) d_P_number_32 (by decide) ?_
          refine Run.blk (gs := [True, True]) (S' := ([some (.ref 3), some (.int (nI p)), some (.int (4 : Int32)), some (.long (((((0 : Int64) ||| (((nI (b (p + 0))).toInt64) <<< (((8 : Int32) * (0 : Int32)).toInt64 &&& 63))) ||| (((nI (b (p + 1))).toInt64) <<< (((8 : Int32) * ((0 : Int32) + (1 : Int32))).toInt64 &&& 63))) ||| (((nI (b (p + 2))).toInt64) <<< (((8 : Int32) * (((0 : Int32) + (1 : Int32)) + (1 : Int32))).toInt64 &&& 63))) ||| (((nI (b (p + 3))).toInt64) <<< (((8 : Int32) * ((((0 : Int32) + (1 : Int32)) + (1 : Int32)) + (1 : Int32))).toInt64 &&& 63)))), none, some (.int (((((0 : Int32) + (1 : Int32)) + (1 : Int32)) + (1 : Int32)) + (1 : Int32)))], [.int (4 : Int32), .int (((((0 : Int32) + (1 : Int32)) + (1 : Int32)) + (1 : Int32)) + (1 : Int32))], Ac fp le lp lb il tf tz (sbf b) rf fr mp sc ifp ib ie pw dh rl rb re sy sb rc sg ex)) k_P_number_5 kc_P_number_5 rfl ⟨trivial, trivial, trivial⟩ ?_
          refine Run.br (tgt := 35) d_P_number_8 rfl (by decide) (fun c_5 => ?_) (fun c_5 => ?_)
          · refine Run.blk (gs := [True]) (S' := ([some (.ref 3), some (.int (nI p)), some (.int (4 : Int32)), some (.long (((((0 : Int64) ||| (((nI (b (p + 0))).toInt64) <<< (((8 : Int32) * (0 : Int32)).toInt64 &&& 63))) ||| (((nI (b (p + 1))).toInt64) <<< (((8 : Int32) * ((0 : Int32) + (1 : Int32))).toInt64 &&& 63))) ||| (((nI (b (p + 2))).toInt64) <<< (((8 : Int32) * (((0 : Int32) + (1 : Int32)) + (1 : Int32))).toInt64 &&& 63))) ||| (((nI (b (p + 3))).toInt64) <<< (((8 : Int32) * ((((0 : Int32) + (1 : Int32)) + (1 : Int32)) + (1 : Int32))).toInt64 &&& 63)))), none, some (.int (((((0 : Int32) + (1 : Int32)) + (1 : Int32)) + (1 : Int32)) + (1 : Int32)))], [.long (((((0 : Int64) ||| (((nI (b (p + 0))).toInt64) <<< (((8 : Int32) * (0 : Int32)).toInt64 &&& 63))) ||| (((nI (b (p + 1))).toInt64) <<< (((8 : Int32) * ((0 : Int32) + (1 : Int32))).toInt64 &&& 63))) ||| (((nI (b (p + 2))).toInt64) <<< (((8 : Int32) * (((0 : Int32) + (1 : Int32)) + (1 : Int32))).toInt64 &&& 63))) ||| (((nI (b (p + 3))).toInt64) <<< (((8 : Int32) * ((((0 : Int32) + (1 : Int32)) + (1 : Int32)) + (1 : Int32))).toInt64 &&& 63)))], Ac fp le lp lb il tf tz (sbf b) rf fr mp sc ifp ib ie pw dh rl rb re sy sb rc sg ex)) k_P_number_35 kc_P_number_35 rfl ⟨trivial, trivial⟩ ?_
            refine Run.ret (r := some (.long (((((0 : Int64) ||| (((nI (b (p + 0))).toInt64) <<< (((8 : Int32) * (0 : Int32)).toInt64 &&& 63))) ||| (((nI (b (p + 1))).toInt64) <<< (((8 : Int32) * ((0 : Int32) + (1 : Int32))).toInt64 &&& 63))) ||| (((nI (b (p + 2))).toInt64) <<< (((8 : Int32) * (((0 : Int32) + (1 : Int32)) + (1 : Int32))).toInt64 &&& 63))) ||| (((nI (b (p + 3))).toInt64) <<< (((8 : Int32) * ((((0 : Int32) + (1 : Int32)) + (1 : Int32)) + (1 : Int32))).toInt64 &&& 63))))) ⟨d_P_number_36, rfl⟩ ⟨?_, rfl⟩
            have h0 := hb (p + 0)
            have h1 := hb (p + 1)
            have h2 := hb (p + 2)
            have h3 := hb (p + 3)
            rw [l_sh (b (p + 0)) (by omega) (k := 0) (by decide) (by decide), l_sh (b (p + 1)) (by omega) (k := 8) (by decide) (by decide), l_sh (b (p + 2)) (by omega) (k := 16) (by decide) (by decide), l_sh (b (p + 3)) (by omega) (k := 24) (by decide) (by decide)]
            have e0 : (0 : Int64) ||| lN (b (p + 0) * 2 ^ 0) = lN (b (p + 0)) := by rw [Nat.pow_zero, Nat.mul_one]; exact Int64.zero_or
            rw [e0, g_or' (k := 8) rfl (by omega) (by omega), g_or' (k := 16) rfl (by omega) (by omega), g_or' (k := 24) rfl (by omega) (by omega)]
            congr 3
            unfold n4
            simp only [Nat.add_zero] at *
            omega
          · exact absurd c_5 (by decide)
set_option maxRecDepth 100000 in
set_option maxHeartbeats 4000000 in
theorem c_P_setNumber1 {p : Nat} {x v : Int32} (hx : x = nI p) (hp : p + 1 ≤ 16384) : Ct m_P_setNumber 0 0 [.ref 3, .int x, .int (1 : Int32), .int v] (Ac fp le lp lb il tf tz (sbf b) rf fr mp sc ifp ib ie pw dh rl rb re sy sb rc sg ex) (vm_is none (Ac fp le lp lb il tf tz (sbf (u1 b p v)) rf fr mp sc ifp ib ie pw dh rl rb re sy sb rc sg ex)) := by
  subst hx
  refine Ct.of ⟨by decide +kernel, rfl⟩ (Nat.le_of_ble_eq_true rfl) (lv := [some (.ref 3), some (.int (nI p)), some (.int (1 : Int32)), some (.int v), none]) rfl ?_
  refine Run.blk (gs := [True, True]) (S' := ([some (.ref 3), some (.int (nI p)), some (.int (1 : Int32)), some (.int v), some (.int (0 : Int32))], [], Ac fp le lp lb il tf tz (sbf b) rf fr mp sc ifp ib ie pw dh rl rb re sy sb rc sg ex)) k_P_setNumber_0 kc_P_setNumber_0 rfl ⟨trivial, trivial, trivial⟩ ?_
  refine Run.blk (gs := [True, True]) (S' := ([some (.ref 3), some (.int (nI p)), some (.int (1 : Int32)), some (.int v), some (.int (0 : Int32))], [.int (1 : Int32), .int (0 : Int32)], Ac fp le lp lb il tf tz (sbf b) rf fr mp sc ifp ib ie pw dh rl rb re sy sb rc sg ex)) k_P_setNumber_3 kc_P_setNumber_3 rfl ⟨trivial, trivial, trivial⟩ ?_
  refine Run.br (tgt := 30) d_P_setNumber_6 rfl (by decide) (fun c_1 => ?_) (fun c_1 => ?_)
  · exact absurd c_1 (by decide)
  · refine Run.blk (gs := [True, True, True, True, True, True, True, True, True]) (S' := ([some (.ref 3), some (.int (nI p)), some (.int (1 : Int32)), some (.int v), some (.int (0 : Int32))], [.int ((v.toUInt32 >>> (((8 : Int32) * (0 : Int32)).toUInt32 &&& Int32.toUInt32 31)).toInt32), .int ((nI p) + (0 : Int32)), .ref 3], Ac fp le lp lb il tf tz (sbf b) rf fr mp sc ifp ib ie pw dh rl rb re sy sb rc sg ex)) k_P_setNumber_9 kc_P_setNumber_9 rfl ⟨trivial, trivial, trivial, trivial, trivial, trivial, trivial, trivial, trivial, trivial⟩ ?_
    refine Run.callV (b := 3) (As := [.int ((nI p) + (0 : Int32)), .int ((v.toUInt32 >>> (((8 : Int32) * (0 : Int32)).toUInt32 &&& Int32.toUInt32 31)).toInt32)]) (rest := []) v_P_setNumber_21 (c_P_setByte (p := p + 0) (show _ = nI (p + 0) from by rw [show (0 : Int32) = nI 0 from by decide]; exact nI_add p 0) (by omega)) rfl (Nat.le_of_ble_eq_true rfl) rfl rfl rfl rfl (fun r cs' hp => ?_)
    obtain ⟨rfl, rfl⟩ := hp
    show Run _ _ _ _ 24 ([some (.ref 3), some (.int (nI p)), some (.int (1 : Int32)), some (.int v), some (.int (0 : Int32))], [], Ac fp le lp lb il tf tz (sbf (upN b (p + 0) (lb8 ((v.toUInt32 >>> (((8 : Int32) * (0 : Int32)).toUInt32 &&& Int32.toUInt32 31)).toInt32)))) rf fr mp sc ifp ib ie pw dh rl rb re sy sb rc sg ex) _
    refine Run.blk (gs := [True]) (S' := ([some (.ref 3), some (.int (nI p)), some (.int (1 : Int32)), some (.int v), some (.int ((0 : Int32) + (1 : Int32)))], [], Ac fp le lp lb il tf tz (sbf (upN b (p + 0) (lb8 ((v.toUInt32 >>> (((8 : Int32) * (0 : Int32)).toUInt32 &&& Int32.toUInt32 31)).toInt32)))) rf fr mp sc ifp ib ie pw dh rl rb re sy sb rc sg ex)) k_P_setNumber_24 kc_P_setNumber_24 rfl ⟨trivial, trivial⟩ ?_
    refine Run.goto (tgt := 3) d_P_setNumber_27 (by decide) ?_
    refine Run.blk (gs := [True, True]) (S' := ([some (.ref 3), some (.int (nI p)), some (.int (1 : Int32)), some (.int v), some (.int ((0 : Int32) + (1 : Int32)))], [.int (1 : Int32), .int ((0 : Int32) + (1 : Int32))], Ac fp le lp lb il tf tz (sbf (upN b (p + 0) (lb8 ((v.toUInt32 >>> (((8 : Int32) * (0 : Int32)).toUInt32 &&& Int32.toUInt32 31)).toInt32)))) rf fr mp sc ifp ib ie pw dh rl rb re sy sb rc sg ex)) k_P_setNumber_3 kc_P_setNumber_3 rfl ⟨trivial, trivial, trivial⟩ ?_
    refine Run.br (tgt := 30) d_P_setNumber_6 rfl (by decide) (fun c_2 => ?_) (fun c_2 => ?_)
    · refine Run.ret (r := none) ⟨d_P_setNumber_30, rfl⟩ ⟨rfl, ?_⟩
      rw [lb8_sh v _ 0 (by decide)]
      rfl
    · exact absurd c_2 (by decide)
set_option maxRecDepth 100000 in
set_option maxHeartbeats 4000000 in
theorem c_P_setNumber2 {p : Nat} {x v : Int32} (hx : x = nI p) (hp : p + 2 ≤ 16384) : Ct m_P_setNumber 0 0 [.ref 3, .int x, .int (2 : Int32), .int v] (Ac fp le lp lb il tf tz (sbf b) rf fr mp sc ifp ib ie pw dh rl rb re sy sb rc sg ex) (vm_is none (Ac fp le lp lb il tf tz (sbf (u2 b p v)) rf fr mp sc ifp ib ie pw dh rl rb re sy sb rc sg ex)) := by
  subst hx
  refine Ct.of ⟨by decide +kernel, rfl⟩ (Nat.le_of_ble_eq_true rfl) (lv := [some (.ref 3), some (.int (nI p)), some (.int (2 : Int32)), some (.int v), none]) rfl ?_
  refine Run.blk (gs := [True, True]) (S' := ([some (.ref 3), some (.int (nI p)), some (.int (2 : Int32)), some (.int v), some (.int (0 : Int32))], [], Ac fp le lp lb il tf tz (sbf b) rf fr mp sc ifp ib ie pw dh rl rb re sy sb rc sg ex)) k_P_setNumber_0 kc_P_setNumber_0 rfl ⟨trivial, trivial, trivial⟩ ?_
  refine Run.blk (gs := [True, True]) (S' := ([some (.ref 3), some (.int (nI p)), some (.int (2 : Int32)), some (.int v), some (.int (0 : Int32))], [.int (2 : Int32), .int (0 : Int32)], Ac fp le lp lb il tf tz (sbf b) rf fr mp sc ifp ib ie pw dh rl rb re sy sb rc sg ex)) k_P_setNumber_3 kc_P_setNumber_3 rfl ⟨trivial, trivial, trivial⟩ ?_
  refine Run.br (tgt := 30) d_P_setNumber_6 rfl (by decide) (fun c_1 => ?_) (fun c_1 => ?_)
  · exact absurd c_1 (by decide)
  · refine Run.blk (gs := [True, True, True, True, True, True, True, True, True]) (S' := ([some (.ref 3), some (.int (nI p)), some (.int (2 : Int32)), some (.int v), some (.int (0 : Int32))], [.int ((v.toUInt32 >>> (((8 : Int32) * (0 : Int32)).toUInt32 &&& Int32.toUInt32 31)).toInt32), .int ((nI p) + (0 : Int32)), .ref 3], Ac fp le lp lb il tf tz (sbf b) rf fr mp sc ifp ib ie pw dh rl rb re sy sb rc sg ex)) k_P_setNumber_9 kc_P_setNumber_9 rfl ⟨trivial, trivial, trivial, trivial, trivial, trivial, trivial, trivial, trivial, trivial⟩ ?_
    refine Run.callV (b := 3) (As := [.int ((nI p) + (0 : Int32)), .int ((v.toUInt32 >>> (((8 : Int32) * (0 : Int32)).toUInt32 &&& Int32.toUInt32 31)).toInt32)]) (rest := []) v_P_setNumber_21 (c_P_setByte (p := p + 0) (show _ = nI (p + 0) from by rw [show (0 : Int32) = nI 0 from by decide]; exact nI_add p 0) (by omega)) rfl (Nat.le_of_ble_eq_true rfl) rfl rfl rfl rfl (fun r cs' hp => ?_)
    obtain ⟨rfl, rfl⟩ := hp
    show Run _ _ _ _ 24 ([some (.ref 3), some (.int (nI p)), some (.int (2 : Int32)), some (.int v), some (.int (0 : Int32))], [], Ac fp le lp lb il tf tz (sbf (upN b (p + 0) (lb8 ((v.toUInt32 >>> (((8 : Int32) * (0 : Int32)).toUInt32 &&& Int32.toUInt32 31)).toInt32)))) rf fr mp sc ifp ib ie pw dh rl rb re sy sb rc sg ex) _
    refine Run.blk (gs := [True]) (S' := ([some (.ref 3), some (.int (nI p)), some (.int (2 : Int32)), some (.int v), some (.int ((0 : Int32) + (1 : Int32)))], [], Ac fp le lp lb il tf tz (sbf (upN b (p + 0) (lb8 ((v.toUInt32 >>> (((8 : Int32) * (0 : Int32)).toUInt32 &&& Int32.toUInt32 31)).toInt32)))) rf fr mp sc ifp ib ie pw dh rl rb re sy sb rc sg ex)) k_P_setNumber_24 kc_P_setNumber_24 rfl ⟨trivial, trivial⟩ ?_
    refine Run.goto (tgt := 3) d_P_setNumber_27 (by decide) ?_
    refine Run.blk (gs := [True, True]) (S' := ([some (.ref 3), some (.int (nI p)), some (.int (2 : Int32)), some (.int v), some (.int ((0 : Int32) + (1 : Int32)))], [.int (2 : Int32), .int ((0 : Int32) + (1 : Int32))], Ac fp le lp lb il tf tz (sbf (upN b (p + 0) (lb8 ((v.toUInt32 >>> (((8 : Int32) * (0 : Int32)).toUInt32 &&& Int32.toUInt32 31)).toInt32)))) rf fr mp sc ifp ib ie pw dh rl rb re sy sb rc sg ex)) k_P_setNumber_3 kc_P_setNumber_3 rfl ⟨trivial, trivial, trivial⟩ ?_
    refine Run.br (tgt := 30) d_P_setNumber_6 rfl (by decide) (fun c_2 => ?_) (fun c_2 => ?_)
    · exact absurd c_2 (by decide)
    · refine Run.blk (gs := [True, True, True, True, True, True, True, True, True]) (S' := ([some (.ref 3), some (.int (nI p)), some (.int (2 : Int32)), some (.int v), some (.int ((0 : Int32) + (1 : Int32)))], [.int ((v.toUInt32 >>> (((8 : Int32) * ((0 : Int32) + (1 : Int32))).toUInt32 &&& Int32.toUInt32 31)).toInt32), .int ((nI p) + ((0 : Int32) + (1 : Int32))), .ref 3], Ac fp le lp lb il tf tz (sbf (upN b (p + 0) (lb8 ((v.toUInt32 >>> (((8 : Int32) * (0 : Int32)).toUInt32 &&& Int32.toUInt32 31)).toInt32)))) rf fr mp sc ifp ib ie pw dh rl rb re sy sb rc sg ex)) k_P_setNumber_9 kc_P_setNumber_9 rfl ⟨trivial, trivial, trivial, trivial, trivial, trivial, trivial, trivial, trivial, trivial⟩ ?_
      refine Run.callV (b := 3) (As := [.int ((nI p) + ((0 : Int32) + (1 : Int32))), .int ((v.toUInt32 >>> (((8 : Int32) * ((0 : Int32) + (1 : Int32))).toUInt32 &&& Int32.toUInt32 31)).toInt32)]) (rest := []) v_P_setNumber_21 (c_P_setByte (p := p + 1) (show _ = nI (p + 1) from by rw [show ((0 : Int32) + (1 : Int32)) = nI 1 from by decide]; exact nI_add p 1) (by omega)) rfl (Nat.le_of_ble_eq_true rfl) rfl rfl rfl rfl (fun r cs' hp => ?_)
      obtain ⟨rfl, rfl⟩ := hp
      show Run _ _ _ _ 24 ([some (.ref 3), some (.int (nI p)), some (.int (2 : Int32)), some (.int v), some (.int ((0 : Int32) + (1 : Int32)))], [], Ac fp le lp lb il tf tz (sbf (upN (upN b (p + 0) (lb8 ((v.toUInt32 >>> (((8 : Int32) * (0 : Int32)).toUInt32 &&& Int32.toUInt32 31)).toInt32))) (p + 1) (lb8 ((v.toUInt32 >>> (((8 : Int32) * ((0 : Int32) + (1 : Int32))).toUInt32 &&& Int32.toUInt32 31)).toInt32)))) rf fr mp sc ifp ib ie pw dh rl rb re sy sb rc sg ex) _
      refine Run.blk (gs := [True]) (S' := ([some (.ref 3), some (.int (nI p)), some (.int (2 : Int32)), some (.int v), some (.int (((0 : Int32) + (1 : Int32)) + (1 : Int32)))], [], Ac fp le lp lb il tf tz (sbf (upN (upN b (p + 0) (lb8 ((v.toUInt32 >>> (((8 : Int32) * (0 : Int32)).toUInt32 &&& Int32.toUInt32 31)).toInt32))) (p + 1) (lb8 ((v.toUInt32 >>> (((8 : Int32) * ((0 : Int32) + (1 : Int32))).toUInt32 &&& Int32.toUInt32 31)).toInt32)))) rf fr mp sc ifp ib ie pw dh rl rb re sy sb rc sg ex)) k_P_setNumber_24 kc_P_setNumber_24 rfl ⟨trivial, trivial⟩ ?_
      refine Run.goto (tgt := 3) d_P_setNumber_27 (by decide) ?_
      refine Run.blk (gs := [True, True]) (S' := ([some (.ref 3), some (.int (nI p)), some (.int (2 : Int32)), some (.int v), some (.int (((0 : Int32) + (1 : Int32)) + (1 : Int32)))], [.int (2 : Int32), .int (((0 : Int32) + (1 : Int32)) + (1 : Int32))], Ac fp le lp lb il tf tz (sbf (upN (upN b (p + 0) (lb8 ((v.toUInt32 >>> (((8 : Int32) * (0 : Int32)).toUInt32 &&& Int32.toUInt32 31)).toInt32))) (p + 1) (lb8 ((v.toUInt32 >>> (((8 : Int32) * ((0 : Int32) + (1 : Int32))).toUInt32 &&& Int32.toUInt32 31)).toInt32)))) rf fr mp sc ifp ib ie pw dh rl rb re sy sb rc sg ex)) k_P_setNumber_3 kc_P_setNumber_3 rfl ⟨trivial, trivial, trivial⟩ ?_
      refine Run.br (tgt := 30) d_P_setNumber_6 rfl (by decide) (fun c_3 => ?_) (fun c_3 => ?_)
      · refine Run.ret (r := none) ⟨d_P_setNumber_30, rfl⟩ ⟨rfl, ?_⟩
        rw [lb8_sh v _ 0 (by decide), lb8_sh v _ 1 (by decide)]
        rfl
      · exact absurd c_3 (by decide)
set_option maxRecDepth 100000 in
set_option maxHeartbeats 4000000 in
theorem c_P_setNumber4 {p : Nat} {x v : Int32} (hx : x = nI p) (hp : p + 4 ≤ 16384) : Ct m_P_setNumber 0 0 [.ref 3, .int x, .int (4 : Int32), .int v] (Ac fp le lp lb il tf tz (sbf b) rf fr mp sc ifp ib ie pw dh rl rb re sy sb rc sg ex) (vm_is none (Ac fp le lp lb il tf tz (sbf (u4 b p v)) rf fr mp sc ifp ib ie pw dh rl rb re sy sb rc sg ex)) := by
  subst hx
  refine Ct.of ⟨by decide +kernel, rfl⟩ (Nat.le_of_ble_eq_true rfl) (lv := [some (.ref 3), some (.int (nI p)), some (.int (4 : Int32)), some (.int v), none]) rfl ?_
  refine Run.blk (gs := [True, True]) (S' := ([some (.ref 3), some (.int (nI p)), some (.int (4 : Int32)), some (.int v), some (.int (0 : Int32))], [], Ac fp le lp lb il tf tz (sbf b) rf fr mp sc ifp ib ie pw dh rl rb re sy sb rc sg ex)) k_P_setNumber_0 kc_P_setNumber_0 rfl ⟨trivial, trivial, trivial⟩ ?_
  refine Run.blk (gs := [True, True]) (S' := ([some (.ref 3), some (.int (nI p)), some (.int (4 : Int32)), some (.int v), some (.int (0 : Int32))], [.int (4 : Int32), .int (0 : Int32)], Ac fp le lp lb il tf tz (sbf b) rf fr mp sc ifp ib ie pw dh rl rb re sy sb rc sg ex)) k_P_setNumber_3 kc_P_setNumber_3 rfl ⟨trivial, trivial, trivial⟩ ?_
  refine Run.br (tgt := 30) d_P_setNumber_6 rfl (by decide) (fun c_1 => ?_) (fun c_1 => ?_)
  · exact absurd c_1 (by decide)
  · refine Run.blk (gs := [True, True, True, True, True, True, True, True, True]) (S' := ([some (.ref 3), some (.int (nI p)), some (.int (4 : Int32)), some (.int v), some (.int (0 : Int32))], [.int ((v.toUInt32 >>> (((8 : Int32) * (0 : Int32)).toUInt32 &&& Int32.toUInt32 31)).toInt32), .int ((nI p) + (0 : Int32)), .ref 3], Ac fp le lp lb il tf tz (sbf b) rf fr mp sc ifp ib ie pw dh rl rb re sy sb rc sg ex)) k_P_setNumber_9 kc_P_setNumber_9 rfl ⟨trivial, trivial, trivial, trivial, trivial, trivial, trivial, trivial, trivial, trivial⟩ ?_
    refine Run.callV (b := 3) (As := [.int ((nI p) + (0 : Int32)), .int ((v.toUInt32 >>> (((8 : Int32) * (0 : Int32)).toUInt32 &&& Int32.toUInt32 31)).toInt32)]) (rest := []) v_P_setNumber_21 (c_P_setByte (p := p + 0) (show _ = nI (p + 0) from by rw [show (0 : Int32) = nI 0 from by decide]; exact nI_add p 0) (by omega)) rfl (Nat.le_of_ble_eq_true rfl) rfl rfl rfl rfl (fun r cs' hp => ?_)
    obtain ⟨rfl, rfl⟩ := hp
    show Run _ _ _ _ 24 ([some (.ref 3), some (.int (nI p)), some (.int (4 : Int32)), some (.int v), some (.int (0 : Int32))], [], Ac fp le lp lb il tf tz (sbf (upN b (p + 0) (lb8 ((v.toUInt32 >>> (((8 : Int32) * (0 : Int32)).toUInt32 &&& Int32.toUInt32 31)).toInt32)))) rf fr mp sc ifp ib ie pw dh rl rb re sy sb rc sg ex) _
    refine Run.blk (gs := [True]) (S' := ([some (.ref 3), some (.int (nI p)), some (.int (4 : Int32)), some (.int v), some (.int ((0 : Int32) + (1 : Int32)))], [], Ac fp le lp lb il tf tz (sbf (upN b (p + 0) (lb8 ((v.toUInt32 >>> (((8 : Int32) * (0 : Int32)).toUInt32 &&& Int32.toUInt32 31)).toInt32)))) rf fr mp sc ifp ib ie pw dh rl rb re sy sb rc sg ex)) k_P_setNumber_24 kc_P_setNumber_24 rfl ⟨trivial, trivial⟩ ?_
    refine Run.goto (tgt := 3) d_P_setNumber_27 (by decide) ?_
    refine Run.blk (gs := [True, True]) (S' := ([some (.ref 3), some (.int (nI p)), some (.int (4 : Int32)), some (.int v), some (.int ((0 : Int32) + (1 : Int32)))], [.int (4 : Int32), .int ((0 : Int32) + (1 : Int32))], Ac fp le lp lb il tf tz (sbf (upN b (p + 0) (lb8 ((v.toUInt32 >>> (((8 : Int32) * (0 : Int32)).toUInt32 &&& Int32.toUInt32 31)).toInt32)))) rf fr mp sc ifp ib ie pw dh rl rb re sy sb rc sg ex)) k_P_setNumber_3 kc_P_setNumber_3 rfl ⟨trivial, trivial, trivial⟩ ?_
    refine Run.br (tgt := 30) d_P_setNumber_6 rfl (by decide) (fun c_2 => ?_) (fun c_2 => ?_)
    · exact absurd c_2 (by decide)
    · refine Run.blk (gs := [True, True, True, True, True, True, True, True, True]) (S' := ([some (.ref 3), some (.int (nI p)), some (.int (4 : Int32)), some (.int v), some (.int ((0 : Int32) + (1 : Int32)))], [.int ((v.toUInt32 >>> (((8 : Int32) * ((0 : Int32) + (1 : Int32))).toUInt32 &&& Int32.toUInt32 31)).toInt32), .int ((nI p) + ((0 : Int32) + (1 : Int32))), .ref 3], Ac fp le lp lb il tf tz (sbf (upN b (p + 0) (lb8 ((v.toUInt32 >>> (((8 : Int32) * (0 : Int32)).toUInt32 &&& Int32.toUInt32 31)).toInt32)))) rf fr mp sc ifp ib ie pw dh rl rb re sy sb rc sg ex)) k_P_setNumber_9 kc_P_setNumber_9 rfl ⟨trivial, trivial, trivial, trivial, trivial, trivial, trivial, trivial, trivial, trivial⟩ ?_
      refine Run.callV (b := 3) (As := [.int ((nI p) + ((0 : Int32) + (1 : Int32))), .int ((v.toUInt32 >>> (((8 : Int32) * ((0 : Int32) + (1 : Int32))).toUInt32 &&& Int32.toUInt32 31)).toInt32)]) (rest := []) v_P_setNumber_21 (c_P_setByte (p := p + 1) (show _ = nI (p + 1) from by rw [show ((0 : Int32) + (1 : Int32)) = nI 1 from by decide]; exact nI_add p 1) (by omega)) rfl (Nat.le_of_ble_eq_true rfl) rfl rfl rfl rfl (fun r cs' hp => ?_)
      obtain ⟨rfl, rfl⟩ := hp
      show Run _ _ _ _ 24 ([some (.ref 3), some (.int (nI p)), some (.int (4 : Int32)), some (.int v), some (.int ((0 : Int32) + (1 : Int32)))], [], Ac fp le lp lb il tf tz (sbf (upN (upN b (p + 0) (lb8 ((v.toUInt32 >>> (((8 : Int32) * (0 : Int32)).toUInt32 &&& Int32.toUInt32 31)).toInt32))) (p + 1) (lb8 ((v.toUInt32 >>> (((8 : Int32) * ((0 : Int32) + (1 : Int32))).toUInt32 &&& Int32.toUInt32 31)).toInt32)))) rf fr mp sc ifp ib ie pw dh rl rb re sy sb rc sg ex) _
      refine Run.blk (gs := [True]) (S' := ([some (.ref 3), some (.int (nI p)), some (.int (4 : Int32)), some (.int v), some (.int (((0 : Int32) + (1 : Int32)) + (1 : Int32)))], [], Ac fp le lp lb il tf tz (sbf (upN (upN b (p + 0) (lb8 ((v.toUInt32 >>> (((8 : Int32) * (0 : Int32)).toUInt32 &&& Int32.toUInt32 31)).toInt32))) (p + 1) (lb8 ((v.toUInt32 >>> (((8 : Int32) * ((0 : Int32) + (1 : Int32))).toUInt32 &&& Int32.toUInt32 31)).toInt32)))) rf fr mp sc ifp ib ie pw dh rl rb re sy sb rc sg ex)) k_P_setNumber_24 kc_P_setNumber_24 rfl ⟨trivial, trivial⟩ ?_
      refine Run.goto (tgt := 3) d_P_setNumber_27 (by decide) ?_
      refine Run.blk (gs := [True, True]) (S' := ([some (.ref 3), some (.int (nI p)), some (.int (4 : Int32)), some (.int v), some (.int (((0 : Int32) + (1 : Int32)) + (1 : Int32)))], [.int (4 : Int32), .int (((0 : Int32) + (1 : Int32)) + (1 : Int32))], Ac fp le lp lb il tf tz (sbf (upN (upN b (p + 0) (lb8 ((v.toUInt32 >>> (((8 : Int32) * (0 : Int32)).toUInt32 &&& Int32.toUInt32 31)).toInt32))) (p + 1) (lb8 ((v.toUInt32 >>> (((8 : Int32) * ((0 : Int32) + (1 : Int32))).toUInt32 &&& Int32.toUInt32 31)).toInt32)))) rf fr mp sc ifp ib ie pw dh rl rb re sy sb rc sg ex)) k_P_setNumber_3 kc_P_setNumber_3 rfl ⟨trivial, trivial, trivial⟩ ?_
      refine Run.br (tgt := 30) d_P_setNumber_6 rfl (by decide) (fun c_3 => ?_) (fun c_3 => ?_)
      · exact absurd c_3 (by decide)
      · refine Run.blk (gs := [True, True, True, True, True, True, True, True, True]) (S' := ([some (.ref 3), some (.int (nI p)), some (.int (4 : Int32)), some (.int v), some (.int (((0 : Int32) + (1 : Int32)) + (1 : Int32)))], [.int ((v.toUInt32 >>> (((8 : Int32) * (((0 : Int32) + (1 : Int32)) + (1 : Int32))).toUInt32 &&& Int32.toUInt32 31)).toInt32), .int ((nI p) + (((0 : Int32) + (1 : Int32)) + (1 : Int32))), .ref 3], Ac fp le lp lb il tf tz (sbf (upN (upN b (p + 0) (lb8 ((v.toUInt32 >>> (((8 : Int32) * (0 : Int32)).toUInt32 &&& Int32.toUInt32 31)).toInt32))) (p + 1) (lb8 ((v.toUInt32 >>> (((8 : Int32) * ((0 : Int32) + (1 : Int32))).toUInt32 &&& Int32.toUInt32 31)).toInt32)))) rf fr mp sc ifp ib ie pw dh rl rb re sy sb rc sg ex)) k_P_setNumber_9 kc_P_setNumber_9 rfl ⟨trivial, trivial, trivial, trivial, trivial, trivial, trivial, trivial, trivial, trivial⟩ ?_
        refine Run.callV (b := 3) (As := [.int ((nI p) + (((0 : Int32) + (1 : Int32)) + (1 : Int32))), .int ((v.toUInt32 >>> (((8 : Int32) * (((0 : Int32) + (1 : Int32)) + (1 : Int32))).toUInt32 &&& Int32.toUInt32 31)).toInt32)]) (rest := []) v_P_setNumber_21 (c_P_setByte (p := p + 2) (show _ = nI (p + 2) from by rw [show (((0 : Int32) + (1 : Int32)) + (1 : Int32)) = nI 2 from by decide]; exact nI_add p 2) (by omega)) rfl (Nat.le_of_ble_eq_true rfl) rfl rfl rfl rfl (fun r cs' hp => ?_)
        obtain ⟨rfl, rfl⟩ := hp
        show Run _ _ _ _ 24 ([some (.ref 3), some (.int (nI p)), some (.int (4 : Int32)), some (.int v), some (.int (((0 : Int32) + (1 : Int32)) + (1 : Int32)))], [], Ac fp le lp lb il tf tz (sbf (upN (upN (upN b (p + 0) (lb8 ((v.toUInt32 >>> (((8 : Int32) * (0 : Int32)).toUInt32 &&& Int32.toUInt32 31)).toInt32))) (p + 1) (lb8 ((v.toUInt32 >>> (((8 : Int32) * ((0 : Int32) + (1 : Int32))).toUInt32 &&& Int32.toUInt32 31)).toInt32))) (p + 2) (lb8 ((v.toUInt32 >>> (((8 : Int32) * (((0 : Int32) + (1 : Int32)) + (1 : Int32))).toUInt32 &&& Int32.toUInt32 31)).toInt32)))) rf fr mp sc ifp ib ie pw dh rl rb re sy sb rc sg ex) _
        refine Run.blk (gs := [True]) (S' := ([some (.ref 3), some (.int (nI p)), some (.int (4 : Int32)), some (.int v), some (.int ((((0 : Int32) + (1 : Int32)) + (1 : Int32)) + (1 : Int32)))], [], Ac fp le lp lb il tf tz (sbf (upN (upN (upN b (p + 0) (lb8 ((v.toUInt32 >>> (((8 : Int32) * (0 : Int32)).toUInt32 &&& Int32.toUInt32 31)).toInt32))) (p + 1) (lb8 ((v.toUInt32 >>> (((8 : Int32) * ((0 : Int32) + (1 : Int32))).toUInt32 &&& Int32.toUInt32 31)).toInt32))) (p + 2) (lb8 ((v.toUInt32 >>> (((8 : Int32) * (((0 : Int32) + (1 : Int32)) + (1 : Int32))).toUInt32 &&& Int32.toUInt32 31)).toInt32)))) rf fr mp sc ifp ib ie pw dh rl rb re sy sb rc sg ex)) k_P_setNumber_24 kc_P_setNumber_24 rfl ⟨trivial, trivial⟩ ?_
        refine Run.goto (tgt := 3) d_P_setNumber_27 (by decide) ?_
        refine Run.blk (gs := [True, True]) (S' := ([some (.ref 3), some (.int (nI p)), some (.int (4 : Int32)), some (.int v), some (.int ((((0 : Int32) + (1 : Int32)) + (1 : Int32)) + (1 : Int32)))], [.int (4 : Int32), .int ((((0 : Int32) + (1 : Int32)) + (1 : Int32)) + (1 : Int32))], Ac fp le lp lb il tf tz (sbf (upN (upN (upN b (p + 0) (lb8 ((v.toUInt32 >>> (((8 : Int32) * (0 : Int32)).toUInt32 &&& Int32.toUInt32 31)).toInt32))) (p + 1) (lb8 ((v.toUInt32 >>> (((8 : Int32) * ((0 : Int32) + (1 : Int32))).toUInt32 &&& Int32.toUInt32 31)).toInt32))) (p + 2) (lb8 ((v.toUInt32 >>> (((8 : Int32) * (((0 : Int32) + (1 : Int32)) + (1 : Int32))).toUInt32 &&& Int32.toUInt32 31)).toInt32)))) rf fr mp sc ifp ib ie pw dh rl rb re sy sb rc sg ex)) k_P_setNumber_3 kc_P_setNumber_3 rfl ⟨trivial, trivial, trivial⟩ ?_
        refine Run.br (tgt := 30) d_P_setNumber_6 rfl (by decide) (fun c_4 => ?_) (fun c_4 => ?_)
        · exact absurd c_4 (by decide)
        · refine Run.blk (gs := [True, True, True, True, True, True, True, True, True]) (S' := ([some (.ref 3), some (.int (nI p)), some (.int (4 : Int32)), some (.int v), some (.int ((((0 : Int32) + (1 : Int32)) + (1 : Int32)) + (1 : Int32)))], [.int ((v.toUInt32 >>> (((8 : Int32) * ((((0 : Int32) + (1 : Int32)) + (1 : Int32)) + (1 : Int32))).toUInt32 &&& Int32.toUInt32 31)).toInt32), .int ((nI p) + ((((0 : Int32) + (1 : Int32)) + (1 : Int32)) + (1 : Int32))), .ref 3], Ac fp le lp lb il tf tz (sbf (upN (upN (upN b (p + 0) (lb8 ((v.toUInt32 >>> (((8 : Int32) * (0 : Int32)).toUInt32 &&& Int32.toUInt32 31)).toInt32))) (p + 1) (lb8 ((v.toUInt32 >>> (((8 : Int32) * ((0 : Int32) + (1 : Int32))).toUInt32 &&& Int32.toUInt32 31)).toInt32))) (p + 2) (lb8 ((v.toUInt32 >>> (((8 : Int32) * (((0 : Int32) + (1 : Int32)) + (1 : Int32))).toUInt32 &&& Int32.toUInt32 31)).toInt32)))) rf fr mp sc ifp ib ie pw dh rl rb re sy sb rc sg ex)) k_P_setNumber_9 kc_P_setNumber_9 rfl ⟨trivial, trivial, trivial, trivial, trivial, trivial, trivial, trivial, trivial, trivial⟩ ?_
          refine Run.callV (b := 3) (As := [.int ((nI p) + ((((0 : Int32) + (1 : Int32)) + (1 : Int32)) + (1 : Int32))), .int ((v.toUInt32 >>> (((8 : Int32) * ((((0 : Int32) + (1 : Int32)) + (1 : Int32)) + (1 : Int32))).toUInt32 &&& Int32.toUInt32 31)).toInt32)]) (rest := []) v_P_setNumber_21 (c_P_setByte (p := p + 3) (show _ = nI (p + 3) from by rw [show ((((0 : Int32) + (1 : Int32)) + (1 : Int32)) + (1 : Int32)) = nI 3 from by decide]; exact nI_add p 3) (by omega)) rfl (Nat.le_of_ble_eq_true rfl) rfl rfl rfl rfl (fun r cs' hp => ?_)
          obtain ⟨rfl, rfl⟩ := hp
          show Run _ _ _ _ 24 ([some (.ref 3), some (.int (nI p)), some (.int (4 : Int32)), some (.int v), some (.int ((((0 : Int32) + (1 : Int32)) + (1 : Int32)) + (1 : Int32)))], [], Ac fp le lp lb il tf tz (sbf (upN (upN (upN (upN b (p + 0) (lb8 ((v.toUInt32 >>> (((8 : Int32) * (0 : Int32)).toUInt32 &&& Int32.toUInt32 31)).toInt32))) (p + 1) (lb8 ((v.toUInt32 >>> (((8 : Int32) * ((0 : Int32) + (1 : Int32))).toUInt32 &&& Int32.toUInt32 31)).toInt32))) (p + 2) (lb8 ((v.toUInt32 >>> (((8 : Int32) * (((0 : Int32) + (1 : Int32)) + (1 : Int32))).toUInt32 &&& Int32.toUInt32 31)).toInt32))) (p + 3) (lb8 ((v.toUInt32 >>> (((8 : Int32) * ((((0 : Int32) + (1 : Int32)) + (1 : Int32)) + (1 : Int32))).toUInt32 &&& Int32.toUInt32 31)).toInt32)))) rf fr mp sc ifp ib ie pw dh rl rb re sy sb rc sg ex) _
          refine Run.blk (gs := [True]) (S' := ([some (.ref 3), some (.int (nI p)), some (.int (4 : Int32)), some (.int v), some (.int (((((0 : Int32) + (1 : Int32)) + (1 : Int32)) + (1 : Int32)) + (1 : Int32)))], [], Ac fp le lp lb il tf tz (sbf (upN (upN (upN (upN b (p + 0) (lb8 ((v.toUInt32 >>> (((8 : Int32) * (0 : Int32)).toUInt32 &&& Int32.toUInt32 31)).toInt32))) (p + 1) (lb8 ((v.toUInt32 >>> (((8 : Int32) * ((0 : Int32) + (1 : Int32))).toUInt32 &&& Int32.toUInt32 31)).toInt32))) (p + 2) (lb8 ((v.toUInt32 >>> (((8 : Int32) * (((0 : Int32) + (1 : Int32)) + (1 : Int32))).toUInt32 &&& Int32.toUInt32 31)).toInt32))) (p + 3) (lb8 ((v.toUInt32 >>> (((8 : Int32) * ((((0 : Int32) + (1 : Int32)) + (1 : Int32)) + (1 : Int32))).toUInt32 &&& Int32.toUInt32 31)).toInt32)))) rf fr mp sc ifp ib ie pw dh rl rb re sy sb rc sg ex)) k_P_setNumber_24 kc_P_setNumber_24 rfl ⟨trivial, trivial⟩ ?_
          refine Run.goto (tgt := 3) d_P_setNumber_27 (by decide) ?_
          refine Run.blk (gs := [True, True]) (S' := ([some (.ref 3), some (.int (nI p)), some (.int (4 : Int32)), some (.int v), some (.int (((((0 : Int32) + (1 : Int32)) + (1 : Int32)) + (1 : Int32)) + (1 : Int32)))], [.int (4 : Int32), .int (((((0 : Int32) + (1 : Int32)) + (1 : Int32)) + (1 : Int32)) + (1 : Int32))], Ac fp le lp lb il tf tz (sbf (upN (upN (upN (upN b (p + 0) (lb8 ((v.toUInt32 >>> (((8 : Int32) * (0 : Int32)).toUInt32 &&& Int32.toUInt32 31)).toInt32))) (p + 1) (lb8 ((v.toUInt32 >>> (((8 : Int32) * ((0 : Int32) + (1 : Int32))).toUInt32 &&& Int32.toUInt32 31)).toInt32))) (p + 2) (lb8 ((v.toUInt32 >>> (((8 : Int32) * (((0 : Int32) + (1 : Int32)) + (1 : Int32))).toUInt32 &&& Int32.toUInt32 31)).toInt32))) (p + 3) (lb8 ((v.toUInt32 >>> (((8 : Int32) * ((((0 : Int32) + (1 : Int32)) + (1 : Int32)) + (1 : Int32))).toUInt32 &&& Int32.toUInt32 31)).toInt32)))) rf fr mp sc ifp ib ie pw dh rl rb re sy sb rc sg ex)) k_P_setNumber_3 kc_P_setNumber_3 rfl ⟨trivial, trivial, trivial⟩ ?_
          refine Run.br (tgt := 30) d_P_setNumber_6 rfl (by decide) (fun c_5 => ?_) (fun c_5 => ?_)
          · refine Run.ret (r := none) ⟨d_P_setNumber_30, rfl⟩ ⟨rfl, ?_⟩
            rw [lb8_sh v _ 0 (by decide), lb8_sh v _ 1 (by decide), lb8_sh v _ 2 (by decide), lb8_sh v _ 3 (by decide)]
            rfl
          · exact absurd c_5 (by decide)
def sm1 (b : Nat → Nat) (p : Nat) (s : Int32) : Nat → Int32
  | 0 => s
  | k + 1 => 31 * sm1 b p s k + nI (b (256 * p + k))
def sm0 (s : Int32) : Nat → Int32
  | 0 => s
  | k + 1 => 31 * sm0 s k + 1000
set_option maxRecDepth 100000 in
set_option maxHeartbeats 4000000 in
theorem l_P_sumOn1 {s0 : Int32} {p : Nat} (hp : p < 64) (hb : ∀ j, b j < 256) : ∀ (k i : Nat) (s v : Int32), v = nI i → s = sm1 b p s0 i → i + k = 256 → Run m_P_sumOn n 0 0 21 ([some (.ref 3), some (.int s0), some (.int (nI p)), some (.int (1 : Int32)), some (.int s), some (.int v)], [], Ac fp le lp lb il tf tz (sbf b) rf fr mp sc ifp ib ie pw dh rl rb re sy sb rc sg ex) (vm_is (some (.int (sm1 b p s0 256))) (Ac fp le lp lb il tf tz (sbf b) rf fr mp sc ifp ib ie pw dh rl rb re sy sb rc sg ex))
  | 0, i, s, v, hv, hs, h => by
    obtain rfl : i = 256 := by omega
    refine Run.blk (gs := [True, True]) (S' := ([some (.ref 3), some (.int s0), some (.int (nI p)), some (.int (1 : Int32)), some (.int s), some (.int v)], [.int (256 : Int32), .int v], Ac fp le lp lb il tf tz (sbf b) rf fr mp sc ifp ib ie pw dh rl rb re sy sb rc sg ex)) k_P_sumOn_21 kc_P_sumOn_21 rfl ⟨trivial, trivial, trivial⟩ ?_
    refine Run.br (tgt := 65) d_P_sumOn_26 rfl (by decide) (fun c_1 => ?_) (fun c_1 => ?_)
    · refine Run.blk (gs := [True]) (S' := ([some (.ref 3), some (.int s0), some (.int (nI p)), some (.int (1 : Int32)), some (.int s), some (.int v)], [.int s], Ac fp le lp lb il tf tz (sbf b) rf fr mp sc ifp ib ie pw dh rl rb re sy sb rc sg ex)) k_P_sumOn_65 kc_P_sumOn_65 rfl ⟨trivial, trivial⟩ ?_
      exact Run.ret (r := some (.int s)) ⟨d_P_sumOn_67, _, rfl, rfl⟩ ⟨by rw [hs], rfl⟩
    · exact absurd (by rw [hv]; exact Int32.le_refl _) c_1
  | k + 1, i, s, v, hv, hs, h => by
    refine Run.blk (gs := [True, True]) (S' := ([some (.ref 3), some (.int s0), some (.int (nI p)), some (.int (1 : Int32)), some (.int s), some (.int v)], [.int (256 : Int32), .int v], Ac fp le lp lb il tf tz (sbf b) rf fr mp sc ifp ib ie pw dh rl rb re sy sb rc sg ex)) k_P_sumOn_21 kc_P_sumOn_21 rfl ⟨trivial, trivial, trivial⟩ ?_
    refine Run.br (tgt := 65) d_P_sumOn_26 rfl (by decide) (fun c_1 => ?_) (fun c_1 => ?_)
    · exact absurd c_1 (by rw [hv]; exact nI_ge (show i < 256 by omega) (by decide))
    · refine Run.blk (gs := [True, True, True, True]) (S' := ([some (.ref 3), some (.int s0), some (.int (nI p)), some (.int (1 : Int32)), some (.int s), some (.int v)], [.int (1 : Int32), .int ((31 : Int32) * s)], Ac fp le lp lb il tf tz (sbf b) rf fr mp sc ifp ib ie pw dh rl rb re sy sb rc sg ex)) k_P_sumOn_29 kc_P_sumOn_29 rfl ⟨trivial, trivial, trivial, trivial, trivial⟩ ?_
      refine Run.br (tgt := 53) d_P_sumOn_35 rfl (by decide) (fun c_2 => ?_) (fun c_2 => ?_)
      · exact absurd c_2 (by decide)
      · refine Run.blk (gs := [True, True, True, True, True, True]) (S' := ([some (.ref 3), some (.int s0), some (.int (nI p)), some (.int (1 : Int32)), some (.int s), some (.int v)], [.int (((nI p) * (256 : Int32)) + v), .ref 3, .int ((31 : Int32) * s)], Ac fp le lp lb il tf tz (sbf b) rf fr mp sc ifp ib ie pw dh rl rb re sy sb rc sg ex)) k_P_sumOn_38 kc_P_sumOn_38 rfl ⟨trivial, trivial, trivial, trivial, trivial, trivial, trivial⟩ ?_
        refine Run.callV (b := 3) (As := [.int (((nI p) * (256 : Int32)) + v)]) (rest := [.int ((31 : Int32) * s)]) v_P_sumOn_47 (c_P_byteAt (p := 256 * p + i) hb (by rw [hv]; exact pg_add p i) (by omega)) rfl (Nat.le_of_ble_eq_true rfl) rfl rfl rfl rfl (fun r cs' hp => ?_)
        obtain ⟨rfl, rfl⟩ := hp
        show Run _ _ _ _ 50 ([some (.ref 3), some (.int s0), some (.int (nI p)), some (.int (1 : Int32)), some (.int s), some (.int v)], [.int (nI (b (256 * p + i))), .int ((31 : Int32) * s)], Ac fp le lp lb il tf tz (sbf b) rf fr mp sc ifp ib ie pw dh rl rb re sy sb rc sg ex) _
        refine Run.goto (tgt := 56) d_P_sumOn_50 (by decide) ?_
        refine Run.blk (gs := [True, True, True]) (S' := ([some (.ref 3), some (.int s0), some (.int (nI p)), some (.int (1 : Int32)), some (.int (((31 : Int32) * s) + (nI (b (256 * p + i))))), some (.int (v + (1 : Int32)))], [], Ac fp le lp lb il tf tz (sbf b) rf fr mp sc ifp ib ie pw dh rl rb re sy sb rc sg ex)) k_P_sumOn_56 kc_P_sumOn_56 rfl ⟨trivial, trivial, trivial, trivial⟩ ?_
        refine Run.goto (tgt := 21) d_P_sumOn_62 (by decide) ?_
        exact l_P_sumOn1 hp hb k (i + 1) _ _ (by rw [hv, nI_1]) (by rw [hs]; rfl) (by omega)
set_option maxRecDepth 100000 in
set_option maxHeartbeats 4000000 in
theorem l_P_sumOn0 {s0 : Int32} {p : Nat} (hp : p < 64) (hb : ∀ j, b j < 256) : ∀ (k i : Nat) (s v : Int32), v = nI i → s = sm0 s0 i → i + k = 256 → Run m_P_sumOn n 0 0 21 ([some (.ref 3), some (.int s0), some (.int (nI p)), some (.int (0 : Int32)), some (.int s), some (.int v)], [], Ac fp le lp lb il tf tz (sbf b) rf fr mp sc ifp ib ie pw dh rl rb re sy sb rc sg ex) (vm_is (some (.int (sm0 s0 256))) (Ac fp le lp lb il tf tz (sbf b) rf fr mp sc ifp ib ie pw dh rl rb re sy sb rc sg ex))
  | 0, i, s, v, hv, hs, h => by
    obtain rfl : i = 256 := by omega
    refine Run.blk (gs := [True, True]) (S' := ([some (.ref 3), some (.int s0), some (.int (nI p)), some (.int (0 : Int32)), some (.int s), some (.int v)], [.int (256 : Int32), .int v], Ac fp le lp lb il tf tz (sbf b) rf fr mp sc ifp ib ie pw dh rl rb re sy sb rc sg ex)) k_P_sumOn_21 kc_P_sumOn_21 rfl ⟨trivial, trivial, trivial⟩ ?_
    refine Run.br (tgt := 65) d_P_sumOn_26 rfl (by decide) (fun c_1 => ?_) (fun c_1 => ?_)
    · refine Run.blk (gs := [True]) (S' := ([some (.ref 3), some (.int s0), some (.int (nI p)), some (.int (0 : Int32)), some (.int s), some (.int v)], [.int s], Ac fp le lp lb il tf tz (sbf b) rf fr mp sc ifp ib ie pw dh rl rb re sy sb rc sg ex)) k_P_sumOn_65 kc_P_sumOn_65 rfl ⟨trivial, trivial⟩ ?_
      exact Run.ret (r := some (.int s)) ⟨d_P_sumOn_67, _, rfl, rfl⟩ ⟨by rw [hs], rfl⟩
    · exact absurd (by rw [hv]; exact Int32.le_refl _) c_1
  | k + 1, i, s, v, hv, hs, h => by
    refine Run.blk (gs := [True, True]) (S' := ([some (.ref 3), some (.int s0), some (.int (nI p)), some (.int (0 : Int32)), some (.int s), some (.int v)], [.int (256 : Int32), .int v], Ac fp le lp lb il tf tz (sbf b) rf fr mp sc ifp ib ie pw dh rl rb re sy sb rc sg ex)) k_P_sumOn_21 kc_P_sumOn_21 rfl ⟨trivial, trivial, trivial⟩ ?_
    refine Run.br (tgt := 65) d_P_sumOn_26 rfl (by decide) (fun c_1 => ?_) (fun c_1 => ?_)
    · exact absurd c_1 (by rw [hv]; exact nI_ge (show i < 256 by omega) (by decide))
    · refine Run.blk (gs := [True, True, True, True]) (S' := ([some (.ref 3), some (.int s0), some (.int (nI p)), some (.int (0 : Int32)), some (.int s), some (.int v)], [.int (0 : Int32), .int ((31 : Int32) * s)], Ac fp le lp lb il tf tz (sbf b) rf fr mp sc ifp ib ie pw dh rl rb re sy sb rc sg ex)) k_P_sumOn_29 kc_P_sumOn_29 rfl ⟨trivial, trivial, trivial, trivial, trivial⟩ ?_
      refine Run.br (tgt := 53) d_P_sumOn_35 rfl (by decide) (fun c_2 => ?_) (fun c_2 => ?_)
      · refine Run.blk (gs := [True]) (S' := ([some (.ref 3), some (.int s0), some (.int (nI p)), some (.int (0 : Int32)), some (.int s), some (.int v)], [.int (1000 : Int32), .int ((31 : Int32) * s)], Ac fp le lp lb il tf tz (sbf b) rf fr mp sc ifp ib ie pw dh rl rb re sy sb rc sg ex)) k_P_sumOn_53 kc_P_sumOn_53 rfl ⟨trivial, trivial⟩ ?_
        refine Run.blk (gs := [True, True, True]) (S' := ([some (.ref 3), some (.int s0), some (.int (nI p)), some (.int (0 : Int32)), some (.int (((31 : Int32) * s) + (1000 : Int32))), some (.int (v + (1 : Int32)))], [], Ac fp le lp lb il tf tz (sbf b) rf fr mp sc ifp ib ie pw dh rl rb re sy sb rc sg ex)) k_P_sumOn_56 kc_P_sumOn_56 rfl ⟨trivial, trivial, trivial, trivial⟩ ?_
        refine Run.goto (tgt := 21) d_P_sumOn_62 (by decide) ?_
        exact l_P_sumOn0 hp hb k (i + 1) _ _ (by rw [hv, nI_1]) (by rw [hs]; rfl) (by omega)
      · exact absurd c_2 (by decide)
set_option maxRecDepth 100000 in
set_option maxHeartbeats 4000000 in
theorem c_P_sumOn {s0 x : Int32} {p : Nat} (hx : x = nI p) (hp : p < 64) (hb : ∀ j, b j < 256) : Ct m_P_sumOn 0 0 [.ref 3, .int s0, .int x] (Ac fp le lp lb il tf tz (sbf b) rf fr mp sc ifp ib ie pw dh rl rb re sy sb rc sg ex) (vm_is (some (.int (if rf p = -1 then sm0 s0 256 else sm1 b p s0 256))) (Ac fp le lp lb il tf tz (sbf b) rf fr mp sc ifp ib ie pw dh rl rb re sy sb rc sg ex)) := by
  subst hx
  refine Ct.of ⟨by decide +kernel, rfl⟩ (Nat.le_of_ble_eq_true rfl) (lv := [some (.ref 3), some (.int s0), some (.int (nI p)), none, none, none]) rfl ?_
  refine Run.blk (gs := [True, True]) (S' := ([some (.ref 3), some (.int s0), some (.int (nI p)), none, none, none], [.int (nI p), .ref 3], Ac fp le lp lb il tf tz (sbf b) rf fr mp sc ifp ib ie pw dh rl rb re sy sb rc sg ex)) k_P_sumOn_0 kc_P_sumOn_0 rfl ⟨trivial, trivial, trivial⟩ ?_
  refine Run.callV (b := 3) (As := [.int (nI p)]) (rest := []) v_P_sumOn_2 c_P_rightsOf rfl (Nat.le_of_ble_eq_true rfl) rfl rfl rfl rfl (fun r cs' hp => ?_)
  obtain ⟨rfl, rfl⟩ := hp
  show Run _ _ _ _ 5 ([some (.ref 3), some (.int s0), some (.int (nI p)), none, none, none], [.int (rO rf (nI p))], Ac fp le lp lb il tf tz (sbf b) rf fr mp sc ifp ib ie pw dh rl rb re sy sb rc sg ex) _
  refine Run.blk (gs := [True]) (S' := ([some (.ref 3), some (.int s0), some (.int (nI p)), none, none, none], [.int (-1 : Int32), .int (rO rf (nI p))], Ac fp le lp lb il tf tz (sbf b) rf fr mp sc ifp ib ie pw dh rl rb re sy sb rc sg ex)) k_P_sumOn_5 kc_P_sumOn_5 rfl ⟨trivial, trivial⟩ ?_
  refine Run.br (tgt := 13) d_P_sumOn_6 rfl (by decide) (fun c_1 => ?_) (fun c_1 => ?_)
  · rw [rO_in hp] at c_1
    refine Run.blk (gs := [True]) (S' := ([some (.ref 3), some (.int s0), some (.int (nI p)), none, none, none], [.int (0 : Int32)], Ac fp le lp lb il tf tz (sbf b) rf fr mp sc ifp ib ie pw dh rl rb re sy sb rc sg ex)) k_P_sumOn_13 kc_P_sumOn_13 rfl ⟨trivial, trivial⟩ ?_
    refine Run.blk (gs := [True, True, True, True, True]) (S' := ([some (.ref 3), some (.int s0), some (.int (nI p)), some (.int (0 : Int32)), some (.int s0), some (.int (0 : Int32))], [], Ac fp le lp lb il tf tz (sbf b) rf fr mp sc ifp ib ie pw dh rl rb re sy sb rc sg ex)) k_P_sumOn_14 kc_P_sumOn_14 rfl ⟨trivial, trivial, trivial, trivial, trivial, trivial⟩ ?_
    rw [if_pos c_1]
    exact l_P_sumOn0 hp hb 256 0 _ _ rfl rfl rfl
  · rw [rO_in hp] at c_1
    refine Run.blk (gs := [True]) (S' := ([some (.ref 3), some (.int s0), some (.int (nI p)), none, none, none], [.int (1 : Int32)], Ac fp le lp lb il tf tz (sbf b) rf fr mp sc ifp ib ie pw dh rl rb re sy sb rc sg ex)) k_P_sumOn_9 kc_P_sumOn_9 rfl ⟨trivial, trivial⟩ ?_
    refine Run.goto (tgt := 14) d_P_sumOn_10 (by decide) ?_
    refine Run.blk (gs := [True, True, True, True, True]) (S' := ([some (.ref 3), some (.int s0), some (.int (nI p)), some (.int (1 : Int32)), some (.int s0), some (.int (0 : Int32))], [], Ac fp le lp lb il tf tz (sbf b) rf fr mp sc ifp ib ie pw dh rl rb re sy sb rc sg ex)) k_P_sumOn_14 kc_P_sumOn_14 rfl ⟨trivial, trivial, trivial, trivial, trivial, trivial⟩ ?_
    rw [if_neg c_1]
    exact l_P_sumOn1 hp hb 256 0 _ _ rfl rfl rfl
end P18
end
section
section P19
variable {fp le lp lb il : Int32} {tf bf rf : Nat → Int32} {tz fr mp sc ifp ib ie pw dh rc : Int32} {rl rb re sy sb : Int64} {sg : Nat → A_G} {ex : List va_E}
variable {t b : Nat → Nat} {z n : Nat}
theorem ti8 : (8 : Int32).toInt = 8 := by decide
theorem ti900 : (900 : Int32).toInt = 900 := by decide
theorem ti7 : (7 : Int32).toInt = 7 := by decide
theorem tim1 : (-1 : Int32).toInt = -1 := by decide
theorem lb8_nI (a : Nat) : lb8 (nI a) = a % 256 := by
  unfold lb8
  show (BitVec.ofNat 32 a).toNat % 256 = a % 256
  rw [BitVec.toNat_ofNat]
  omega
def wby (w : Int64) (i : Nat) : Nat := w.toBitVec.toNat / 256 ^ i % 256
theorem wby_lt (w : Int64) (i : Nat) : wby w i < 256 := Nat.mod_lt _ (by decide)
theorem lb8_w (w : Int64) {v : Int32} {i : Nat} (hv : v = nI i) (hi : i < 8) : lb8 (w.toUInt64 >>> (((8 : Int32) * v).toInt64.toUInt64 &&& Int64.toUInt64 63)).toInt64.toInt32 = wby w i := by
  obtain ⟨m, hm, rfl⟩ := wb_of w
  rw [hv, show (8 : Int32) * nI i = nI (8 * i) from pk_mul 8 i, wb_shr hm (by omega), lN_i, lb8_nI, Nat.pow_mul]
  unfold wby
  rw [wb_tn hm]
def apW (t : Nat → Nat) (z : Nat) (w : Int64) : Nat → Nat → Nat
  | 0 => t
  | k + 1 => upN (apW t z w k) (z + k) (wby w k)
theorem nI_ret {k lo hi : Nat} {x : Int32} (hx : x = nI k) (hk : k < 2 ^ 31) : x.toInt = (k : Int) := by rw [hx, nI_toInt hk]
set_option maxRecDepth 100000 in
set_option maxHeartbeats 4000000 in
theorem c_L_add_A (w : Int64) {x : Int32} (hx : ¬ (1 ≤ x.toInt ∧ x.toInt ≤ 8)) : Ct m_L_add 0 0 [.ref 0, .long w, .int x] (Ac fp le lp lb il tf (nI z) bf rf fr mp sc ifp ib ie pw dh rl rb re sy sb rc sg ex) (vm_is (some (.int (-2 : Int32))) (Ac fp le lp lb il tf (nI z) bf rf fr mp sc ifp ib ie pw dh rl rb re sy sb rc sg ex)) := by
  refine Ct.of ⟨by decide +kernel, rfl⟩ (Nat.le_of_ble_eq_true rfl) (lv := [some (.ref 0), some (.long w), none, some (.int x), none]) rfl ?_
  refine Run.blk (gs := [True, True]) (S' := ([some (.ref 0), some (.long w), none, some (.int x), none], [.int (1 : Int32), .int x], Ac fp le lp lb il tf (nI z) bf rf fr mp sc ifp ib ie pw dh rl rb re sy sb rc sg ex)) k_L_add_0 kc_L_add_0 rfl ⟨trivial, trivial, trivial⟩ ?_
  refine Run.br (tgt := 11) d_L_add_2 rfl (by decide) (fun c_1 => ?_) (fun c_1 => ?_)
  · refine Run.blk (gs := [True]) (S' := ([some (.ref 0), some (.long w), none, some (.int x), none], [.int (-2 : Int32)], Ac fp le lp lb il tf (nI z) bf rf fr mp sc ifp ib ie pw dh rl rb re sy sb rc sg ex)) k_L_add_11 kc_L_add_11 rfl ⟨trivial, trivial⟩ ?_
    exact Run.ret (r := some (.int (-2 : Int32))) ⟨d_L_add_13, _, rfl, rfl⟩ ⟨rfl, rfl⟩
  · refine Run.blk (gs := [True, True]) (S' := ([some (.ref 0), some (.long w), none, some (.int x), none], [.int (8 : Int32), .int x], Ac fp le lp lb il tf (nI z) bf rf fr mp sc ifp ib ie pw dh rl rb re sy sb rc sg ex)) k_L_add_5 kc_L_add_5 rfl ⟨trivial, trivial, trivial⟩ ?_
    refine Run.br (tgt := 14) d_L_add_8 rfl (by decide) (fun c_2 => ?_) (fun c_2 => ?_)
    · exfalso; simp only [← Int32.toInt_inj, Int32.lt_iff_toInt_lt, Int32.le_iff_toInt_le, t0, t1, t2, t4, t64, ti7, ti8, ti900, tim1] at *; omega
    · refine Run.blk (gs := [True]) (S' := ([some (.ref 0), some (.long w), none, some (.int x), none], [.int (-2 : Int32)], Ac fp le lp lb il tf (nI z) bf rf fr mp sc ifp ib ie pw dh rl rb re sy sb rc sg ex)) k_L_add_11 kc_L_add_11 rfl ⟨trivial, trivial⟩ ?_
      exact Run.ret (r := some (.int (-2 : Int32))) ⟨d_L_add_13, _, rfl, rfl⟩ ⟨rfl, rfl⟩
set_option maxRecDepth 100000 in
set_option maxHeartbeats 4000000 in
theorem c_L_add_B (w : Int64) {k : Nat} (hz : z ≤ 900) {x : Int32} (hx : x = nI k) (h1 : 1 ≤ k) (h2 : k ≤ 8) (h3 : 900 < z + k) : Ct m_L_add 0 0 [.ref 0, .long w, .int x] (Ac fp le lp lb il tf (nI z) bf rf fr mp sc ifp ib ie pw dh rl rb re sy sb rc sg ex) (vm_is (some (.int (-3 : Int32))) (Ac fp le lp lb il tf (nI z) bf rf fr mp sc ifp ib ie pw dh rl rb re sy sb rc sg ex)) := by
  subst hx
  refine Ct.of ⟨by decide +kernel, rfl⟩ (Nat.le_of_ble_eq_true rfl) (lv := [some (.ref 0), some (.long w), none, some (.int (nI k)), none]) rfl ?_
  refine Run.blk (gs := [True, True]) (S' := ([some (.ref 0), some (.long w), none, some (.int (nI k)), none], [.int (1 : Int32), .int (nI k)], Ac fp le lp lb il tf (nI z) bf rf fr mp sc ifp ib ie pw dh rl rb re sy sb rc sg ex)) k_L_add_0 kc_L_add_0 rfl ⟨trivial, trivial, trivial⟩ ?_
  refine Run.br (tgt := 11) d_L_add_2 rfl (by decide) (fun c_1 => ?_) (fun c_1 => ?_)
  · exfalso; simp only [← Int32.toInt_inj, Int32.lt_iff_toInt_lt, Int32.le_iff_toInt_le, t0, t1, t2, t4, t64, ti7, ti8, ti900, tim1, nI_toInt (show k < 2 ^ 31 by omega)] at *; omega
  · refine Run.blk (gs := [True, True]) (S' := ([some (.ref 0), some (.long w), none, some (.int (nI k)), none], [.int (8 : Int32), .int (nI k)], Ac fp le lp lb il tf (nI z) bf rf fr mp sc ifp ib ie pw dh rl rb re sy sb rc sg ex)) k_L_add_5 kc_L_add_5 rfl ⟨trivial, trivial, trivial⟩ ?_
    refine Run.br (tgt := 14) d_L_add_8 rfl (by decide) (fun c_2 => ?_) (fun c_2 => ?_)
    · refine Run.blk (gs := [True, True, True]) (S' := ([some (.ref 0), some (.long w), none, some (.int (nI k)), none], [.int (nI k), .ref 1], Ac fp le lp lb il tf (nI z) bf rf fr mp sc ifp ib ie pw dh rl rb re sy sb rc sg ex)) k_L_add_14 kc_L_add_14 rfl ⟨trivial, trivial, trivial, trivial⟩ ?_
      refine Run.callV (b := 1) (As := [.int (nI k)]) (rest := []) v_L_add_19 c_T_hasRoomFor rfl (Nat.le_of_ble_eq_true rfl) rfl rfl rfl rfl (fun r cs' hp => ?_)
      obtain ⟨rfl, rfl⟩ := hp
      show Run _ _ _ _ 22 ([some (.ref 0), some (.long w), none, some (.int (nI k)), none], [.int (if (nI k) ≤ 900 - nI z then 1 else 0)], Ac fp le lp lb il tf (nI z) bf rf fr mp sc ifp ib ie pw dh rl rb re sy sb rc sg ex) _
      refine Run.br (tgt := 28) d_L_add_22 rfl (by decide) (fun c_3 => ?_) (fun c_3 => ?_)
      · have c_3 := zi_t c_3
        exfalso; rw [nI_sub900 hz] at c_3; simp only [← Int32.toInt_inj, Int32.lt_iff_toInt_lt, Int32.le_iff_toInt_le, t0, t1, t2, t4, t64, ti7, ti8, ti900, tim1, nI_toInt (show k < 2 ^ 31 by omega), nI_toInt (show 900 - z < 2 ^ 31 by omega)] at *; omega
      · have c_3 := zi_f (Classical.not_not.mp c_3)
        refine Run.blk (gs := [True]) (S' := ([some (.ref 0), some (.long w), none, some (.int (nI k)), none], [.int (-3 : Int32)], Ac fp le lp lb il tf (nI z) bf rf fr mp sc ifp ib ie pw dh rl rb re sy sb rc sg ex)) k_L_add_25 kc_L_add_25 rfl ⟨trivial, trivial⟩ ?_
        exact Run.ret (r := some (.int (-3 : Int32))) ⟨d_L_add_27, _, rfl, rfl⟩ ⟨rfl, rfl⟩
    · exfalso; simp only [← Int32.toInt_inj, Int32.lt_iff_toInt_lt, Int32.le_iff_toInt_le, t0, t1, t2, t4, t64, ti7, ti8, ti900, tim1, nI_toInt (show k < 2 ^ 31 by omega)] at *; omega
set_option maxRecDepth 100000 in
set_option maxHeartbeats 4000000 in
theorem l_L_add {k : Nat} (w : Int64) (hk : k ≤ 8) (hzk : z + k ≤ 900) : ∀ (r i : Nat) (v : Int32) (tt : Nat → Nat) (zz : Nat), v = nI i → tt = apW t z w i → zz = z + i → i + r = k → Run m_L_add n 0 0 31 ([some (.ref 0), some (.long w), none, some (.int (nI k)), some (.int v)], [], Ac fp le lp lb il (sbf tt) (nI zz) bf rf fr mp sc ifp ib ie pw dh rl rb re sy sb rc sg ex) (vm_is (some (.int (nI (z + k)))) (Ac fp le lp lb il (sbf (apW t z w k)) (nI (z + k)) bf rf fr mp sc ifp ib ie pw dh rl rb re sy sb rc sg ex))
  | 0, i, v, tt, zz, hv, htt, hzz, h => by
    have hik : i = k := by omega
    refine Run.blk (gs := [True, True]) (S' := ([some (.ref 0), some (.long w), none, some (.int (nI k)), some (.int v)], [.int (nI k), .int v], Ac fp le lp lb il (sbf tt) (nI zz) bf rf fr mp sc ifp ib ie pw dh rl rb re sy sb rc sg ex)) k_L_add_31 kc_L_add_31 rfl ⟨trivial, trivial, trivial⟩ ?_
    refine Run.br (tgt := 58) d_L_add_34 rfl (by decide) (fun c_1 => ?_) (fun c_1 => ?_)
    · refine Run.blk (gs := [True, True]) (S' := ([some (.ref 0), some (.long w), none, some (.int (nI k)), some (.int v)], [.ref 1], Ac fp le lp lb il (sbf tt) (nI zz) bf rf fr mp sc ifp ib ie pw dh rl rb re sy sb rc sg ex)) k_L_add_58 kc_L_add_58 rfl ⟨trivial, trivial, trivial⟩ ?_
      refine Run.callV (b := 1) (As := []) (rest := []) v_L_add_62 c_T_size rfl (Nat.le_of_ble_eq_true rfl) rfl rfl rfl rfl (fun r cs' hp => ?_)
      obtain ⟨rfl, rfl⟩ := hp
      show Run _ _ _ _ 65 ([some (.ref 0), some (.long w), none, some (.int (nI k)), some (.int v)], [.int (nI zz)], Ac fp le lp lb il (sbf tt) (nI zz) bf rf fr mp sc ifp ib ie pw dh rl rb re sy sb rc sg ex) _
      exact Run.ret (r := some (.int (nI zz))) ⟨d_L_add_65, _, rfl, rfl⟩ ⟨by rw [hzz, hik], by rw [htt, hzz, hik]⟩
    · exact absurd (by rw [hv, hik]; exact Int32.le_refl _) c_1
  | r + 1, i, v, tt, zz, hv, htt, hzz, h => by
    refine Run.blk (gs := [True, True]) (S' := ([some (.ref 0), some (.long w), none, some (.int (nI k)), some (.int v)], [.int (nI k), .int v], Ac fp le lp lb il (sbf tt) (nI zz) bf rf fr mp sc ifp ib ie pw dh rl rb re sy sb rc sg ex)) k_L_add_31 kc_L_add_31 rfl ⟨trivial, trivial, trivial⟩ ?_
    refine Run.br (tgt := 58) d_L_add_34 rfl (by decide) (fun c_1 => ?_) (fun c_1 => ?_)
    · exact absurd c_1 (by rw [hv]; exact nI_ge (show i < k by omega) (by omega))
    · refine Run.blk (gs := [True, True, True, True, True, True, True, True]) (S' := ([some (.ref 0), some (.long w), none, some (.int (nI k)), some (.int v)], [.int (((w.toUInt64 >>> (((8 : Int32) * v).toInt64.toUInt64 &&& Int64.toUInt64 63)).toInt64).toInt32), .ref 1], Ac fp le lp lb il (sbf tt) (nI zz) bf rf fr mp sc ifp ib ie pw dh rl rb re sy sb rc sg ex)) k_L_add_37 kc_L_add_37 rfl ⟨trivial, trivial, trivial, trivial, trivial, trivial, trivial, trivial, trivial⟩ ?_
      refine Run.callV (b := 1) (As := [.int (((w.toUInt64 >>> (((8 : Int32) * v).toInt64.toUInt64 &&& Int64.toUInt64 63)).toInt64).toInt32)]) (rest := []) v_L_add_49 (c_T_append (by omega)) rfl (Nat.le_of_ble_eq_true rfl) rfl rfl rfl rfl (fun r cs' hp => ?_)
      obtain ⟨rfl, rfl⟩ := hp
      show Run _ _ _ _ 52 ([some (.ref 0), some (.long w), none, some (.int (nI k)), some (.int v)], [], Ac fp le lp lb il (sbf (upN tt zz (lb8 (((w.toUInt64 >>> (((8 : Int32) * v).toInt64.toUInt64 &&& Int64.toUInt64 63)).toInt64).toInt32)))) (nI (zz + 1)) bf rf fr mp sc ifp ib ie pw dh rl rb re sy sb rc sg ex) _
      refine Run.blk (gs := [True]) (S' := ([some (.ref 0), some (.long w), none, some (.int (nI k)), some (.int (v + (1 : Int32)))], [], Ac fp le lp lb il (sbf (upN tt zz (lb8 (((w.toUInt64 >>> (((8 : Int32) * v).toInt64.toUInt64 &&& Int64.toUInt64 63)).toInt64).toInt32)))) (nI (zz + 1)) bf rf fr mp sc ifp ib ie pw dh rl rb re sy sb rc sg ex)) k_L_add_52 kc_L_add_52 rfl ⟨trivial, trivial⟩ ?_
      refine Run.goto (tgt := 31) d_L_add_55 (by decide) ?_
      exact l_L_add w hk hzk r (i + 1) _ _ _ (by rw [hv, nI_1]) (by rw [htt, lb8_w w hv (by omega), hzz]; rfl) (by omega) (by omega)
set_option maxRecDepth 100000 in
set_option maxHeartbeats 4000000 in
theorem c_L_add_C (w : Int64) {k : Nat} {x : Int32} (hx : x = nI k) (h1 : 1 ≤ k) (h2 : k ≤ 8) (h3 : z + k ≤ 900) : Ct m_L_add 0 0 [.ref 0, .long w, .int x] (Ac fp le lp lb il (sbf t) (nI z) bf rf fr mp sc ifp ib ie pw dh rl rb re sy sb rc sg ex) (vm_is (some (.int (nI (z + k)))) (Ac fp le lp lb il (sbf (apW t z w k)) (nI (z + k)) bf rf fr mp sc ifp ib ie pw dh rl rb re sy sb rc sg ex)) := by
  subst hx
  refine Ct.of ⟨by decide +kernel, rfl⟩ (Nat.le_of_ble_eq_true rfl) (lv := [some (.ref 0), some (.long w), none, some (.int (nI k)), none]) rfl ?_
  refine Run.blk (gs := [True, True]) (S' := ([some (.ref 0), some (.long w), none, some (.int (nI k)), none], [.int (1 : Int32), .int (nI k)], Ac fp le lp lb il (sbf t) (nI z) bf rf fr mp sc ifp ib ie pw dh rl rb re sy sb rc sg ex)) k_L_add_0 kc_L_add_0 rfl ⟨trivial, trivial, trivial⟩ ?_
  refine Run.br (tgt := 11) d_L_add_2 rfl (by decide) (fun c_1 => ?_) (fun c_1 => ?_)
  · exfalso; simp only [← Int32.toInt_inj, Int32.lt_iff_toInt_lt, Int32.le_iff_toInt_le, t0, t1, t2, t4, t64, ti7, ti8, ti900, tim1, nI_toInt (show k < 2 ^ 31 by omega)] at *; omega
  · refine Run.blk (gs := [True, True]) (S' := ([some (.ref 0), some (.long w), none, some (.int (nI k)), none], [.int (8 : Int32), .int (nI k)], Ac fp le lp lb il (sbf t) (nI z) bf rf fr mp sc ifp ib ie pw dh rl rb re sy sb rc sg ex)) k_L_add_5 kc_L_add_5 rfl ⟨trivial, trivial, trivial⟩ ?_
    refine Run.br (tgt := 14) d_L_add_8 rfl (by decide) (fun c_2 => ?_) (fun c_2 => ?_)
    · refine Run.blk (gs := [True, True, True]) (S' := ([some (.ref 0), some (.long w), none, some (.int (nI k)), none], [.int (nI k), .ref 1], Ac fp le lp lb il (sbf t) (nI z) bf rf fr mp sc ifp ib ie pw dh rl rb re sy sb rc sg ex)) k_L_add_14 kc_L_add_14 rfl ⟨trivial, trivial, trivial, trivial⟩ ?_
      refine Run.callV (b := 1) (As := [.int (nI k)]) (rest := []) v_L_add_19 c_T_hasRoomFor rfl (Nat.le_of_ble_eq_true rfl) rfl rfl rfl rfl (fun r cs' hp => ?_)
      obtain ⟨rfl, rfl⟩ := hp
      show Run _ _ _ _ 22 ([some (.ref 0), some (.long w), none, some (.int (nI k)), none], [.int (if (nI k) ≤ 900 - nI z then 1 else 0)], Ac fp le lp lb il (sbf t) (nI z) bf rf fr mp sc ifp ib ie pw dh rl rb re sy sb rc sg ex) _
      refine Run.br (tgt := 28) d_L_add_22 rfl (by decide) (fun c_3 => ?_) (fun c_3 => ?_)
      · have c_3 := zi_t c_3
        refine Run.blk (gs := [True, True]) (S' := ([some (.ref 0), some (.long w), none, some (.int (nI k)), some (.int (0 : Int32))], [], Ac fp le lp lb il (sbf t) (nI z) bf rf fr mp sc ifp ib ie pw dh rl rb re sy sb rc sg ex)) k_L_add_28 kc_L_add_28 rfl ⟨trivial, trivial, trivial⟩ ?_
        exact l_L_add w h2 h3 k 0 _ _ _ rfl rfl rfl (by omega)
      · have c_3 := zi_f (Classical.not_not.mp c_3)
        exfalso; rw [nI_sub900 (by omega)] at c_3; simp only [← Int32.toInt_inj, Int32.lt_iff_toInt_lt, Int32.le_iff_toInt_le, t0, t1, t2, t4, t64, ti7, ti8, ti900, tim1, nI_toInt (show k < 2 ^ 31 by omega), nI_toInt (show 900 - z < 2 ^ 31 by omega)] at *; omega
    · exfalso; simp only [← Int32.toInt_inj, Int32.lt_iff_toInt_lt, Int32.le_iff_toInt_le, t0, t1, t2, t4, t64, ti7, ti8, ti900, tim1, nI_toInt (show k < 2 ^ 31 by omega)] at *; omega
set_option maxRecDepth 100000 in
set_option maxHeartbeats 4000000 in
theorem c_L_zeros_A {x : Int32} (hx : ¬ (1 ≤ x.toInt ∧ x.toInt ≤ 900)) : Ct m_L_zeros 0 0 [.ref 0, .int x] (Ac fp le lp lb il tf (nI z) bf rf fr mp sc ifp ib ie pw dh rl rb re sy sb rc sg ex) (vm_is (some (.int (-2 : Int32))) (Ac fp le lp lb il tf (nI z) bf rf fr mp sc ifp ib ie pw dh rl rb re sy sb rc sg ex)) := by
  refine Ct.of ⟨by decide +kernel, rfl⟩ (Nat.le_of_ble_eq_true rfl) (lv := [some (.ref 0), some (.int x), none]) rfl ?_
  refine Run.blk (gs := [True, True]) (S' := ([some (.ref 0), some (.int x), none], [.int (1 : Int32), .int x], Ac fp le lp lb il tf (nI z) bf rf fr mp sc ifp ib ie pw dh rl rb re sy sb rc sg ex)) k_L_zeros_0 kc_L_zeros_0 rfl ⟨trivial, trivial, trivial⟩ ?_
  refine Run.br (tgt := 12) d_L_zeros_2 rfl (by decide) (fun c_1 => ?_) (fun c_1 => ?_)
  · refine Run.blk (gs := [True]) (S' := ([some (.ref 0), some (.int x), none], [.int (-2 : Int32)], Ac fp le lp lb il tf (nI z) bf rf fr mp sc ifp ib ie pw dh rl rb re sy sb rc sg ex)) k_L_zeros_12 kc_L_zeros_12 rfl ⟨trivial, trivial⟩ ?_
    exact Run.ret (r := some (.int (-2 : Int32))) ⟨d_L_zeros_14, _, rfl, rfl⟩ ⟨rfl, rfl⟩
  · refine Run.blk (gs := [True, True]) (S' := ([some (.ref 0), some (.int x), none], [.int (900 : Int32), .int x], Ac fp le lp lb il tf (nI z) bf rf fr mp sc ifp ib ie pw dh rl rb re sy sb rc sg ex)) k_L_zeros_5 kc_L_zeros_5 rfl ⟨trivial, trivial, trivial⟩ ?_
    refine Run.br (tgt := 15) d_L_zeros_9 rfl (by decide) (fun c_2 => ?_) (fun c_2 => ?_)
    · exfalso; simp only [← Int32.toInt_inj, Int32.lt_iff_toInt_lt, Int32.le_iff_toInt_le, t0, t1, t2, t4, t64, ti7, ti8, ti900, tim1] at *; omega
    · refine Run.blk (gs := [True]) (S' := ([some (.ref 0), some (.int x), none], [.int (-2 : Int32)], Ac fp le lp lb il tf (nI z) bf rf fr mp sc ifp ib ie pw dh rl rb re sy sb rc sg ex)) k_L_zeros_12 kc_L_zeros_12 rfl ⟨trivial, trivial⟩ ?_
      exact Run.ret (r := some (.int (-2 : Int32))) ⟨d_L_zeros_14, _, rfl, rfl⟩ ⟨rfl, rfl⟩
set_option maxRecDepth 100000 in
set_option maxHeartbeats 4000000 in
theorem c_L_zeros_B {k : Nat} (hz : z ≤ 900) {x : Int32} (hx : x = nI k) (h1 : 1 ≤ k) (h2 : k ≤ 900) (h3 : 900 < z + k) : Ct m_L_zeros 0 0 [.ref 0, .int x] (Ac fp le lp lb il tf (nI z) bf rf fr mp sc ifp ib ie pw dh rl rb re sy sb rc sg ex) (vm_is (some (.int (-3 : Int32))) (Ac fp le lp lb il tf (nI z) bf rf fr mp sc ifp ib ie pw dh rl rb re sy sb rc sg ex)) := by
  subst hx
  refine Ct.of ⟨by decide +kernel, rfl⟩ (Nat.le_of_ble_eq_true rfl) (lv := [some (.ref 0), some (.int (nI k)), none]) rfl ?_
  refine Run.blk (gs := [True, True]) (S' := ([some (.ref 0), some (.int (nI k)), none], [.int (1 : Int32), .int (nI k)], Ac fp le lp lb il tf (nI z) bf rf fr mp sc ifp ib ie pw dh rl rb re sy sb rc sg ex)) k_L_zeros_0 kc_L_zeros_0 rfl ⟨trivial, trivial, trivial⟩ ?_
  refine Run.br (tgt := 12) d_L_zeros_2 rfl (by decide) (fun c_1 => ?_) (fun c_1 => ?_)
  · exfalso; simp only [← Int32.toInt_inj, Int32.lt_iff_toInt_lt, Int32.le_iff_toInt_le, t0, t1, t2, t4, t64, ti7, ti8, ti900, tim1, nI_toInt (show k < 2 ^ 31 by omega)] at *; omega
  · refine Run.blk (gs := [True, True]) (S' := ([some (.ref 0), some (.int (nI k)), none], [.int (900 : Int32), .int (nI k)], Ac fp le lp lb il tf (nI z) bf rf fr mp sc ifp ib ie pw dh rl rb re sy sb rc sg ex)) k_L_zeros_5 kc_L_zeros_5 rfl ⟨trivial, trivial, trivial⟩ ?_
    refine Run.br (tgt := 15) d_L_zeros_9 rfl (by decide) (fun c_2 => ?_) (fun c_2 => ?_)
    · refine Run.blk (gs := [True, True, True]) (S' := ([some (.ref 0), some (.int (nI k)), none], [.int (nI k), .ref 1], Ac fp le lp lb il tf (nI z) bf rf fr mp sc ifp ib ie pw dh rl rb re sy sb rc sg ex)) k_L_zeros_15 kc_L_zeros_15 rfl ⟨trivial, trivial, trivial, trivial⟩ ?_
      refine Run.callV (b := 1) (As := [.int (nI k)]) (rest := []) v_L_zeros_20 c_T_hasRoomFor rfl (Nat.le_of_ble_eq_true rfl) rfl rfl rfl rfl (fun r cs' hp => ?_)
      obtain ⟨rfl, rfl⟩ := hp
      show Run _ _ _ _ 23 ([some (.ref 0), some (.int (nI k)), none], [.int (if (nI k) ≤ 900 - nI z then 1 else 0)], Ac fp le lp lb il tf (nI z) bf rf fr mp sc ifp ib ie pw dh rl rb re sy sb rc sg ex) _
      refine Run.br (tgt := 29) d_L_zeros_23 rfl (by decide) (fun c_3 => ?_) (fun c_3 => ?_)
      · have c_3 := zi_t c_3
        exfalso; rw [nI_sub900 hz] at c_3; simp only [← Int32.toInt_inj, Int32.lt_iff_toInt_lt, Int32.le_iff_toInt_le, t0, t1, t2, t4, t64, ti7, ti8, ti900, tim1, nI_toInt (show k < 2 ^ 31 by omega), nI_toInt (show 900 - z < 2 ^ 31 by omega)] at *; omega
      · have c_3 := zi_f (Classical.not_not.mp c_3)
        refine Run.blk (gs := [True]) (S' := ([some (.ref 0), some (.int (nI k)), none], [.int (-3 : Int32)], Ac fp le lp lb il tf (nI z) bf rf fr mp sc ifp ib ie pw dh rl rb re sy sb rc sg ex)) k_L_zeros_26 kc_L_zeros_26 rfl ⟨trivial, trivial⟩ ?_
        exact Run.ret (r := some (.int (-3 : Int32))) ⟨d_L_zeros_28, _, rfl, rfl⟩ ⟨rfl, rfl⟩
    · exfalso; simp only [← Int32.toInt_inj, Int32.lt_iff_toInt_lt, Int32.le_iff_toInt_le, t0, t1, t2, t4, t64, ti7, ti8, ti900, tim1, nI_toInt (show k < 2 ^ 31 by omega)] at *; omega
set_option maxRecDepth 100000 in
set_option maxHeartbeats 4000000 in
theorem l_L_zeros {k : Nat} (hk : k ≤ 900) (hzk : z + k ≤ 900) : ∀ (r i : Nat) (v : Int32) (tt : Nat → Nat) (zz : Nat), v = nI i → tt = fillN t z i 0 → zz = z + i → i + r = k → Run m_L_zeros n 0 0 31 ([some (.ref 0), some (.int (nI k)), some (.int v)], [], Ac fp le lp lb il (sbf tt) (nI zz) bf rf fr mp sc ifp ib ie pw dh rl rb re sy sb rc sg ex) (vm_is (some (.int (nI (z + k)))) (Ac fp le lp lb il (sbf (fillN t z k 0)) (nI (z + k)) bf rf fr mp sc ifp ib ie pw dh rl rb re sy sb rc sg ex))
  | 0, i, v, tt, zz, hv, htt, hzz, h => by
    have hik : i = k := by omega
    refine Run.blk (gs := [True, True]) (S' := ([some (.ref 0), some (.int (nI k)), some (.int v)], [.int (nI k), .int v], Ac fp le lp lb il (sbf tt) (nI zz) bf rf fr mp sc ifp ib ie pw dh rl rb re sy sb rc sg ex)) k_L_zeros_31 kc_L_zeros_31 rfl ⟨trivial, trivial, trivial⟩ ?_
    refine Run.br (tgt := 50) d_L_zeros_33 rfl (by decide) (fun c_1 => ?_) (fun c_1 => ?_)
    · refine Run.blk (gs := [True, True]) (S' := ([some (.ref 0), some (.int (nI k)), some (.int v)], [.ref 1], Ac fp le lp lb il (sbf tt) (nI zz) bf rf fr mp sc ifp ib ie pw dh rl rb re sy sb rc sg ex)) k_L_zeros_50 kc_L_zeros_50 rfl ⟨trivial, trivial, trivial⟩ ?_
      refine Run.callV (b := 1) (As := []) (rest := []) v_L_zeros_54 c_T_size rfl (Nat.le_of_ble_eq_true rfl) rfl rfl rfl rfl (fun r cs' hp => ?_)
      obtain ⟨rfl, rfl⟩ := hp
      show Run _ _ _ _ 57 ([some (.ref 0), some (.int (nI k)), some (.int v)], [.int (nI zz)], Ac fp le lp lb il (sbf tt) (nI zz) bf rf fr mp sc ifp ib ie pw dh rl rb re sy sb rc sg ex) _
      exact Run.ret (r := some (.int (nI zz))) ⟨d_L_zeros_57, _, rfl, rfl⟩ ⟨by rw [hzz, hik], by rw [htt, hzz, hik]⟩
    · exact absurd (by rw [hv, hik]; exact Int32.le_refl _) c_1
  | r + 1, i, v, tt, zz, hv, htt, hzz, h => by
    refine Run.blk (gs := [True, True]) (S' := ([some (.ref 0), some (.int (nI k)), some (.int v)], [.int (nI k), .int v], Ac fp le lp lb il (sbf tt) (nI zz) bf rf fr mp sc ifp ib ie pw dh rl rb re sy sb rc sg ex)) k_L_zeros_31 kc_L_zeros_31 rfl ⟨trivial, trivial, trivial⟩ ?_
    refine Run.br (tgt := 50) d_L_zeros_33 rfl (by decide) (fun c_1 => ?_) (fun c_1 => ?_)
    · exact absurd c_1 (by rw [hv]; exact nI_ge (show i < k by omega) (by omega))
    · refine Run.blk (gs := [True, True, True]) (S' := ([some (.ref 0), some (.int (nI k)), some (.int v)], [.int (0 : Int32), .ref 1], Ac fp le lp lb il (sbf tt) (nI zz) bf rf fr mp sc ifp ib ie pw dh rl rb re sy sb rc sg ex)) k_L_zeros_36 kc_L_zeros_36 rfl ⟨trivial, trivial, trivial, trivial⟩ ?_
      refine Run.callV (b := 1) (As := [.int (0 : Int32)]) (rest := []) v_L_zeros_41 (c_T_append (by omega)) rfl (Nat.le_of_ble_eq_true rfl) rfl rfl rfl rfl (fun r cs' hp => ?_)
      obtain ⟨rfl, rfl⟩ := hp
      show Run _ _ _ _ 44 ([some (.ref 0), some (.int (nI k)), some (.int v)], [], Ac fp le lp lb il (sbf (upN tt zz (lb8 0))) (nI (zz + 1)) bf rf fr mp sc ifp ib ie pw dh rl rb re sy sb rc sg ex) _
      refine Run.blk (gs := [True]) (S' := ([some (.ref 0), some (.int (nI k)), some (.int (v + (1 : Int32)))], [], Ac fp le lp lb il (sbf (upN tt zz (lb8 0))) (nI (zz + 1)) bf rf fr mp sc ifp ib ie pw dh rl rb re sy sb rc sg ex)) k_L_zeros_44 kc_L_zeros_44 rfl ⟨trivial, trivial⟩ ?_
      refine Run.goto (tgt := 31) d_L_zeros_47 (by decide) ?_
      exact l_L_zeros hk hzk r (i + 1) _ _ _ (by rw [hv, nI_1]) (by rw [htt, hzz, lb8_0, fillN_s]) (by omega) (by omega)
set_option maxRecDepth 100000 in
set_option maxHeartbeats 4000000 in
theorem c_L_zeros_C {k : Nat} {x : Int32} (hx : x = nI k) (h1 : 1 ≤ k) (h2 : k ≤ 900) (h3 : z + k ≤ 900) : Ct m_L_zeros 0 0 [.ref 0, .int x] (Ac fp le lp lb il (sbf t) (nI z) bf rf fr mp sc ifp ib ie pw dh rl rb re sy sb rc sg ex) (vm_is (some (.int (nI (z + k)))) (Ac fp le lp lb il (sbf (fillN t z k 0)) (nI (z + k)) bf rf fr mp sc ifp ib ie pw dh rl rb re sy sb rc sg ex)) := by
  subst hx
  refine Ct.of ⟨by decide +kernel, rfl⟩ (Nat.le_of_ble_eq_true rfl) (lv := [some (.ref 0), some (.int (nI k)), none]) rfl ?_
  refine Run.blk (gs := [True, True]) (S' := ([some (.ref 0), some (.int (nI k)), none], [.int (1 : Int32), .int (nI k)], Ac fp le lp lb il (sbf t) (nI z) bf rf fr mp sc ifp ib ie pw dh rl rb re sy sb rc sg ex)) k_L_zeros_0 kc_L_zeros_0 rfl ⟨trivial, trivial, trivial⟩ ?_
  refine Run.br (tgt := 12) d_L_zeros_2 rfl (by decide) (fun c_1 => ?_) (fun c_1 => ?_)
  · exfalso; simp only [← Int32.toInt_inj, Int32.lt_iff_toInt_lt, Int32.le_iff_toInt_le, t0, t1, t2, t4, t64, ti7, ti8, ti900, tim1, nI_toInt (show k < 2 ^ 31 by omega)] at *; omega
  · refine Run.blk (gs := [True, True]) (S' := ([some (.ref 0), some (.int (nI k)), none], [.int (900 : Int32), .int (nI k)], Ac fp le lp lb il (sbf t) (nI z) bf rf fr mp sc ifp ib ie pw dh rl rb re sy sb rc sg ex)) k_L_zeros_5 kc_L_zeros_5 rfl ⟨trivial, trivial, trivial⟩ ?_
    refine Run.br (tgt := 15) d_L_zeros_9 rfl (by decide) (fun c_2 => ?_) (fun c_2 => ?_)
    · refine Run.blk (gs := [True, True, True]) (S' := ([some (.ref 0), some (.int (nI k)), none], [.int (nI k), .ref 1], Ac fp le lp lb il (sbf t) (nI z) bf rf fr mp sc ifp ib ie pw dh rl rb re sy sb rc sg ex)) k_L_zeros_15 kc_L_zeros_15 rfl ⟨trivial, trivial, trivial, trivial⟩ ?_
      refine Run.callV (b := 1) (As := [.int (nI k)]) (rest := []) v_L_zeros_20 c_T_hasRoomFor rfl (Nat.le_of_ble_eq_true rfl) rfl rfl rfl rfl (fun r cs' hp => ?_)
      obtain ⟨rfl, rfl⟩ := hp
      show Run _ _ _ _ 23 ([some (.ref 0), some (.int (nI k)), none], [.int (if (nI k) ≤ 900 - nI z then 1 else 0)], Ac fp le lp lb il (sbf t) (nI z) bf rf fr mp sc ifp ib ie pw dh rl rb re sy sb rc sg ex) _
      refine Run.br (tgt := 29) d_L_zeros_23 rfl (by decide) (fun c_3 => ?_) (fun c_3 => ?_)
      · have c_3 := zi_t c_3
        refine Run.blk (gs := [True, True]) (S' := ([some (.ref 0), some (.int (nI k)), some (.int (0 : Int32))], [], Ac fp le lp lb il (sbf t) (nI z) bf rf fr mp sc ifp ib ie pw dh rl rb re sy sb rc sg ex)) k_L_zeros_29 kc_L_zeros_29 rfl ⟨trivial, trivial, trivial⟩ ?_
        exact l_L_zeros h2 h3 k 0 _ _ _ rfl (fillN_0 _ _ _).symm rfl (by omega)
      · have c_3 := zi_f (Classical.not_not.mp c_3)
        exfalso; rw [nI_sub900 (by omega)] at c_3; simp only [← Int32.toInt_inj, Int32.lt_iff_toInt_lt, Int32.le_iff_toInt_le, t0, t1, t2, t4, t64, ti7, ti8, ti900, tim1, nI_toInt (show k < 2 ^ 31 by omega), nI_toInt (show 900 - z < 2 ^ 31 by omega)] at *; omega
    · exfalso; simp only [← Int32.toInt_inj, Int32.lt_iff_toInt_lt, Int32.le_iff_toInt_le, t0, t1, t2, t4, t64, ti7, ti8, ti900, tim1, nI_toInt (show k < 2 ^ 31 by omega)] at *; omega
theorem tl1 : (1 : Int64).toInt = 1 := by decide
set_option maxRecDepth 100000 in
set_option maxHeartbeats 4000000 in
theorem c_L_peek_A (hz : z ≤ 900) {x : Int32} (hx : ¬ (0 ≤ x.toInt ∧ x.toInt < (z : Int))) : Ct m_L_peek 0 0 [.ref 0, .int x] (Ac fp le lp lb il tf (nI z) bf rf fr mp sc ifp ib ie pw dh rl rb re sy sb rc sg ex) (vm_is (some (.int (-1 : Int32))) (Ac fp le lp lb il tf (nI z) bf rf fr mp sc ifp ib ie pw dh rl rb re sy sb rc sg ex)) := by
  refine Ct.of ⟨by decide +kernel, rfl⟩ (Nat.le_of_ble_eq_true rfl) (lv := [some (.ref 0), some (.int x)]) rfl ?_
  refine Run.blk (gs := [True, True, True, True, True]) (S' := ([some (.ref 0), some (.int x)], [.long (1 : Int64), .long x.toInt64, .ref 1], Ac fp le lp lb il tf (nI z) bf rf fr mp sc ifp ib ie pw dh rl rb re sy sb rc sg ex)) k_L_peek_0 kc_L_peek_0 rfl ⟨trivial, trivial, trivial, trivial, trivial, trivial⟩ ?_
  refine Run.callV (b := 1) (As := [.long x.toInt64, .long (1 : Int64)]) (rest := []) v_L_peek_7 (c_T_has hz (a := x.toInt64) (b := (1 : Int64)) (by rw [i32_64]; have := i32_r x; omega) (by rw [i32_64]; have := i32_r x; omega) (by decide) (by decide)) rfl (Nat.le_of_ble_eq_true rfl) rfl rfl rfl rfl (fun r cs' hp => ?_)
  obtain ⟨rfl, rfl⟩ := hp
  show Run _ _ _ _ 10 ([some (.ref 0), some (.int x)], [.int (if 0 ≤ x.toInt64.toInt ∧ 0 ≤ (1 : Int64).toInt ∧ x.toInt64.toInt + (1 : Int64).toInt ≤ (z : Int) then 1 else 0)], Ac fp le lp lb il tf (nI z) bf rf fr mp sc ifp ib ie pw dh rl rb re sy sb rc sg ex) _
  refine Run.br (tgt := 24) d_L_peek_10 rfl (by decide) (fun c_1 => ?_) (fun c_1 => ?_)
  · have c_1 := zi_f c_1
    refine Run.blk (gs := [True]) (S' := ([some (.ref 0), some (.int x)], [.int (-1 : Int32)], Ac fp le lp lb il tf (nI z) bf rf fr mp sc ifp ib ie pw dh rl rb re sy sb rc sg ex)) k_L_peek_24 kc_L_peek_24 rfl ⟨trivial, trivial⟩ ?_
    exact Run.ret (r := some (.int (-1 : Int32))) ⟨d_L_peek_25, _, rfl, rfl⟩ ⟨rfl, rfl⟩
  · have c_1 := zi_t c_1
    exfalso; simp only [i32_64, tl1] at *; omega
set_option maxRecDepth 100000 in
set_option maxHeartbeats 4000000 in
theorem c_L_peek_B (ht : ∀ j, t j < 256) (hz : z ≤ 900) {p : Nat} {x : Int32} (hx : x = nI p) (hp : p < z) : Ct m_L_peek 0 0 [.ref 0, .int x] (Ac fp le lp lb il (sbf t) (nI z) bf rf fr mp sc ifp ib ie pw dh rl rb re sy sb rc sg ex) (vm_is (some (.int (nI (t p)))) (Ac fp le lp lb il (sbf t) (nI z) bf rf fr mp sc ifp ib ie pw dh rl rb re sy sb rc sg ex)) := by
  subst hx
  refine Ct.of ⟨by decide +kernel, rfl⟩ (Nat.le_of_ble_eq_true rfl) (lv := [some (.ref 0), some (.int (nI p))]) rfl ?_
  refine Run.blk (gs := [True, True, True, True, True]) (S' := ([some (.ref 0), some (.int (nI p))], [.long (1 : Int64), .long ((nI p).toInt64), .ref 1], Ac fp le lp lb il (sbf t) (nI z) bf rf fr mp sc ifp ib ie pw dh rl rb re sy sb rc sg ex)) k_L_peek_0 kc_L_peek_0 rfl ⟨trivial, trivial, trivial, trivial, trivial, trivial⟩ ?_
  refine Run.callV (b := 1) (As := [.long ((nI p).toInt64), .long (1 : Int64)]) (rest := []) v_L_peek_7 (c_T_has hz (a := ((nI p).toInt64)) (b := (1 : Int64)) (by rw [i32_64]; have := i32_r (nI p); omega) (by rw [i32_64]; have := i32_r (nI p); omega) (by decide) (by decide)) rfl (Nat.le_of_ble_eq_true rfl) rfl rfl rfl rfl (fun r cs' hp => ?_)
  obtain ⟨rfl, rfl⟩ := hp
  show Run _ _ _ _ 10 ([some (.ref 0), some (.int (nI p))], [.int (if 0 ≤ ((nI p).toInt64).toInt ∧ 0 ≤ (1 : Int64).toInt ∧ ((nI p).toInt64).toInt + (1 : Int64).toInt ≤ (z : Int) then 1 else 0)], Ac fp le lp lb il (sbf t) (nI z) bf rf fr mp sc ifp ib ie pw dh rl rb re sy sb rc sg ex) _
  refine Run.br (tgt := 24) d_L_peek_10 rfl (by decide) (fun c_1 => ?_) (fun c_1 => ?_)
  · have c_1 := zi_f c_1
    exfalso; simp only [i32_64, tl1, nI_toInt (show p < 2 ^ 31 by omega)] at *; omega
  · have c_1 := zi_t c_1
    refine Run.blk (gs := [True, True, True]) (S' := ([some (.ref 0), some (.int (nI p))], [.int (nI p), .ref 1], Ac fp le lp lb il (sbf t) (nI z) bf rf fr mp sc ifp ib ie pw dh rl rb re sy sb rc sg ex)) k_L_peek_13 kc_L_peek_13 rfl ⟨trivial, trivial, trivial, trivial⟩ ?_
    refine Run.callV (b := 1) (As := [.int (nI p)]) (rest := []) v_L_peek_18 (c_T_byteAt ht hz (p := p) rfl (by omega)) rfl (Nat.le_of_ble_eq_true rfl) rfl rfl rfl rfl (fun r cs' hp => ?_)
    obtain ⟨rfl, rfl⟩ := hp
    show Run _ _ _ _ 21 ([some (.ref 0), some (.int (nI p))], [.int (nI (tb t z p))], Ac fp le lp lb il (sbf t) (nI z) bf rf fr mp sc ifp ib ie pw dh rl rb re sy sb rc sg ex) _
    refine Run.goto (tgt := 25) d_L_peek_21 (by decide) ?_
    exact Run.ret (r := some (.int (nI (tb t z p)))) ⟨d_L_peek_25, _, rfl, rfl⟩ ⟨by rw [tb, if_pos hp], rfl⟩
set_option maxRecDepth 100000 in
set_option maxHeartbeats 4000000 in
theorem c_L_cut_A (hz : z ≤ 900) {x : Int32} (hx : ¬ (0 ≤ x.toInt ∧ x.toInt ≤ (z : Int))) : Ct m_L_cut 0 0 [.ref 0, .int x] (Ac fp le lp lb il tf (nI z) bf rf fr mp sc ifp ib ie pw dh rl rb re sy sb rc sg ex) (vm_is (some (.int (-2 : Int32))) (Ac fp le lp lb il tf (nI z) bf rf fr mp sc ifp ib ie pw dh rl rb re sy sb rc sg ex)) := by
  refine Ct.of ⟨by decide +kernel, rfl⟩ (Nat.le_of_ble_eq_true rfl) (lv := [some (.ref 0), some (.int x), none]) rfl ?_
  refine Run.blk (gs := [True, True]) (S' := ([some (.ref 0), some (.int x), none], [.ref 1], Ac fp le lp lb il tf (nI z) bf rf fr mp sc ifp ib ie pw dh rl rb re sy sb rc sg ex)) k_L_cut_0 kc_L_cut_0 rfl ⟨trivial, trivial, trivial⟩ ?_
  refine Run.callV (b := 1) (As := []) (rest := []) v_L_cut_4 c_T_size rfl (Nat.le_of_ble_eq_true rfl) rfl rfl rfl rfl (fun r cs' hp => ?_)
  obtain ⟨rfl, rfl⟩ := hp
  show Run _ _ _ _ 7 ([some (.ref 0), some (.int x), none], [.int (nI z)], Ac fp le lp lb il tf (nI z) bf rf fr mp sc ifp ib ie pw dh rl rb re sy sb rc sg ex) _
  refine Run.blk (gs := [True, True]) (S' := ([some (.ref 0), some (.int x), some (.int (nI z))], [.int x], Ac fp le lp lb il tf (nI z) bf rf fr mp sc ifp ib ie pw dh rl rb re sy sb rc sg ex)) k_L_cut_7 kc_L_cut_7 rfl ⟨trivial, trivial, trivial⟩ ?_
  refine Run.br (tgt := 17) d_L_cut_9 rfl (by decide) (fun c_1 => ?_) (fun c_1 => ?_)
  · refine Run.blk (gs := [True]) (S' := ([some (.ref 0), some (.int x), some (.int (nI z))], [.int (-2 : Int32)], Ac fp le lp lb il tf (nI z) bf rf fr mp sc ifp ib ie pw dh rl rb re sy sb rc sg ex)) k_L_cut_17 kc_L_cut_17 rfl ⟨trivial, trivial⟩ ?_
    exact Run.ret (r := some (.int (-2 : Int32))) ⟨d_L_cut_19, _, rfl, rfl⟩ ⟨rfl, rfl⟩
  · refine Run.blk (gs := [True, True]) (S' := ([some (.ref 0), some (.int x), some (.int (nI z))], [.int (nI z), .int x], Ac fp le lp lb il tf (nI z) bf rf fr mp sc ifp ib ie pw dh rl rb re sy sb rc sg ex)) k_L_cut_12 kc_L_cut_12 rfl ⟨trivial, trivial, trivial⟩ ?_
    refine Run.br (tgt := 20) d_L_cut_14 rfl (by decide) (fun c_2 => ?_) (fun c_2 => ?_)
    · exfalso; simp only [← Int32.toInt_inj, Int32.lt_iff_toInt_lt, Int32.le_iff_toInt_le, t0, t1, t2, t4, t64, ti7, ti8, ti900, tim1, nI_toInt (show z < 2 ^ 31 by omega)] at *; omega
    · refine Run.blk (gs := [True]) (S' := ([some (.ref 0), some (.int x), some (.int (nI z))], [.int (-2 : Int32)], Ac fp le lp lb il tf (nI z) bf rf fr mp sc ifp ib ie pw dh rl rb re sy sb rc sg ex)) k_L_cut_17 kc_L_cut_17 rfl ⟨trivial, trivial⟩ ?_
      exact Run.ret (r := some (.int (-2 : Int32))) ⟨d_L_cut_19, _, rfl, rfl⟩ ⟨rfl, rfl⟩
set_option maxRecDepth 100000 in
set_option maxHeartbeats 4000000 in
theorem c_L_cut_B (hz : z ≤ 900) {p : Nat} {x : Int32} (hx : x = nI p) (hp : p ≤ z) : Ct m_L_cut 0 0 [.ref 0, .int x] (Ac fp le lp lb il tf (nI z) bf rf fr mp sc ifp ib ie pw dh rl rb re sy sb rc sg ex) (vm_is (some (.int (nI (z - p)))) (Ac fp le lp lb il tf (nI p) bf rf fr mp sc ifp ib ie pw dh rl rb re sy sb rc sg ex)) := by
  subst hx
  refine Ct.of ⟨by decide +kernel, rfl⟩ (Nat.le_of_ble_eq_true rfl) (lv := [some (.ref 0), some (.int (nI p)), none]) rfl ?_
  refine Run.blk (gs := [True, True]) (S' := ([some (.ref 0), some (.int (nI p)), none], [.ref 1], Ac fp le lp lb il tf (nI z) bf rf fr mp sc ifp ib ie pw dh rl rb re sy sb rc sg ex)) k_L_cut_0 kc_L_cut_0 rfl ⟨trivial, trivial, trivial⟩ ?_
  refine Run.callV (b := 1) (As := []) (rest := []) v_L_cut_4 c_T_size rfl (Nat.le_of_ble_eq_true rfl) rfl rfl rfl rfl (fun r cs' hp => ?_)
  obtain ⟨rfl, rfl⟩ := hp
  show Run _ _ _ _ 7 ([some (.ref 0), some (.int (nI p)), none], [.int (nI z)], Ac fp le lp lb il tf (nI z) bf rf fr mp sc ifp ib ie pw dh rl rb re sy sb rc sg ex) _
  refine Run.blk (gs := [True, True]) (S' := ([some (.ref 0), some (.int (nI p)), some (.int (nI z))], [.int (nI p)], Ac fp le lp lb il tf (nI z) bf rf fr mp sc ifp ib ie pw dh rl rb re sy sb rc sg ex)) k_L_cut_7 kc_L_cut_7 rfl ⟨trivial, trivial, trivial⟩ ?_
  refine Run.br (tgt := 17) d_L_cut_9 rfl (by decide) (fun c_1 => ?_) (fun c_1 => ?_)
  · exfalso; simp only [← Int32.toInt_inj, Int32.lt_iff_toInt_lt, Int32.le_iff_toInt_le, t0, t1, t2, t4, t64, ti7, ti8, ti900, tim1, nI_toInt (show z < 2 ^ 31 by omega), nI_toInt (show p < 2 ^ 31 by omega)] at *; omega
  · refine Run.blk (gs := [True, True]) (S' := ([some (.ref 0), some (.int (nI p)), some (.int (nI z))], [.int (nI z), .int (nI p)], Ac fp le lp lb il tf (nI z) bf rf fr mp sc ifp ib ie pw dh rl rb re sy sb rc sg ex)) k_L_cut_12 kc_L_cut_12 rfl ⟨trivial, trivial, trivial⟩ ?_
    refine Run.br (tgt := 20) d_L_cut_14 rfl (by decide) (fun c_2 => ?_) (fun c_2 => ?_)
    · refine Run.blk (gs := [True, True, True]) (S' := ([some (.ref 0), some (.int (nI p)), some (.int (nI z))], [.int (nI p), .ref 1], Ac fp le lp lb il tf (nI z) bf rf fr mp sc ifp ib ie pw dh rl rb re sy sb rc sg ex)) k_L_cut_20 kc_L_cut_20 rfl ⟨trivial, trivial, trivial, trivial⟩ ?_
      refine Run.callV (b := 1) (As := [.int (nI p)]) (rest := []) v_L_cut_25 (c_T_shorten hz hp rfl) rfl (Nat.le_of_ble_eq_true rfl) rfl rfl rfl rfl (fun r cs' hp => ?_)
      obtain ⟨rfl, rfl⟩ := hp
      show Run _ _ _ _ 28 ([some (.ref 0), some (.int (nI p)), some (.int (nI z))], [], Ac fp le lp lb il tf (nI p) bf rf fr mp sc ifp ib ie pw dh rl rb re sy sb rc sg ex) _
      refine Run.blk (gs := [True, True, True]) (S' := ([some (.ref 0), some (.int (nI p)), some (.int (nI z))], [.int ((nI z) - (nI p))], Ac fp le lp lb il tf (nI p) bf rf fr mp sc ifp ib ie pw dh rl rb re sy sb rc sg ex)) k_L_cut_28 kc_L_cut_28 rfl ⟨trivial, trivial, trivial, trivial⟩ ?_
      exact Run.ret (r := some (.int ((nI z) - (nI p)))) ⟨d_L_cut_31, _, rfl, rfl⟩ ⟨by rw [pk_sub hp], rfl⟩
    · exfalso; simp only [← Int32.toInt_inj, Int32.lt_iff_toInt_lt, Int32.le_iff_toInt_le, t0, t1, t2, t4, t64, ti7, ti8, ti900, tim1, nI_toInt (show z < 2 ^ 31 by omega), nI_toInt (show p < 2 ^ 31 by omega)] at *; omega
set_option maxRecDepth 100000 in
set_option maxHeartbeats 4000000 in
theorem c_L_poke_A (hz : z ≤ 900) {x y v : Int32} (hx : ¬ ((y.toInt = 1 ∨ y.toInt = 2 ∨ y.toInt = 4) ∧ 0 ≤ x.toInt ∧ x.toInt + y.toInt ≤ (z : Int))) : Ct m_L_poke 0 0 [.ref 0, .int x, .int y, .int v] (Ac fp le lp lb il tf (nI z) bf rf fr mp sc ifp ib ie pw dh rl rb re sy sb rc sg ex) (vm_is (some (.int (-2 : Int32))) (Ac fp le lp lb il tf (nI z) bf rf fr mp sc ifp ib ie pw dh rl rb re sy sb rc sg ex)) := by
  refine Ct.of ⟨by decide +kernel, rfl⟩ (Nat.le_of_ble_eq_true rfl) (lv := [some (.ref 0), some (.int x), some (.int y), some (.int v), none]) rfl ?_
  refine Run.blk (gs := [True]) (S' := ([some (.ref 0), some (.int x), some (.int y), some (.int v), none], [.int y], Ac fp le lp lb il tf (nI z) bf rf fr mp sc ifp ib ie pw dh rl rb re sy sb rc sg ex)) k_L_poke_0 kc_L_poke_0 rfl ⟨trivial, trivial⟩ ?_
  refine Run.callS (As := [.int y]) (rest := []) v_L_poke_1 (c_L_isSize y) rfl (Nat.le_of_ble_eq_true rfl) rfl (fun r cs' hp => ?_)
  obtain ⟨rfl, rfl⟩ := hp
  show Run _ _ _ _ 4 ([some (.ref 0), some (.int x), some (.int y), some (.int v), none], [.int (if y.toInt = 1 ∨ y.toInt = 2 ∨ y.toInt = 4 then 1 else 0)], Ac fp le lp lb il tf (nI z) bf rf fr mp sc ifp ib ie pw dh rl rb re sy sb rc sg ex) _
  refine Run.br (tgt := 21) d_L_poke_4 rfl (by decide) (fun c_1 => ?_) (fun c_1 => ?_)
  · have c_1 := zi_f c_1
    refine Run.blk (gs := [True]) (S' := ([some (.ref 0), some (.int x), some (.int y), some (.int v), none], [.int (-2 : Int32)], Ac fp le lp lb il tf (nI z) bf rf fr mp sc ifp ib ie pw dh rl rb re sy sb rc sg ex)) k_L_poke_21 kc_L_poke_21 rfl ⟨trivial, trivial⟩ ?_
    exact Run.ret (r := some (.int (-2 : Int32))) ⟨d_L_poke_23, _, rfl, rfl⟩ ⟨rfl, rfl⟩
  · have c_1 := zi_t c_1
    refine Run.blk (gs := [True, True, True, True, True, True]) (S' := ([some (.ref 0), some (.int x), some (.int y), some (.int v), none], [.long y.toInt64, .long x.toInt64, .ref 1], Ac fp le lp lb il tf (nI z) bf rf fr mp sc ifp ib ie pw dh rl rb re sy sb rc sg ex)) k_L_poke_7 kc_L_poke_7 rfl ⟨trivial, trivial, trivial, trivial, trivial, trivial, trivial⟩ ?_
    refine Run.callV (b := 1) (As := [.long x.toInt64, .long y.toInt64]) (rest := []) v_L_poke_15 (c_T_has hz (a := x.toInt64) (b := y.toInt64) (by rw [i32_64]; have := i32_r x; omega) (by rw [i32_64]; have := i32_r x; omega) (by rw [i32_64]; have := i32_r y; omega) (by rw [i32_64]; have := i32_r y; omega)) rfl (Nat.le_of_ble_eq_true rfl) rfl rfl rfl rfl (fun r cs' hp => ?_)
    obtain ⟨rfl, rfl⟩ := hp
    show Run _ _ _ _ 18 ([some (.ref 0), some (.int x), some (.int y), some (.int v), none], [.int (if 0 ≤ x.toInt64.toInt ∧ 0 ≤ y.toInt64.toInt ∧ x.toInt64.toInt + y.toInt64.toInt ≤ (z : Int) then 1 else 0)], Ac fp le lp lb il tf (nI z) bf rf fr mp sc ifp ib ie pw dh rl rb re sy sb rc sg ex) _
    refine Run.br (tgt := 24) d_L_poke_18 rfl (by decide) (fun c_2 => ?_) (fun c_2 => ?_)
    · have c_2 := zi_t c_2
      exfalso; simp only [i32_64] at *; omega
    · have c_2 := zi_f (Classical.not_not.mp c_2)
      refine Run.blk (gs := [True]) (S' := ([some (.ref 0), some (.int x), some (.int y), some (.int v), none], [.int (-2 : Int32)], Ac fp le lp lb il tf (nI z) bf rf fr mp sc ifp ib ie pw dh rl rb re sy sb rc sg ex)) k_L_poke_21 kc_L_poke_21 rfl ⟨trivial, trivial⟩ ?_
      exact Run.ret (r := some (.int (-2 : Int32))) ⟨d_L_poke_23, _, rfl, rfl⟩ ⟨rfl, rfl⟩
set_option maxRecDepth 100000 in
set_option maxHeartbeats 4000000 in
theorem c_L_poke_1 (hz : z ≤ 900) {p : Nat} {x v : Int32} (hx : x = nI p) (hp : p + 1 ≤ z) : Ct m_L_poke 0 0 [.ref 0, .int x, .int (1 : Int32), .int v] (Ac fp le lp lb il (sbf t) (nI z) bf rf fr mp sc ifp ib ie pw dh rl rb re sy sb rc sg ex) (vm_is (some (.int (0 : Int32))) (Ac fp le lp lb il (sbf (u1 t p v)) (nI z) bf rf fr mp sc ifp ib ie pw dh rl rb re sy sb rc sg ex)) := by
  subst hx
  refine Ct.of ⟨by decide +kernel, rfl⟩ (Nat.le_of_ble_eq_true rfl) (lv := [some (.ref 0), some (.int (nI p)), some (.int (1 : Int32)), some (.int v), none]) rfl ?_
  refine Run.blk (gs := [True]) (S' := ([some (.ref 0), some (.int (nI p)), some (.int (1 : Int32)), some (.int v), none], [.int (1 : Int32)], Ac fp le lp lb il (sbf t) (nI z) bf rf fr mp sc ifp ib ie pw dh rl rb re sy sb rc sg ex)) k_L_poke_0 kc_L_poke_0 rfl ⟨trivial, trivial⟩ ?_
  refine Run.callS (As := [.int (1 : Int32)]) (rest := []) v_L_poke_1 (c_L_isSize (1 : Int32)) rfl (Nat.le_of_ble_eq_true rfl) rfl (fun r cs' hp => ?_)
  obtain ⟨rfl, rfl⟩ := hp
  show Run _ _ _ _ 4 ([some (.ref 0), some (.int (nI p)), some (.int (1 : Int32)), some (.int v), none], [.int (if (1 : Int32).toInt = 1 ∨ (1 : Int32).toInt = 2 ∨ (1 : Int32).toInt = 4 then 1 else 0)], Ac fp le lp lb il (sbf t) (nI z) bf rf fr mp sc ifp ib ie pw dh rl rb re sy sb rc sg ex) _
  refine Run.br (tgt := 21) d_L_poke_4 rfl (by decide) (fun c_1 => ?_) (fun c_1 => ?_)
  · have c_1 := zi_f c_1
    exact absurd (by decide) c_1
  · have c_1 := zi_t c_1
    refine Run.blk (gs := [True, True, True, True, True, True]) (S' := ([some (.ref 0), some (.int (nI p)), some (.int (1 : Int32)), some (.int v), none], [.long ((1 : Int32).toInt64), .long ((nI p).toInt64), .ref 1], Ac fp le lp lb il (sbf t) (nI z) bf rf fr mp sc ifp ib ie pw dh rl rb re sy sb rc sg ex)) k_L_poke_7 kc_L_poke_7 rfl ⟨trivial, trivial, trivial, trivial, trivial, trivial, trivial⟩ ?_
    refine Run.callV (b := 1) (As := [.long ((nI p).toInt64), .long ((1 : Int32).toInt64)]) (rest := []) v_L_poke_15 (c_T_has hz (a := ((nI p).toInt64)) (b := ((1 : Int32).toInt64)) (by rw [i32_64]; have := i32_r (nI p); omega) (by rw [i32_64]; have := i32_r (nI p); omega) (by rw [i32_64]; have := i32_r (1 : Int32); omega) (by rw [i32_64]; have := i32_r (1 : Int32); omega)) rfl (Nat.le_of_ble_eq_true rfl) rfl rfl rfl rfl (fun r cs' hp => ?_)
    obtain ⟨rfl, rfl⟩ := hp
    show Run _ _ _ _ 18 ([some (.ref 0), some (.int (nI p)), some (.int (1 : Int32)), some (.int v), none], [.int (if 0 ≤ ((nI p).toInt64).toInt ∧ 0 ≤ ((1 : Int32).toInt64).toInt ∧ ((nI p).toInt64).toInt + ((1 : Int32).toInt64).toInt ≤ (z : Int) then 1 else 0)], Ac fp le lp lb il (sbf t) (nI z) bf rf fr mp sc ifp ib ie pw dh rl rb re sy sb rc sg ex) _
    refine Run.br (tgt := 24) d_L_poke_18 rfl (by decide) (fun c_2 => ?_) (fun c_2 => ?_)
    · have c_2 := zi_t c_2
      refine Run.blk (gs := [True, True]) (S' := ([some (.ref 0), some (.int (nI p)), some (.int (1 : Int32)), some (.int v), some (.int (0 : Int32))], [], Ac fp le lp lb il (sbf t) (nI z) bf rf fr mp sc ifp ib ie pw dh rl rb re sy sb rc sg ex)) k_L_poke_24 kc_L_poke_24 rfl ⟨trivial, trivial, trivial⟩ ?_
      refine Run.blk (gs := [True, True]) (S' := ([some (.ref 0), some (.int (nI p)), some (.int (1 : Int32)), some (.int v), some (.int (0 : Int32))], [.int (1 : Int32), .int (0 : Int32)], Ac fp le lp lb il (sbf t) (nI z) bf rf fr mp sc ifp ib ie pw dh rl rb re sy sb rc sg ex)) k_L_poke_27 kc_L_poke_27 rfl ⟨trivial, trivial, trivial⟩ ?_
      refine Run.br (tgt := 57) d_L_poke_30 rfl (by decide) (fun c_3 => ?_) (fun c_3 => ?_)
      · exact absurd c_3 (by decide)
      · refine Run.blk (gs := [True, True, True, True, True, True, True, True, True, True]) (S' := ([some (.ref 0), some (.int (nI p)), some (.int (1 : Int32)), some (.int v), some (.int (0 : Int32))], [.int ((v.toUInt32 >>> (((8 : Int32) * (0 : Int32)).toUInt32 &&& Int32.toUInt32 31)).toInt32), .int ((nI p) + (0 : Int32)), .ref 1], Ac fp le lp lb il (sbf t) (nI z) bf rf fr mp sc ifp ib ie pw dh rl rb re sy sb rc sg ex)) k_L_poke_33 kc_L_poke_33 rfl ⟨trivial, trivial, trivial, trivial, trivial, trivial, trivial, trivial, trivial, trivial, trivial⟩ ?_
        refine Run.callV (b := 1) (As := [.int ((nI p) + (0 : Int32)), .int ((v.toUInt32 >>> (((8 : Int32) * (0 : Int32)).toUInt32 &&& Int32.toUInt32 31)).toInt32)]) (rest := []) v_L_poke_48 (c_T_setByte (p := p + 0) hz (by omega) (show _ = nI (p + 0) from by rw [show (0 : Int32) = nI 0 from by decide]; exact nI_add p 0)) rfl (Nat.le_of_ble_eq_true rfl) rfl rfl rfl rfl (fun r cs' hp => ?_)
        obtain ⟨rfl, rfl⟩ := hp
        show Run _ _ _ _ 51 ([some (.ref 0), some (.int (nI p)), some (.int (1 : Int32)), some (.int v), some (.int (0 : Int32))], [], Ac fp le lp lb il (sbf (upN t (p + 0) (lb8 ((v.toUInt32 >>> (((8 : Int32) * (0 : Int32)).toUInt32 &&& Int32.toUInt32 31)).toInt32)))) (nI z) bf rf fr mp sc ifp ib ie pw dh rl rb re sy sb rc sg ex) _
        refine Run.blk (gs := [True]) (S' := ([some (.ref 0), some (.int (nI p)), some (.int (1 : Int32)), some (.int v), some (.int ((0 : Int32) + (1 : Int32)))], [], Ac fp le lp lb il (sbf (upN t (p + 0) (lb8 ((v.toUInt32 >>> (((8 : Int32) * (0 : Int32)).toUInt32 &&& Int32.toUInt32 31)).toInt32)))) (nI z) bf rf fr mp sc ifp ib ie pw dh rl rb re sy sb rc sg ex)) k_L_poke_51 kc_L_poke_51 rfl ⟨trivial, trivial⟩ ?_
        refine Run.goto (tgt := 27) d_L_poke_54 (by decide) ?_
        refine Run.blk (gs := [True, True]) (S' := ([some (.ref 0), some (.int (nI p)), some (.int (1 : Int32)), some (.int v), some (.int ((0 : Int32) + (1 : Int32)))], [.int (1 : Int32), .int ((0 : Int32) + (1 : Int32))], Ac fp le lp lb il (sbf (upN t (p + 0) (lb8 ((v.toUInt32 >>> (((8 : Int32) * (0 : Int32)).toUInt32 &&& Int32.toUInt32 31)).toInt32)))) (nI z) bf rf fr mp sc ifp ib ie pw dh rl rb re sy sb rc sg ex)) k_L_poke_27 kc_L_poke_27 rfl ⟨trivial, trivial, trivial⟩ ?_
        refine Run.br (tgt := 57) d_L_poke_30 rfl (by decide) (fun c_4 => ?_) (fun c_4 => ?_)
        · refine Run.blk (gs := [True]) (S' := ([some (.ref 0), some (.int (nI p)), some (.int (1 : Int32)), some (.int v), some (.int ((0 : Int32) + (1 : Int32)))], [.int (0 : Int32)], Ac fp le lp lb il (sbf (upN t (p + 0) (lb8 ((v.toUInt32 >>> (((8 : Int32) * (0 : Int32)).toUInt32 &&& Int32.toUInt32 31)).toInt32)))) (nI z) bf rf fr mp sc ifp ib ie pw dh rl rb re sy sb rc sg ex)) k_L_poke_57 kc_L_poke_57 rfl ⟨trivial, trivial⟩ ?_
          refine Run.ret (r := some (.int (0 : Int32))) ⟨d_L_poke_58, _, rfl, rfl⟩ ⟨rfl, ?_⟩
          rw [lb8_sh v _ 0 (by decide)]
          rfl
        · exact absurd c_4 (by decide)
    · have c_2 := zi_f (Classical.not_not.mp c_2)
      exfalso; apply c_2; simp only [i32_64, nI_toInt (show p < 2 ^ 31 by omega), t1, t2, t4]; omega
set_option maxRecDepth 100000 in
set_option maxHeartbeats 4000000 in
theorem c_L_poke_2 (hz : z ≤ 900) {p : Nat} {x v : Int32} (hx : x = nI p) (hp : p + 2 ≤ z) : Ct m_L_poke 0 0 [.ref 0, .int x, .int (2 : Int32), .int v] (Ac fp le lp lb il (sbf t) (nI z) bf rf fr mp sc ifp ib ie pw dh rl rb re sy sb rc sg ex) (vm_is (some (.int (0 : Int32))) (Ac fp le lp lb il (sbf (u2 t p v)) (nI z) bf rf fr mp sc ifp ib ie pw dh rl rb re sy sb rc sg ex)) := by
  subst hx
  refine Ct.of ⟨by decide +kernel, rfl⟩ (Nat.le_of_ble_eq_true rfl) (lv := [some (.ref 0), some (.int (nI p)), some (.int (2 : Int32)), some (.int v), none]) rfl ?_
  refine Run.blk (gs := [True]) (S' := ([some (.ref 0), some (.int (nI p)), some (.int (2 : Int32)), some (.int v), none], [.int (2 : Int32)], Ac fp le lp lb il (sbf t) (nI z) bf rf fr mp sc ifp ib ie pw dh rl rb re sy sb rc sg ex)) k_L_poke_0 kc_L_poke_0 rfl ⟨trivial, trivial⟩ ?_
  refine Run.callS (As := [.int (2 : Int32)]) (rest := []) v_L_poke_1 (c_L_isSize (2 : Int32)) rfl (Nat.le_of_ble_eq_true rfl) rfl (fun r cs' hp => ?_)
  obtain ⟨rfl, rfl⟩ := hp
  show Run _ _ _ _ 4 ([some (.ref 0), some (.int (nI p)), some (.int (2 : Int32)), some (.int v), none], [.int (if (2 : Int32).toInt = 1 ∨ (2 : Int32).toInt = 2 ∨ (2 : Int32).toInt = 4 then 1 else 0)], Ac fp le lp lb il (sbf t) (nI z) bf rf fr mp sc ifp ib ie pw dh rl rb re sy sb rc sg ex) _
  refine Run.br (tgt := 21) d_L_poke_4 rfl (by decide) (fun c_1 => ?_) (fun c_1 => ?_)
  · have c_1 := zi_f c_1
    exact absurd (by decide) c_1
  · have c_1 := zi_t c_1
    refine Run.blk (gs := [True, True, True, True, True, True]) (S' := ([some (.ref 0), some (.int (nI p)), some (.int (2 : Int32)), some (.int v), none], [.long ((2 : Int32).toInt64), .long ((nI p).toInt64), .ref 1], Ac fp le lp lb il (sbf t) (nI z) bf rf fr mp sc ifp ib ie pw dh rl rb re sy sb rc sg ex)) k_L_poke_7 kc_L_poke_7 rfl ⟨trivial, trivial, trivial, trivial, trivial, trivial, trivial⟩ ?_
    refine Run.callV (b := 1) (As := [.long ((nI p).toInt64), .long ((2 : Int32).toInt64)]) (rest := []) v_L_poke_15 (c_T_has hz (a := ((nI p).toInt64)) (b := ((2 : Int32).toInt64)) (by rw [i32_64]; have := i32_r (nI p); omega) (by rw [i32_64]; have := i32_r (nI p); omega) (by rw [i32_64]; have := i32_r (2 : Int32); omega) (by rw [i32_64]; have := i32_r (2 : Int32); omega)) rfl (Nat.le_of_ble_eq_true rfl) rfl rfl rfl rfl (fun r cs' hp => ?_)
    obtain ⟨rfl, rfl⟩ := hp
    show Run _ _ _ _ 18 ([some (.ref 0), some (.int (nI p)), some (.int (2 : Int32)), some (.int v), none], [.int (if 0 ≤ ((nI p).toInt64).toInt ∧ 0 ≤ ((2 : Int32).toInt64).toInt ∧ ((nI p).toInt64).toInt + ((2 : Int32).toInt64).toInt ≤ (z : Int) then 1 else 0)], Ac fp le lp lb il (sbf t) (nI z) bf rf fr mp sc ifp ib ie pw dh rl rb re sy sb rc sg ex) _
    refine Run.br (tgt := 24) d_L_poke_18 rfl (by decide) (fun c_2 => ?_) (fun c_2 => ?_)
    · have c_2 := zi_t c_2
      refine Run.blk (gs := [True, True]) (S' := ([some (.ref 0), some (.int (nI p)), some (.int (2 : Int32)), some (.int v), some (.int (0 : Int32))], [], Ac fp le lp lb il (sbf t) (nI z) bf rf fr mp sc ifp ib ie pw dh rl rb re sy sb rc sg ex)) k_L_poke_24 kc_L_poke_24 rfl ⟨trivial, trivial, trivial⟩ ?_
      refine Run.blk (gs := [True, True]) (S' := ([some (.ref 0), some (.int (nI p)), some (.int (2 : Int32)), some (.int v), some (.int (0 : Int32))], [.int (2 : Int32), .int (0 : Int32)], Ac fp le lp lb il (sbf t) (nI z) bf rf fr mp sc ifp ib ie pw dh rl rb re sy sb rc sg ex)) k_L_poke_27 kc_L_poke_27 rfl ⟨trivial, trivial, trivial⟩ ?_
      refine Run.br (tgt := 57) d_L_poke_30 rfl (by decide) (fun c_3 => ?_) (fun c_3 => ?_)
      · exact absurd c_3 (by decide)
      · refine Run.blk (gs := [True, True, True, True, True, True, True, True, True, True]) (S' := ([some (.ref 0), some (.int (nI p)), some (.int (2 : Int32)), some (.int v), some (.int (0 : Int32))], [.int ((v.toUInt32 >>> (((8 : Int32) * (0 : Int32)).toUInt32 &&& Int32.toUInt32 31)).toInt32), .int ((nI p) + (0 : Int32)), .ref 1], Ac fp le lp lb il (sbf t) (nI z) bf rf fr mp sc ifp ib ie pw dh rl rb re sy sb rc sg ex)) k_L_poke_33 kc_L_poke_33 rfl ⟨trivial, trivial, trivial, trivial, trivial, trivial, trivial, trivial, trivial, trivial, trivial⟩ ?_
        refine Run.callV (b := 1) (As := [.int ((nI p) + (0 : Int32)), .int ((v.toUInt32 >>> (((8 : Int32) * (0 : Int32)).toUInt32 &&& Int32.toUInt32 31)).toInt32)]) (rest := []) v_L_poke_48 (c_T_setByte (p := p + 0) hz (by omega) (show _ = nI (p + 0) from by rw [show (0 : Int32) = nI 0 from by decide]; exact nI_add p 0)) rfl (Nat.le_of_ble_eq_true rfl) rfl rfl rfl rfl (fun r cs' hp => ?_)
        obtain ⟨rfl, rfl⟩ := hp
        show Run _ _ _ _ 51 ([some (.ref 0), some (.int (nI p)), some (.int (2 : Int32)), some (.int v), some (.int (0 : Int32))], [], Ac fp le lp lb il (sbf (upN t (p + 0) (lb8 ((v.toUInt32 >>> (((8 : Int32) * (0 : Int32)).toUInt32 &&& Int32.toUInt32 31)).toInt32)))) (nI z) bf rf fr mp sc ifp ib ie pw dh rl rb re sy sb rc sg ex) _
        refine Run.blk (gs := [True]) (S' := ([some (.ref 0), some (.int (nI p)), some (.int (2 : Int32)), some (.int v), some (.int ((0 : Int32) + (1 : Int32)))], [], Ac fp le lp lb il (sbf (upN t (p + 0) (lb8 ((v.toUInt32 >>> (((8 : Int32) * (0 : Int32)).toUInt32 &&& Int32.toUInt32 31)).toInt32)))) (nI z) bf rf fr mp sc ifp ib ie pw dh rl rb re sy sb rc sg ex)) k_L_poke_51 kc_L_poke_51 rfl ⟨trivial, trivial⟩ ?_
        refine Run.goto (tgt := 27) d_L_poke_54 (by decide) ?_
        refine Run.blk (gs := [True, True]) (S' := ([some (.ref 0), some (.int (nI p)), some (.int (2 : Int32)), some (.int v), some (.int ((0 : Int32) + (1 : Int32)))], [.int (2 : Int32), .int ((0 : Int32) + (1 : Int32))], Ac fp le lp lb il (sbf (upN t (p + 0) (lb8 ((v.toUInt32 >>> (((8 : Int32) * (0 : Int32)).toUInt32 &&& Int32.toUInt32 31)).toInt32)))) (nI z) bf rf fr mp sc ifp ib ie pw dh rl rb re sy sb rc sg ex)) k_L_poke_27 kc_L_poke_27 rfl ⟨trivial, trivial, trivial⟩ ?_
        refine Run.br (tgt := 57) d_L_poke_30 rfl (by decide) (fun c_4 => ?_) (fun c_4 => ?_)
        · exact absurd c_4 (by decide)
        · refine Run.blk (gs := [True, True, True, True, True, True, True, True, True, True]) (S' := ([some (.ref 0), some (.int (nI p)), some (.int (2 : Int32)), some (.int v), some (.int ((0 : Int32) + (1 : Int32)))], [.int ((v.toUInt32 >>> (((8 : Int32) * ((0 : Int32) + (1 : Int32))).toUInt32 &&& Int32.toUInt32 31)).toInt32), .int ((nI p) + ((0 : Int32) + (1 : Int32))), .ref 1], Ac fp le lp lb il (sbf (upN t (p + 0) (lb8 ((v.toUInt32 >>> (((8 : Int32) * (0 : Int32)).toUInt32 &&& Int32.toUInt32 31)).toInt32)))) (nI z) bf rf fr mp sc ifp ib ie pw dh rl rb re sy sb rc sg ex)) k_L_poke_33 kc_L_poke_33 rfl ⟨trivial, trivial, trivial, trivial, trivial, trivial, trivial, trivial, trivial, trivial, trivial⟩ ?_
          refine Run.callV (b := 1) (As := [.int ((nI p) + ((0 : Int32) + (1 : Int32))), .int ((v.toUInt32 >>> (((8 : Int32) * ((0 : Int32) + (1 : Int32))).toUInt32 &&& Int32.toUInt32 31)).toInt32)]) (rest := []) v_L_poke_48 (c_T_setByte (p := p + 1) hz (by omega) (show _ = nI (p + 1) from by rw [show ((0 : Int32) + (1 : Int32)) = nI 1 from by decide]; exact nI_add p 1)) rfl (Nat.le_of_ble_eq_true rfl) rfl rfl rfl rfl (fun r cs' hp => ?_)
          obtain ⟨rfl, rfl⟩ := hp
          show Run _ _ _ _ 51 ([some (.ref 0), some (.int (nI p)), some (.int (2 : Int32)), some (.int v), some (.int ((0 : Int32) + (1 : Int32)))], [], Ac fp le lp lb il (sbf (upN (upN t (p + 0) (lb8 ((v.toUInt32 >>> (((8 : Int32) * (0 : Int32)).toUInt32 &&& Int32.toUInt32 31)).toInt32))) (p + 1) (lb8 ((v.toUInt32 >>> (((8 : Int32) * ((0 : Int32) + (1 : Int32))).toUInt32 &&& Int32.toUInt32 31)).toInt32)))) (nI z) bf rf fr mp sc ifp ib ie pw dh rl rb re sy sb rc sg ex) _
          refine Run.blk (gs := [True]) (S' := ([some (.ref 0), some (.int (nI p)), some (.int (2 : Int32)), some (.int v), some (.int (((0 : Int32) + (1 : Int32)) + (1 : Int32)))], [], Ac fp le lp lb il (sbf (upN (upN t (p + 0) (lb8 ((v.toUInt32 >>> (((8 : Int32) * (0 : Int32)).toUInt32 &&& Int32.toUInt32 31)).toInt32))) (p + 1) (lb8 ((v.toUInt32 >>> (((8 : Int32) * ((0 : Int32) + (1 : Int32))).toUInt32 &&& Int32.toUInt32 31)).toInt32)))) (nI z) bf rf fr mp sc ifp ib ie pw dh rl rb re sy sb rc sg ex)) k_L_poke_51 kc_L_poke_51 rfl ⟨trivial, trivial⟩ ?_
          refine Run.goto (tgt := 27) d_L_poke_54 (by decide) ?_
          refine Run.blk (gs := [True, True]) (S' := ([some (.ref 0), some (.int (nI p)), some (.int (2 : Int32)), some (.int v), some (.int (((0 : Int32) + (1 : Int32)) + (1 : Int32)))], [.int (2 : Int32), .int (((0 : Int32) + (1 : Int32)) + (1 : Int32))], Ac fp le lp lb il (sbf (upN (upN t (p + 0) (lb8 ((v.toUInt32 >>> (((8 : Int32) * (0 : Int32)).toUInt32 &&& Int32.toUInt32 31)).toInt32))) (p + 1) (lb8 ((v.toUInt32 >>> (((8 : Int32) * ((0 : Int32) + (1 : Int32))).toUInt32 &&& Int32.toUInt32 31)).toInt32)))) (nI z) bf rf fr mp sc ifp ib ie pw dh rl rb re sy sb rc sg ex)) k_L_poke_27 kc_L_poke_27 rfl ⟨trivial, trivial, trivial⟩ ?_
          refine Run.br (tgt := 57) d_L_poke_30 rfl (by decide) (fun c_5 => ?_) (fun c_5 => ?_)
          · refine Run.blk (gs := [True]) (S' := ([some (.ref 0), some (.int (nI p)), some (.int (2 : Int32)), some (.int v), some (.int (((0 : Int32) + (1 : Int32)) + (1 : Int32)))], [.int (0 : Int32)], Ac fp le lp lb il (sbf (upN (upN t (p + 0) (lb8 ((v.toUInt32 >>> (((8 : Int32) * (0 : Int32)).toUInt32 &&& Int32.toUInt32 31)).toInt32))) (p + 1) (lb8 ((v.toUInt32 >>> (((8 : Int32) * ((0 : Int32) + (1 : Int32))).toUInt32 &&& Int32.toUInt32 31)).toInt32)))) (nI z) bf rf fr mp sc ifp ib ie pw dh rl rb re sy sb rc sg ex)) k_L_poke_57 kc_L_poke_57 rfl ⟨trivial, trivial⟩ ?_
            refine Run.ret (r := some (.int (0 : Int32))) ⟨d_L_poke_58, _, rfl, rfl⟩ ⟨rfl, ?_⟩
            rw [lb8_sh v _ 0 (by decide), lb8_sh v _ 1 (by decide)]
            rfl
          · exact absurd c_5 (by decide)
    · have c_2 := zi_f (Classical.not_not.mp c_2)
      exfalso; apply c_2; simp only [i32_64, nI_toInt (show p < 2 ^ 31 by omega), t1, t2, t4]; omega
set_option maxRecDepth 100000 in
set_option maxHeartbeats 4000000 in
theorem c_L_poke_4 (hz : z ≤ 900) {p : Nat} {x v : Int32} (hx : x = nI p) (hp : p + 4 ≤ z) : Ct m_L_poke 0 0 [.ref 0, .int x, .int (4 : Int32), .int v] (Ac fp le lp lb il (sbf t) (nI z) bf rf fr mp sc ifp ib ie pw dh rl rb re sy sb rc sg ex) (vm_is (some (.int (0 : Int32))) (Ac fp le lp lb il (sbf (u4 t p v)) (nI z) bf rf fr mp sc ifp ib ie pw dh rl rb re sy sb rc sg ex)) := by
  subst hx
  refine Ct.of ⟨by decide +kernel, rfl⟩ (Nat.le_of_ble_eq_true rfl) (lv := [some (.ref 0), some (.int (nI p)), some (.int (4 : Int32)), some (.int v), none]) rfl ?_
  refine Run.blk (gs := [True]) (S' := ([some (.ref 0), some (.int (nI p)), some (.int (4 : Int32)), some (.int v), none], [.int (4 : Int32)], Ac fp le lp lb il (sbf t) (nI z) bf rf fr mp sc ifp ib ie pw dh rl rb re sy sb rc sg ex)) k_L_poke_0 kc_L_poke_0 rfl ⟨trivial, trivial⟩ ?_
  refine Run.callS (As := [.int (4 : Int32)]) (rest := []) v_L_poke_1 (c_L_isSize (4 : Int32)) rfl (Nat.le_of_ble_eq_true rfl) rfl (fun r cs' hp => ?_)
  obtain ⟨rfl, rfl⟩ := hp
  show Run _ _ _ _ 4 ([some (.ref 0), some (.int (nI p)), some (.int (4 : Int32)), some (.int v), none], [.int (if (4 : Int32).toInt = 1 ∨ (4 : Int32).toInt = 2 ∨ (4 : Int32).toInt = 4 then 1 else 0)], Ac fp le lp lb il (sbf t) (nI z) bf rf fr mp sc ifp ib ie pw dh rl rb re sy sb rc sg ex) _
  refine Run.br (tgt := 21) d_L_poke_4 rfl (by decide) (fun c_1 => ?_) (fun c_1 => ?_)
  · have c_1 := zi_f c_1
    exact absurd (by decide) c_1
  · have c_1 := zi_t c_1
    refine Run.blk (gs := [True, True, True, True, True, True]) (S' := ([some (.ref 0), some (.int (nI p)), some (.int (4 : Int32)), some (.int v), none], [.long ((4 : Int32).toInt64), .long ((nI p).toInt64), .ref 1], Ac fp le lp lb il (sbf t) (nI z) bf rf fr mp sc ifp ib ie pw dh rl rb re sy sb rc sg ex)) k_L_poke_7 kc_L_poke_7 rfl ⟨trivial, trivial, trivial, trivial, trivial, trivial, trivial⟩ ?_
    refine Run.callV (b := 1) (As := [.long ((nI p).toInt64), .long ((4 : Int32).toInt64)]) (rest := []) v_L_poke_15 (c_T_has hz (a := ((nI p).toInt64)) (b := ((4 : Int32).toInt64)) (by rw [i32_64]; have := i32_r (nI p); omega) (by rw [i32_64]; have := i32_r (nI p); omega) (by rw [i32_64]; have := i32_r (4 : Int32); omega) (by rw [i32_64]; have := i32_r (4 : Int32); omega)) rfl (Nat.le_of_ble_eq_true rfl) rfl rfl rfl rfl (fun r cs' hp => ?_)
    obtain ⟨rfl, rfl⟩ := hp
    show Run _ _ _ _ 18 ([some (.ref 0), some (.int (nI p)), some (.int (4 : Int32)), some (.int v), none], [.int (if 0 ≤ ((nI p).toInt64).toInt ∧ 0 ≤ ((4 : Int32).toInt64).toInt ∧ ((nI p).toInt64).toInt + ((4 : Int32).toInt64).toInt ≤ (z : Int) then 1 else 0)], Ac fp le lp lb il (sbf t) (nI z) bf rf fr mp sc ifp ib ie pw dh rl rb re sy sb rc sg ex) _
    refine Run.br (tgt := 24) d_L_poke_18 rfl (by decide) (fun c_2 => ?_) (fun c_2 => ?_)
    · have c_2 := zi_t c_2
      refine Run.blk (gs := [True, True]) (S' := ([some (.ref 0), some (.int (nI p)), some (.int (4 : Int32)), some (.int v), some (.int (0 : Int32))], [], Ac fp le lp lb il (sbf t) (nI z) bf rf fr mp sc ifp ib ie pw dh rl rb re sy sb rc sg ex)) k_L_poke_24 kc_L_poke_24 rfl ⟨trivial, trivial, trivial⟩ ?_
      refine Run.blk (gs := [True, True]) (S' := ([some (.ref 0), some (.int (nI p)), some (.int (4 : Int32)), some (.int v), some (.int (0 : Int32))], [.int (4 : Int32), .int (0 : Int32)], Ac fp le lp lb il (sbf t) (nI z) bf rf fr mp sc ifp ib ie pw dh rl rb re sy sb rc sg ex)) k_L_poke_27 kc_L_poke_27 rfl ⟨trivial, trivial, trivial⟩ ?_
      refine Run.br (tgt := 57) d_L_poke_30 rfl (by decide) (fun c_3 => ?_) (fun c_3 => ?_)
      · exact absurd c_3 (by decide)
      · refine Run.blk (gs := [True, True, True, True, True, True, True, True, True, True]) (S' := ([some (.ref 0), some (.int (nI p)), some (.int (4 : Int32)), some (.int v), some (.int (0 : Int32))], [.int ((v.toUInt32 >>> (((8 : Int32) * (0 : Int32)).toUInt32 &&& Int32.toUInt32 31)).toInt32), .int ((nI p) + (0 : Int32)), .ref 1], Ac fp le lp lb il (sbf t) (nI z) bf rf fr mp sc ifp ib ie pw dh rl rb re sy sb rc sg ex)) k_L_poke_33 kc_L_poke_33 rfl ⟨trivial, trivial, trivial, trivial, trivial, trivial, trivial, trivial, trivial, trivial, trivial⟩ ?_
        refine Run.callV (b := 1) (As := [.int ((nI p) + (0 : Int32)), .int ((v.toUInt32 >>> (((8 : Int32) * (0 : Int32)).toUInt32 &&& Int32.toUInt32 31)).toInt32)]) (rest := []) v_L_poke_48 (c_T_setByte (p := p + 0) hz (by omega) (show _ = nI (p + 0) from by rw [show (0 : Int32) = nI 0 from by decide]; exact nI_add p 0)) rfl (Nat.le_of_ble_eq_true rfl) rfl rfl rfl rfl (fun r cs' hp => ?_)
        obtain ⟨rfl, rfl⟩ := hp
        show Run _ _ _ _ 51 ([some (.ref 0), some (.int (nI p)), some (.int (4 : Int32)), some (.int v), some (.int (0 : Int32))], [], Ac fp le lp lb il (sbf (upN t (p + 0) (lb8 ((v.toUInt32 >>> (((8 : Int32) * (0 : Int32)).toUInt32 &&& Int32.toUInt32 31)).toInt32)))) (nI z) bf rf fr mp sc ifp ib ie pw dh rl rb re sy sb rc sg ex) _
        refine Run.blk (gs := [True]) (S' := ([some (.ref 0), some (.int (nI p)), some (.int (4 : Int32)), some (.int v), some (.int ((0 : Int32) + (1 : Int32)))], [], Ac fp le lp lb il (sbf (upN t (p + 0) (lb8 ((v.toUInt32 >>> (((8 : Int32) * (0 : Int32)).toUInt32 &&& Int32.toUInt32 31)).toInt32)))) (nI z) bf rf fr mp sc ifp ib ie pw dh rl rb re sy sb rc sg ex)) k_L_poke_51 kc_L_poke_51 rfl ⟨trivial, trivial⟩ ?_
        refine Run.goto (tgt := 27) d_L_poke_54 (by decide) ?_
        refine Run.blk (gs := [True, True]) (S' := ([some (.ref 0), some (.int (nI p)), some (.int (4 : Int32)), some (.int v), some (.int ((0 : Int32) + (1 : Int32)))], [.int (4 : Int32), .int ((0 : Int32) + (1 : Int32))], Ac fp le lp lb il (sbf (upN t (p + 0) (lb8 ((v.toUInt32 >>> (((8 : Int32) * (0 : Int32)).toUInt32 &&& Int32.toUInt32 31)).toInt32)))) (nI z) bf rf fr mp sc ifp ib ie pw dh rl rb re sy sb rc sg ex)) k_L_poke_27 kc_L_poke_27 rfl ⟨trivial, trivial, trivial⟩ ?_
        refine Run.br (tgt := 57) d_L_poke_30 rfl (by decide) (fun c_4 => ?_) (fun c_4 => ?_)
        · exact absurd c_4 (by decide)
        · refine Run.blk (gs := [True, True, True, True, True, True, True, True, True, True]) (S' := ([some (.ref 0), some (.int (nI p)), some (.int (4 : Int32)), some (.int v), some (.int ((0 : Int32) + (1 : Int32)))], [.int ((v.toUInt32 >>> (((8 : Int32) * ((0 : Int32) + (1 : Int32))).toUInt32 &&& Int32.toUInt32 31)).toInt32), .int ((nI p) + ((0 : Int32) + (1 : Int32))), .ref 1], Ac fp le lp lb il (sbf (upN t (p + 0) (lb8 ((v.toUInt32 >>> (((8 : Int32) * (0 : Int32)).toUInt32 &&& Int32.toUInt32 31)).toInt32)))) (nI z) bf rf fr mp sc ifp ib ie pw dh rl rb re sy sb rc sg ex)) k_L_poke_33 kc_L_poke_33 rfl ⟨trivial, trivial, trivial, trivial, trivial, trivial, trivial, trivial, trivial, trivial, trivial⟩ ?_
          refine Run.callV (b := 1) (As := [.int ((nI p) + ((0 : Int32) + (1 : Int32))), .int ((v.toUInt32 >>> (((8 : Int32) * ((0 : Int32) + (1 : Int32))).toUInt32 &&& Int32.toUInt32 31)).toInt32)]) (rest := []) v_L_poke_48 (c_T_setByte (p := p + 1) hz (by omega) (show _ = nI (p + 1) from by rw [show ((0 : Int32) + (1 : Int32)) = nI 1 from by decide]; exact nI_add p 1)) rfl (Nat.le_of_ble_eq_true rfl) rfl rfl rfl rfl (fun r cs' hp => ?_)
          obtain ⟨rfl, rfl⟩ := hp
          show Run _ _ _ _ 51 ([some (.ref 0), some (.int (nI p)), some (.int (4 : Int32)), some (.int v), some (.int ((0 : Int32) + (1 : Int32)))], [], Ac fp le lp lb il (sbf (upN (upN t (p + 0) (lb8 ((v.toUInt32 >>> (((8 : Int32) * (0 : Int32)).toUInt32 &&& Int32.toUInt32 31)).toInt32))) (p + 1) (lb8 ((v.toUInt32 >>> (((8 : Int32) * ((0 : Int32) + (1 : Int32))).toUInt32 &&& Int32.toUInt32 31)).toInt32)))) (nI z) bf rf fr mp sc ifp ib ie pw dh rl rb re sy sb rc sg ex) _
          refine Run.blk (gs := [True]) (S' := ([some (.ref 0), some (.int (nI p)), some (.int (4 : Int32)), some (.int v), some (.int (((0 : Int32) + (1 : Int32)) + (1 : Int32)))], [], Ac fp le lp lb il (sbf (upN (upN t (p + 0) (lb8 ((v.toUInt32 >>> (((8 : Int32) * (0 : Int32)).toUInt32 &&& Int32.toUInt32 31)).toInt32))) (p + 1) (lb8 ((v.toUInt32 >>> (((8 : Int32) * ((0 : Int32) + (1 : Int32))).toUInt32 &&& Int32.toUInt32 31)).toInt32)))) (nI z) bf rf fr mp sc ifp ib ie pw dh rl rb re sy sb rc sg ex)) k_L_poke_51 kc_L_poke_51 rfl ⟨trivial, trivial⟩ ?_
          refine Run.goto (tgt := 27) d_L_poke_54 (by decide) ?_
          refine Run.blk (gs := [True, True]) (S' := ([some (.ref 0), some (.int (nI p)), some (.int (4 : Int32)), some (.int v), some (.int (((0 : Int32) + (1 : Int32)) + (1 : Int32)))], [.int (4 : Int32), .int (((0 : Int32) + (1 : Int32)) + (1 : Int32))], Ac fp le lp lb il (sbf (upN (upN t (p + 0) (lb8 ((v.toUInt32 >>> (((8 : Int32) * (0 : Int32)).toUInt32 &&& Int32.toUInt32 31)).toInt32))) (p + 1) (lb8 ((v.toUInt32 >>> (((8 : Int32) * ((0 : Int32) + (1 : Int32))).toUInt32 &&& Int32.toUInt32 31)).toInt32)))) (nI z) bf rf fr mp sc ifp ib ie pw dh rl rb re sy sb rc sg ex)) k_L_poke_27 kc_L_poke_27 rfl ⟨trivial, trivial, trivial⟩ ?_
          refine Run.br (tgt := 57) d_L_poke_30 rfl (by decide) (fun c_5 => ?_) (fun c_5 => ?_)
          · exact absurd c_5 (by decide)
          · refine Run.blk (gs := [True, True, True, True, True, True, True, True, True, True]) (S' := ([some (.ref 0), some (.int (nI p)), some (.int (4 : Int32)), some (.int v), some (.int (((0 : Int32) + (1 : Int32)) + (1 : Int32)))], [.int ((v.toUInt32 >>> (((8 : Int32) * (((0 : Int32) + (1 : Int32)) + (1 : Int32))).toUInt32 &&& Int32.toUInt32 31)).toInt32), .int ((nI p) + (((0 : Int32) + (1 : Int32)) + (1 : Int32))), .ref 1], Ac fp le lp lb il (sbf (upN (upN t (p + 0) (lb8 ((v.toUInt32 >>> (((8 : Int32) * (0 : Int32)).toUInt32 &&& Int32.toUInt32 31)).toInt32))) (p + 1) (lb8 ((v.toUInt32 >>> (((8 : Int32) * ((0 : Int32) + (1 : Int32))).toUInt32 &&& Int32.toUInt32 31)).toInt32)))) (nI z) bf rf fr mp sc ifp ib ie pw dh rl rb re sy sb rc sg ex)) k_L_poke_33 kc_L_poke_33 rfl ⟨trivial, trivial, trivial, trivial, trivial, trivial, trivial, trivial, trivial, trivial, trivial⟩ ?_
            refine Run.callV (b := 1) (As := [.int ((nI p) + (((0 : Int32) + (1 : Int32)) + (1 : Int32))), .int ((v.toUInt32 >>> (((8 : Int32) * (((0 : Int32) + (1 : Int32)) + (1 : Int32))).toUInt32 &&& Int32.toUInt32 31)).toInt32)]) (rest := []) v_L_poke_48 (c_T_setByte (p := p + 2) hz (by omega) (show _ = nI (p + 2) from by rw [show (((0 : Int32) + (1 : Int32)) + (1 : Int32)) = nI 2 from by decide]; exact nI_add p 2)) rfl (Nat.le_of_ble_eq_true rfl) rfl rfl rfl rfl (fun r cs' hp => ?_)
            obtain ⟨rfl, rfl⟩ := hp
            show Run _ _ _ _ 51 ([some (.ref 0), some (.int (nI p)), some (.int (4 : Int32)), some (.int v), some (.int (((0 : Int32) + (1 : Int32)) + (1 : Int32)))], [], Ac fp le lp lb il (sbf (upN (upN (upN t (p + 0) (lb8 ((v.toUInt32 >>> (((8 : Int32) * (0 : Int32)).toUInt32 &&& Int32.toUInt32 31)).toInt32))) (p + 1) (lb8 ((v.toUInt32 >>> (((8 : Int32) * ((0 : Int32) + (1 : Int32))).toUInt32 &&& Int32.toUInt32 31)).toInt32))) (p + 2) (lb8 ((v.toUInt32 >>> (((8 : Int32) * (((0 : Int32) + (1 : Int32)) + (1 : Int32))).toUInt32 &&& Int32.toUInt32 31)).toInt32)))) (nI z) bf rf fr mp sc ifp ib ie pw dh rl rb re sy sb rc sg ex) _
            refine Run.blk (gs := [True]) (S' := ([some (.ref 0), some (.int (nI p)), some (.int (4 : Int32)), some (.int v), some (.int ((((0 : Int32) + (1 : Int32)) + (1 : Int32)) + (1 : Int32)))], [], Ac fp le lp lb il (sbf (upN (upN (upN t (p + 0) (lb8 ((v.toUInt32 >>> (((8 : Int32) * (0 : Int32)).toUInt32 &&& Int32.toUInt32 31)).toInt32))) (p + 1) (lb8 ((v.toUInt32 >>> (((8 : Int32) * ((0 : Int32) + (1 : Int32))).toUInt32 &&& Int32.toUInt32 31)).toInt32))) (p + 2) (lb8 ((v.toUInt32 >>> (((8 : Int32) * (((0 : Int32) + (1 : Int32)) + (1 : Int32))).toUInt32 &&& Int32.toUInt32 31)).toInt32)))) (nI z) bf rf fr mp sc ifp ib ie pw dh rl rb re sy sb rc sg ex)) k_L_poke_51 kc_L_poke_51 rfl ⟨trivial, trivial⟩ ?_
            refine Run.goto (tgt := 27) d_L_poke_54 (by decide) ?_
            refine Run.blk (gs := [True, True]) (S' := ([some (.ref 0), some (.int (nI p)), some (.int (4 : Int32)), some (.int v), some (.int ((((0 : Int32) + (1 : Int32)) + (1 : Int32)) + (1 : Int32)))], [.int (4 : Int32), .int ((((0 : Int32) + (1 : Int32)) + (1 : Int32)) + (1 : Int32))], Ac fp le lp lb il (sbf (upN (upN (upN t (p + 0) (lb8 ((v.toUInt32 >>> (((8 : Int32) * (0 : Int32)).toUInt32 &&& Int32.toUInt32 31)).toInt32))) (p + 1) (lb8 ((v.toUInt32 >>> (((8 : Int32) * ((0 : Int32) + (1 : Int32))).toUInt32 &&& Int32.toUInt32 31)).toInt32))) (p + 2) (lb8 ((v.toUInt32 >>> (((8 : Int32) * (((0 : Int32) + (1 : Int32)) + (1 : Int32))).toUInt32 &&& Int32.toUInt32 31)).toInt32)))) (nI z) bf rf fr mp sc ifp ib ie pw dh rl rb re sy sb rc sg ex)) k_L_poke_27 kc_L_poke_27 rfl ⟨trivial, trivial, trivial⟩ ?_
            refine Run.br (tgt := 57) d_L_poke_30 rfl (by decide) (fun c_6 => ?_) (fun c_6 => ?_)
            · exact absurd c_6 (by decide)
            · refine Run.blk (gs := [True, True, True, True, True, True, True, True, True, True]) (S' := ([some (.ref 0), some (.int (nI p)), some (.int (4 : Int32)), some (.int v), some (.int ((((0 : Int32) + (1 : Int32)) + (1 : Int32)) + (1 : Int32)))], [.int ((v.toUInt32 >>> (((8 : Int32) * ((((0 : Int32) + (1 : Int32)) + (1 : Int32)) + (1 : Int32))).toUInt32 &&& Int32.toUInt32 31)).toInt32), .int ((nI p) + ((((0 : Int32) + (1 : Int32)) + (1 : Int32)) + (1 : Int32))), .ref 1], Ac fp le lp lb il (sbf (upN (upN (upN t (p + 0) (lb8 ((v.toUInt32 >>> (((8 : Int32) * (0 : Int32)).toUInt32 &&& Int32.toUInt32 31)).toInt32))) (p + 1) (lb8 ((v.toUInt32 >>> (((8 : Int32) * ((0 : Int32) + (1 : Int32))).toUInt32 &&& Int32.toUInt32 31)).toInt32))) (p + 2) (lb8 ((v.toUInt32 >>> (((8 : Int32) * (((0 : Int32) + (1 : Int32)) + (1 : Int32))).toUInt32 &&& Int32.toUInt32 31)).toInt32)))) (nI z) bf rf fr mp sc ifp ib ie pw dh rl rb re sy sb rc sg ex)) k_L_poke_33 kc_L_poke_33 rfl ⟨trivial, trivial, trivial, trivial, trivial, trivial, trivial, trivial, trivial, trivial, trivial⟩ ?_
              refine Run.callV (b := 1) (As := [.int ((nI p) + ((((0 : Int32) + (1 : Int32)) + (1 : Int32)) + (1 : Int32))), .int ((v.toUInt32 >>> (((8 : Int32) * ((((0 : Int32) + (1 : Int32)) + (1 : Int32)) + (1 : Int32))).toUInt32 &&& Int32.toUInt32 31)).toInt32)]) (rest := []) v_L_poke_48 (c_T_setByte (p := p + 3) hz (by omega) (show _ = nI (p + 3) from by rw [show ((((0 : Int32) + (1 : Int32)) + (1 : Int32)) + (1 : Int32)) = nI 3 from by decide]; exact nI_add p 3)) rfl (Nat.le_of_ble_eq_true rfl) rfl rfl rfl rfl (fun r cs' hp => ?_)
              obtain ⟨rfl, rfl⟩ := hp
              show Run _ _ _ _ 51 ([some (.ref 0), some (.int (nI p)), some (.int (4 : Int32)), some (.int v), some (.int ((((0 : Int32) + (1 : Int32)) + (1 : Int32)) + (1 : Int32)))], [], Ac fp le lp lb il (sbf (upN (upN (upN (upN t (p + 0) (lb8 ((v.toUInt32 >>> (((8 : Int32) * (0 : Int32)).toUInt32 &&& Int32.toUInt32 31)).toInt32))) (p + 1) (lb8 ((v.toUInt32 >>> (((8 : Int32) * ((0 : Int32) + (1 : Int32))).toUInt32 &&& Int32.toUInt32 31)).toInt32))) (p + 2) (lb8 ((v.toUInt32 >>> (((8 : Int32) * (((0 : Int32) + (1 : Int32)) + (1 : Int32))).toUInt32 &&& Int32.toUInt32 31)).toInt32))) (p + 3) (lb8 ((v.toUInt32 >>> (((8 : Int32) * ((((0 : Int32) + (1 : Int32)) + (1 : Int32)) + (1 : Int32))).toUInt32 &&& Int32.toUInt32 31)).toInt32)))) (nI z) bf rf fr mp sc ifp ib ie pw dh rl rb re sy sb rc sg ex) _
              refine Run.blk (gs := [True]) (S' := ([some (.ref 0), some (.int (nI p)), some (.int (4 : Int32)), some (.int v), some (.int (((((0 : Int32) + (1 : Int32)) + (1 : Int32)) + (1 : Int32)) + (1 : Int32)))], [], Ac fp le lp lb il (sbf (upN (upN (upN (upN t (p + 0) (lb8 ((v.toUInt32 >>> (((8 : Int32) * (0 : Int32)).toUInt32 &&& Int32.toUInt32 31)).toInt32))) (p + 1) (lb8 ((v.toUInt32 >>> (((8 : Int32) * ((0 : Int32) + (1 : Int32))).toUInt32 &&& Int32.toUInt32 31)).toInt32))) (p + 2) (lb8 ((v.toUInt32 >>> (((8 : Int32) * (((0 : Int32) + (1 : Int32)) + (1 : Int32))).toUInt32 &&& Int32.toUInt32 31)).toInt32))) (p + 3) (lb8 ((v.toUInt32 >>> (((8 : Int32) * ((((0 : Int32) + (1 : Int32)) + (1 : Int32)) + (1 : Int32))).toUInt32 &&& Int32.toUInt32 31)).toInt32)))) (nI z) bf rf fr mp sc ifp ib ie pw dh rl rb re sy sb rc sg ex)) k_L_poke_51 kc_L_poke_51 rfl ⟨trivial, trivial⟩ ?_
              refine Run.goto (tgt := 27) d_L_poke_54 (by decide) ?_
              refine Run.blk (gs := [True, True]) (S' := ([some (.ref 0), some (.int (nI p)), some (.int (4 : Int32)), some (.int v), some (.int (((((0 : Int32) + (1 : Int32)) + (1 : Int32)) + (1 : Int32)) + (1 : Int32)))], [.int (4 : Int32), .int (((((0 : Int32) + (1 : Int32)) + (1 : Int32)) + (1 : Int32)) + (1 : Int32))], Ac fp le lp lb il (sbf (upN (upN (upN (upN t (p + 0) (lb8 ((v.toUInt32 >>> (((8 : Int32) * (0 : Int32)).toUInt32 &&& Int32.toUInt32 31)).toInt32))) (p + 1) (lb8 ((v.toUInt32 >>> (((8 : Int32) * ((0 : Int32) + (1 : Int32))).toUInt32 &&& Int32.toUInt32 31)).toInt32))) (p + 2) (lb8 ((v.toUInt32 >>> (((8 : Int32) * (((0 : Int32) + (1 : Int32)) + (1 : Int32))).toUInt32 &&& Int32.toUInt32 31)).toInt32))) (p + 3) (lb8 ((v.toUInt32 >>> (((8 : Int32) * ((((0 : Int32) + (1 : Int32)) + (1 : Int32)) + (1 : Int32))).toUInt32 &&& Int32.toUInt32 31)).toInt32)))) (nI z) bf rf fr mp sc ifp ib ie pw dh rl rb re sy sb rc sg ex)) k_L_poke_27 kc_L_poke_27 rfl ⟨trivial, trivial, trivial⟩ ?_
              refine Run.br (tgt := 57) d_L_poke_30 rfl (by decide) (fun c_7 => ?_) (fun c_7 => ?_)
              · refine Run.blk (gs := [True]) (S' := ([some (.ref 0), some (.int (nI p)), some (.int (4 : Int32)), some (.int v), some (.int (((((0 : Int32) + (1 : Int32)) + (1 : Int32)) + (1 : Int32)) + (1 : Int32)))], [.int (0 : Int32)], Ac fp le lp lb il (sbf (upN (upN (upN (upN t (p + 0) (lb8 ((v.toUInt32 >>> (((8 : Int32) * (0 : Int32)).toUInt32 &&& Int32.toUInt32 31)).toInt32))) (p + 1) (lb8 ((v.toUInt32 >>> (((8 : Int32) * ((0 : Int32) + (1 : Int32))).toUInt32 &&& Int32.toUInt32 31)).toInt32))) (p + 2) (lb8 ((v.toUInt32 >>> (((8 : Int32) * (((0 : Int32) + (1 : Int32)) + (1 : Int32))).toUInt32 &&& Int32.toUInt32 31)).toInt32))) (p + 3) (lb8 ((v.toUInt32 >>> (((8 : Int32) * ((((0 : Int32) + (1 : Int32)) + (1 : Int32)) + (1 : Int32))).toUInt32 &&& Int32.toUInt32 31)).toInt32)))) (nI z) bf rf fr mp sc ifp ib ie pw dh rl rb re sy sb rc sg ex)) k_L_poke_57 kc_L_poke_57 rfl ⟨trivial, trivial⟩ ?_
                refine Run.ret (r := some (.int (0 : Int32))) ⟨d_L_poke_58, _, rfl, rfl⟩ ⟨rfl, ?_⟩
                rw [lb8_sh v _ 0 (by decide), lb8_sh v _ 1 (by decide), lb8_sh v _ 2 (by decide), lb8_sh v _ 3 (by decide)]
                rfl
              · exact absurd c_7 (by decide)
    · have c_2 := zi_f (Classical.not_not.mp c_2)
      exfalso; apply c_2; simp only [i32_64, nI_toInt (show p < 2 ^ 31 by omega), t1, t2, t4]; omega
end P19
end
section
section P20
variable {fp le lp lb il : Int32} {tf bf rf : Nat → Int32} {tz fr mp sc ifp ib ie pw dh rc : Int32} {rl rb re sy sb : Int64} {sg : Nat → A_G} {ex : List va_E}
variable {t b : Nat → Nat} {z n : Nat}
set_option maxRecDepth 100000 in
set_option maxHeartbeats 4000000 in
theorem c_L_protect_A {x y : Int32} (hx : ¬ (0 ≤ x.toInt ∧ x.toInt < 64 ∧ 0 ≤ y.toInt ∧ y.toInt ≤ 7)) : Ct m_L_protect 0 0 [.ref 0, .int x, .int y] (Ac fp le lp lb il tf tz bf rf fr mp sc ifp ib ie pw dh rl rb re sy sb rc sg ex) (vm_is (some (.int (-2 : Int32))) (Ac fp le lp lb il tf tz bf rf fr mp sc ifp ib ie pw dh rl rb re sy sb rc sg ex)) := by
  refine Ct.of ⟨by decide +kernel, rfl⟩ (Nat.le_of_ble_eq_true rfl) (lv := [some (.ref 0), some (.int x), some (.int y), none]) rfl ?_
  refine Run.blk (gs := [True]) (S' := ([some (.ref 0), some (.int x), some (.int y), none], [.int x], Ac fp le lp lb il tf tz bf rf fr mp sc ifp ib ie pw dh rl rb re sy sb rc sg ex)) k_L_protect_0 kc_L_protect_0 rfl ⟨trivial, trivial⟩ ?_
  refine Run.callS (As := [.int x]) (rest := []) v_L_protect_1 (c_L_isPage x) rfl (Nat.le_of_ble_eq_true rfl) rfl (fun r cs' hp => ?_)
  obtain ⟨rfl, rfl⟩ := hp
  show Run _ _ _ _ 4 ([some (.ref 0), some (.int x), some (.int y), none], [.int (if 0 ≤ x.toInt ∧ x.toInt < 64 then 1 else 0)], Ac fp le lp lb il tf tz bf rf fr mp sc ifp ib ie pw dh rl rb re sy sb rc sg ex) _
  refine Run.br (tgt := 17) d_L_protect_4 rfl (by decide) (fun c_1 => ?_) (fun c_1 => ?_)
  · have c_1 := zi_f c_1
    refine Run.blk (gs := [True]) (S' := ([some (.ref 0), some (.int x), some (.int y), none], [.int (-2 : Int32)], Ac fp le lp lb il tf tz bf rf fr mp sc ifp ib ie pw dh rl rb re sy sb rc sg ex)) k_L_protect_17 kc_L_protect_17 rfl ⟨trivial, trivial⟩ ?_
    exact Run.ret (r := some (.int (-2 : Int32))) ⟨d_L_protect_19, _, rfl, rfl⟩ ⟨rfl, rfl⟩
  · have c_1 := zi_t c_1
    refine Run.blk (gs := [True]) (S' := ([some (.ref 0), some (.int x), some (.int y), none], [.int y], Ac fp le lp lb il tf tz bf rf fr mp sc ifp ib ie pw dh rl rb re sy sb rc sg ex)) k_L_protect_7 kc_L_protect_7 rfl ⟨trivial, trivial⟩ ?_
    refine Run.br (tgt := 17) d_L_protect_8 rfl (by decide) (fun c_2 => ?_) (fun c_2 => ?_)
    · refine Run.blk (gs := [True]) (S' := ([some (.ref 0), some (.int x), some (.int y), none], [.int (-2 : Int32)], Ac fp le lp lb il tf tz bf rf fr mp sc ifp ib ie pw dh rl rb re sy sb rc sg ex)) k_L_protect_17 kc_L_protect_17 rfl ⟨trivial, trivial⟩ ?_
      exact Run.ret (r := some (.int (-2 : Int32))) ⟨d_L_protect_19, _, rfl, rfl⟩ ⟨rfl, rfl⟩
    · refine Run.blk (gs := [True, True]) (S' := ([some (.ref 0), some (.int x), some (.int y), none], [.int (7 : Int32), .int y], Ac fp le lp lb il tf tz bf rf fr mp sc ifp ib ie pw dh rl rb re sy sb rc sg ex)) k_L_protect_11 kc_L_protect_11 rfl ⟨trivial, trivial, trivial⟩ ?_
      refine Run.br (tgt := 20) d_L_protect_14 rfl (by decide) (fun c_3 => ?_) (fun c_3 => ?_)
      · exfalso; simp only [← Int32.toInt_inj, Int32.lt_iff_toInt_lt, Int32.le_iff_toInt_le, t0, t1, t2, t4, t64, ti7, ti8, ti900, tim1] at *; omega
      · refine Run.blk (gs := [True]) (S' := ([some (.ref 0), some (.int x), some (.int y), none], [.int (-2 : Int32)], Ac fp le lp lb il tf tz bf rf fr mp sc ifp ib ie pw dh rl rb re sy sb rc sg ex)) k_L_protect_17 kc_L_protect_17 rfl ⟨trivial, trivial⟩ ?_
        exact Run.ret (r := some (.int (-2 : Int32))) ⟨d_L_protect_19, _, rfl, rfl⟩ ⟨rfl, rfl⟩
set_option maxRecDepth 100000 in
set_option maxHeartbeats 4000000 in
theorem c_L_protect_B {p : Nat} {x y : Int32} (hx : x = nI p) (hp : p < 64) (hy : 0 ≤ y.toInt ∧ y.toInt ≤ 7) (hr : rf p = -1) : Ct m_L_protect 0 0 [.ref 0, .int x, .int y] (Ac fp le lp lb il tf tz bf rf fr mp sc ifp ib ie pw dh rl rb re sy sb rc sg ex) (vm_is (some (.int (-3 : Int32))) (Ac fp le lp lb il tf tz bf rf fr mp sc ifp ib ie pw dh rl rb re sy sb rc sg ex)) := by
  subst hx
  refine Ct.of ⟨by decide +kernel, rfl⟩ (Nat.le_of_ble_eq_true rfl) (lv := [some (.ref 0), some (.int (nI p)), some (.int y), none]) rfl ?_
  refine Run.blk (gs := [True]) (S' := ([some (.ref 0), some (.int (nI p)), some (.int y), none], [.int (nI p)], Ac fp le lp lb il tf tz bf rf fr mp sc ifp ib ie pw dh rl rb re sy sb rc sg ex)) k_L_protect_0 kc_L_protect_0 rfl ⟨trivial, trivial⟩ ?_
  refine Run.callS (As := [.int (nI p)]) (rest := []) v_L_protect_1 (c_L_isPage (nI p)) rfl (Nat.le_of_ble_eq_true rfl) rfl (fun r cs' hp => ?_)
  obtain ⟨rfl, rfl⟩ := hp
  show Run _ _ _ _ 4 ([some (.ref 0), some (.int (nI p)), some (.int y), none], [.int (if 0 ≤ (nI p).toInt ∧ (nI p).toInt < 64 then 1 else 0)], Ac fp le lp lb il tf tz bf rf fr mp sc ifp ib ie pw dh rl rb re sy sb rc sg ex) _
  refine Run.br (tgt := 17) d_L_protect_4 rfl (by decide) (fun c_1 => ?_) (fun c_1 => ?_)
  · have c_1 := zi_f c_1
    exfalso; apply c_1; rw [nI_toInt (show p < 2 ^ 31 by omega)]; omega
  · have c_1 := zi_t c_1
    refine Run.blk (gs := [True]) (S' := ([some (.ref 0), some (.int (nI p)), some (.int y), none], [.int y], Ac fp le lp lb il tf tz bf rf fr mp sc ifp ib ie pw dh rl rb re sy sb rc sg ex)) k_L_protect_7 kc_L_protect_7 rfl ⟨trivial, trivial⟩ ?_
    refine Run.br (tgt := 17) d_L_protect_8 rfl (by decide) (fun c_2 => ?_) (fun c_2 => ?_)
    · exfalso; simp only [← Int32.toInt_inj, Int32.lt_iff_toInt_lt, Int32.le_iff_toInt_le, t0, t1, t2, t4, t64, ti7, ti8, ti900, tim1] at c_2; omega
    · refine Run.blk (gs := [True, True]) (S' := ([some (.ref 0), some (.int (nI p)), some (.int y), none], [.int (7 : Int32), .int y], Ac fp le lp lb il tf tz bf rf fr mp sc ifp ib ie pw dh rl rb re sy sb rc sg ex)) k_L_protect_11 kc_L_protect_11 rfl ⟨trivial, trivial, trivial⟩ ?_
      refine Run.br (tgt := 20) d_L_protect_14 rfl (by decide) (fun c_3 => ?_) (fun c_3 => ?_)
      · refine Run.blk (gs := [True, True, True]) (S' := ([some (.ref 0), some (.int (nI p)), some (.int y), none], [.int (nI p), .ref 3], Ac fp le lp lb il tf tz bf rf fr mp sc ifp ib ie pw dh rl rb re sy sb rc sg ex)) k_L_protect_20 kc_L_protect_20 rfl ⟨trivial, trivial, trivial, trivial⟩ ?_
        refine Run.callV (b := 3) (As := [.int (nI p)]) (rest := []) v_L_protect_25 c_P_rightsOf rfl (Nat.le_of_ble_eq_true rfl) rfl rfl rfl rfl (fun r cs' hp => ?_)
        obtain ⟨rfl, rfl⟩ := hp
        show Run _ _ _ _ 28 ([some (.ref 0), some (.int (nI p)), some (.int y), none], [.int (rO rf (nI p))], Ac fp le lp lb il tf tz bf rf fr mp sc ifp ib ie pw dh rl rb re sy sb rc sg ex) _
        refine Run.blk (gs := [True, True, True]) (S' := ([some (.ref 0), some (.int (nI p)), some (.int y), some (.int (rO rf (nI p)))], [.int (-1 : Int32), .int (rO rf (nI p))], Ac fp le lp lb il tf tz bf rf fr mp sc ifp ib ie pw dh rl rb re sy sb rc sg ex)) k_L_protect_28 kc_L_protect_28 rfl ⟨trivial, trivial, trivial, trivial⟩ ?_
        refine Run.br (tgt := 37) d_L_protect_31 rfl (by decide) (fun c_4 => ?_) (fun c_4 => ?_)
        · rw [rO_in hp] at c_4
          exact absurd hr c_4
        · have c_4 := Classical.not_not.mp c_4
          rw [rO_in hp] at c_4
          refine Run.blk (gs := [True]) (S' := ([some (.ref 0), some (.int (nI p)), some (.int y), some (.int (rO rf (nI p)))], [.int (-3 : Int32)], Ac fp le lp lb il tf tz bf rf fr mp sc ifp ib ie pw dh rl rb re sy sb rc sg ex)) k_L_protect_34 kc_L_protect_34 rfl ⟨trivial, trivial⟩ ?_
          exact Run.ret (r := some (.int (-3 : Int32))) ⟨d_L_protect_36, _, rfl, rfl⟩ ⟨rfl, rfl⟩
      · exfalso; simp only [← Int32.toInt_inj, Int32.lt_iff_toInt_lt, Int32.le_iff_toInt_le, t0, t1, t2, t4, t64, ti7, ti8, ti900, tim1] at c_3; omega
set_option maxRecDepth 100000 in
set_option maxHeartbeats 4000000 in
theorem c_L_protect_C {p : Nat} {x y : Int32} (hx : x = nI p) (hp : p < 64) (hy : 0 ≤ y.toInt ∧ y.toInt ≤ 7) (hr : ¬ rf p = -1) : Ct m_L_protect 0 0 [.ref 0, .int x, .int y] (Ac fp le lp lb il tf tz bf rf fr mp sc ifp ib ie pw dh rl rb re sy sb rc sg ex) (vm_is (some (.int (rf p))) (Ac fp le lp lb il tf tz bf (upd rf p y) fr mp sc ifp ib ie pw dh rl rb re sy sb rc sg ex)) := by
  subst hx
  refine Ct.of ⟨by decide +kernel, rfl⟩ (Nat.le_of_ble_eq_true rfl) (lv := [some (.ref 0), some (.int (nI p)), some (.int y), none]) rfl ?_
  refine Run.blk (gs := [True]) (S' := ([some (.ref 0), some (.int (nI p)), some (.int y), none], [.int (nI p)], Ac fp le lp lb il tf tz bf rf fr mp sc ifp ib ie pw dh rl rb re sy sb rc sg ex)) k_L_protect_0 kc_L_protect_0 rfl ⟨trivial, trivial⟩ ?_
  refine Run.callS (As := [.int (nI p)]) (rest := []) v_L_protect_1 (c_L_isPage (nI p)) rfl (Nat.le_of_ble_eq_true rfl) rfl (fun r cs' hp => ?_)
  obtain ⟨rfl, rfl⟩ := hp
  show Run _ _ _ _ 4 ([some (.ref 0), some (.int (nI p)), some (.int y), none], [.int (if 0 ≤ (nI p).toInt ∧ (nI p).toInt < 64 then 1 else 0)], Ac fp le lp lb il tf tz bf rf fr mp sc ifp ib ie pw dh rl rb re sy sb rc sg ex) _
  refine Run.br (tgt := 17) d_L_protect_4 rfl (by decide) (fun c_1 => ?_) (fun c_1 => ?_)
  · have c_1 := zi_f c_1
    exfalso; apply c_1; rw [nI_toInt (show p < 2 ^ 31 by omega)]; omega
  · have c_1 := zi_t c_1
    refine Run.blk (gs := [True]) (S' := ([some (.ref 0), some (.int (nI p)), some (.int y), none], [.int y], Ac fp le lp lb il tf tz bf rf fr mp sc ifp ib ie pw dh rl rb re sy sb rc sg ex)) k_L_protect_7 kc_L_protect_7 rfl ⟨trivial, trivial⟩ ?_
    refine Run.br (tgt := 17) d_L_protect_8 rfl (by decide) (fun c_2 => ?_) (fun c_2 => ?_)
    · exfalso; simp only [← Int32.toInt_inj, Int32.lt_iff_toInt_lt, Int32.le_iff_toInt_le, t0, t1, t2, t4, t64, ti7, ti8, ti900, tim1] at c_2; omega
    · refine Run.blk (gs := [True, True]) (S' := ([some (.ref 0), some (.int (nI p)), some (.int y), none], [.int (7 : Int32), .int y], Ac fp le lp lb il tf tz bf rf fr mp sc ifp ib ie pw dh rl rb re sy sb rc sg ex)) k_L_protect_11 kc_L_protect_11 rfl ⟨trivial, trivial, trivial⟩ ?_
      refine Run.br (tgt := 20) d_L_protect_14 rfl (by decide) (fun c_3 => ?_) (fun c_3 => ?_)
      · refine Run.blk (gs := [True, True, True]) (S' := ([some (.ref 0), some (.int (nI p)), some (.int y), none], [.int (nI p), .ref 3], Ac fp le lp lb il tf tz bf rf fr mp sc ifp ib ie pw dh rl rb re sy sb rc sg ex)) k_L_protect_20 kc_L_protect_20 rfl ⟨trivial, trivial, trivial, trivial⟩ ?_
        refine Run.callV (b := 3) (As := [.int (nI p)]) (rest := []) v_L_protect_25 c_P_rightsOf rfl (Nat.le_of_ble_eq_true rfl) rfl rfl rfl rfl (fun r cs' hp => ?_)
        obtain ⟨rfl, rfl⟩ := hp
        show Run _ _ _ _ 28 ([some (.ref 0), some (.int (nI p)), some (.int y), none], [.int (rO rf (nI p))], Ac fp le lp lb il tf tz bf rf fr mp sc ifp ib ie pw dh rl rb re sy sb rc sg ex) _
        refine Run.blk (gs := [True, True, True]) (S' := ([some (.ref 0), some (.int (nI p)), some (.int y), some (.int (rO rf (nI p)))], [.int (-1 : Int32), .int (rO rf (nI p))], Ac fp le lp lb il tf tz bf rf fr mp sc ifp ib ie pw dh rl rb re sy sb rc sg ex)) k_L_protect_28 kc_L_protect_28 rfl ⟨trivial, trivial, trivial, trivial⟩ ?_
        refine Run.br (tgt := 37) d_L_protect_31 rfl (by decide) (fun c_4 => ?_) (fun c_4 => ?_)
        · rw [rO_in hp] at c_4
          refine Run.blk (gs := [True, True, True, True]) (S' := ([some (.ref 0), some (.int (nI p)), some (.int y), some (.int (rO rf (nI p)))], [.int y, .int (nI p), .ref 3], Ac fp le lp lb il tf tz bf rf fr mp sc ifp ib ie pw dh rl rb re sy sb rc sg ex)) k_L_protect_37 kc_L_protect_37 rfl ⟨trivial, trivial, trivial, trivial, trivial⟩ ?_
          refine Run.callV (b := 3) (As := [.int (nI p), .int y]) (rest := []) v_L_protect_43 (c_P_setRights (p := p) rfl hp) rfl (Nat.le_of_ble_eq_true rfl) rfl rfl rfl rfl (fun r cs' hp => ?_)
          obtain ⟨rfl, rfl⟩ := hp
          show Run _ _ _ _ 46 ([some (.ref 0), some (.int (nI p)), some (.int y), some (.int (rO rf (nI p)))], [], Ac fp le lp lb il tf tz bf (upd rf p y) fr mp sc ifp ib ie pw dh rl rb re sy sb rc sg ex) _
          refine Run.blk (gs := [True]) (S' := ([some (.ref 0), some (.int (nI p)), some (.int y), some (.int (rO rf (nI p)))], [.int (rO rf (nI p))], Ac fp le lp lb il tf tz bf (upd rf p y) fr mp sc ifp ib ie pw dh rl rb re sy sb rc sg ex)) k_L_protect_46 kc_L_protect_46 rfl ⟨trivial, trivial⟩ ?_
          exact Run.ret (r := some (.int (rO rf (nI p)))) ⟨d_L_protect_47, _, rfl, rfl⟩ ⟨by rw [rO_in hp], rfl⟩
        · have c_4 := Classical.not_not.mp c_4
          rw [rO_in hp] at c_4
          exact absurd c_4 hr
      · exfalso; simp only [← Int32.toInt_inj, Int32.lt_iff_toInt_lt, Int32.le_iff_toInt_le, t0, t1, t2, t4, t64, ti7, ti8, ti900, tim1] at c_3; omega
set_option maxRecDepth 100000 in
set_option maxHeartbeats 4000000 in
theorem c_L_rights_A {x : Int32} (hx : ¬ (0 ≤ x.toInt ∧ x.toInt < 64)) : Ct m_L_rights 0 0 [.ref 0, .int x] (Ac fp le lp lb il tf tz bf rf fr mp sc ifp ib ie pw dh rl rb re sy sb rc sg ex) (vm_is (some (.int (-2 : Int32))) (Ac fp le lp lb il tf tz bf rf fr mp sc ifp ib ie pw dh rl rb re sy sb rc sg ex)) := by
  refine Ct.of ⟨by decide +kernel, rfl⟩ (Nat.le_of_ble_eq_true rfl) (lv := [some (.ref 0), some (.int x)]) rfl ?_
  refine Run.blk (gs := [True]) (S' := ([some (.ref 0), some (.int x)], [.int x], Ac fp le lp lb il tf tz bf rf fr mp sc ifp ib ie pw dh rl rb re sy sb rc sg ex)) k_L_rights_0 kc_L_rights_0 rfl ⟨trivial, trivial⟩ ?_
  refine Run.callS (As := [.int x]) (rest := []) v_L_rights_1 (c_L_isPage x) rfl (Nat.le_of_ble_eq_true rfl) rfl (fun r cs' hp => ?_)
  obtain ⟨rfl, rfl⟩ := hp
  show Run _ _ _ _ 4 ([some (.ref 0), some (.int x)], [.int (if 0 ≤ x.toInt ∧ x.toInt < 64 then 1 else 0)], Ac fp le lp lb il tf tz bf rf fr mp sc ifp ib ie pw dh rl rb re sy sb rc sg ex) _
  refine Run.br (tgt := 18) d_L_rights_4 rfl (by decide) (fun c_1 => ?_) (fun c_1 => ?_)
  · have c_1 := zi_f c_1
    refine Run.blk (gs := [True]) (S' := ([some (.ref 0), some (.int x)], [.int (-2 : Int32)], Ac fp le lp lb il tf tz bf rf fr mp sc ifp ib ie pw dh rl rb re sy sb rc sg ex)) k_L_rights_18 kc_L_rights_18 rfl ⟨trivial, trivial⟩ ?_
    exact Run.ret (r := some (.int (-2 : Int32))) ⟨d_L_rights_20, _, rfl, rfl⟩ ⟨rfl, rfl⟩
  · have c_1 := zi_t c_1
    exact absurd c_1 hx
set_option maxRecDepth 100000 in
set_option maxHeartbeats 4000000 in
theorem c_L_rights_B {p : Nat} {x : Int32} (hx : x = nI p) (hp : p < 64) : Ct m_L_rights 0 0 [.ref 0, .int x] (Ac fp le lp lb il tf tz bf rf fr mp sc ifp ib ie pw dh rl rb re sy sb rc sg ex) (vm_is (some (.int (rf p))) (Ac fp le lp lb il tf tz bf rf fr mp sc ifp ib ie pw dh rl rb re sy sb rc sg ex)) := by
  subst hx
  refine Ct.of ⟨by decide +kernel, rfl⟩ (Nat.le_of_ble_eq_true rfl) (lv := [some (.ref 0), some (.int (nI p))]) rfl ?_
  refine Run.blk (gs := [True]) (S' := ([some (.ref 0), some (.int (nI p))], [.int (nI p)], Ac fp le lp lb il tf tz bf rf fr mp sc ifp ib ie pw dh rl rb re sy sb rc sg ex)) k_L_rights_0 kc_L_rights_0 rfl ⟨trivial, trivial⟩ ?_
  refine Run.callS (As := [.int (nI p)]) (rest := []) v_L_rights_1 (c_L_isPage (nI p)) rfl (Nat.le_of_ble_eq_true rfl) rfl (fun r cs' hp => ?_)
  obtain ⟨rfl, rfl⟩ := hp
  show Run _ _ _ _ 4 ([some (.ref 0), some (.int (nI p))], [.int (if 0 ≤ (nI p).toInt ∧ (nI p).toInt < 64 then 1 else 0)], Ac fp le lp lb il tf tz bf rf fr mp sc ifp ib ie pw dh rl rb re sy sb rc sg ex) _
  refine Run.br (tgt := 18) d_L_rights_4 rfl (by decide) (fun c_1 => ?_) (fun c_1 => ?_)
  · have c_1 := zi_f c_1
    exfalso; apply c_1; rw [nI_toInt (show p < 2 ^ 31 by omega)]; omega
  · have c_1 := zi_t c_1
    refine Run.blk (gs := [True, True, True]) (S' := ([some (.ref 0), some (.int (nI p))], [.int (nI p), .ref 3], Ac fp le lp lb il tf tz bf rf fr mp sc ifp ib ie pw dh rl rb re sy sb rc sg ex)) k_L_rights_7 kc_L_rights_7 rfl ⟨trivial, trivial, trivial, trivial⟩ ?_
    refine Run.callV (b := 3) (As := [.int (nI p)]) (rest := []) v_L_rights_12 c_P_rightsOf rfl (Nat.le_of_ble_eq_true rfl) rfl rfl rfl rfl (fun r cs' hp => ?_)
    obtain ⟨rfl, rfl⟩ := hp
    show Run _ _ _ _ 15 ([some (.ref 0), some (.int (nI p))], [.int (rO rf (nI p))], Ac fp le lp lb il tf tz bf rf fr mp sc ifp ib ie pw dh rl rb re sy sb rc sg ex) _
    refine Run.goto (tgt := 20) d_L_rights_15 (by decide) ?_
    exact Run.ret (r := some (.int (rO rf (nI p)))) ⟨d_L_rights_20, _, rfl, rfl⟩ ⟨by rw [rO_in hp], rfl⟩
set_option maxRecDepth 100000 in
set_option maxHeartbeats 4000000 in
theorem c_L_unmap_A {x y : Int32} (hx : ¬ (1 ≤ y.toInt ∧ 0 ≤ x.toInt ∧ x.toInt + y.toInt ≤ 64)) : Ct m_L_unmap 0 0 [.ref 0, .int x, .int y] (Ac fp le lp lb il tf tz bf rf fr mp sc ifp ib ie pw dh rl rb re sy sb rc sg ex) (vm_is (some (.int (-2 : Int32))) (Ac fp le lp lb il tf tz bf rf fr mp sc ifp ib ie pw dh rl rb re sy sb rc sg ex)) := by
  refine Ct.of ⟨by decide +kernel, rfl⟩ (Nat.le_of_ble_eq_true rfl) (lv := [some (.ref 0), some (.int x), some (.int y), none]) rfl ?_
  refine Run.blk (gs := [True, True]) (S' := ([some (.ref 0), some (.int x), some (.int y), none], [.int (1 : Int32), .int y], Ac fp le lp lb il tf tz bf rf fr mp sc ifp ib ie pw dh rl rb re sy sb rc sg ex)) k_L_unmap_0 kc_L_unmap_0 rfl ⟨trivial, trivial, trivial⟩ ?_
  refine Run.br (tgt := 13) d_L_unmap_2 rfl (by decide) (fun c_1 => ?_) (fun c_1 => ?_)
  · refine Run.blk (gs := [True]) (S' := ([some (.ref 0), some (.int x), some (.int y), none], [.int (-2 : Int32)], Ac fp le lp lb il tf tz bf rf fr mp sc ifp ib ie pw dh rl rb re sy sb rc sg ex)) k_L_unmap_13 kc_L_unmap_13 rfl ⟨trivial, trivial⟩ ?_
    exact Run.ret (r := some (.int (-2 : Int32))) ⟨d_L_unmap_15, _, rfl, rfl⟩ ⟨rfl, rfl⟩
  · refine Run.blk (gs := [True, True]) (S' := ([some (.ref 0), some (.int x), some (.int y), none], [.int y, .int x], Ac fp le lp lb il tf tz bf rf fr mp sc ifp ib ie pw dh rl rb re sy sb rc sg ex)) k_L_unmap_5 kc_L_unmap_5 rfl ⟨trivial, trivial, trivial⟩ ?_
    refine Run.callS (As := [.int x, .int y]) (rest := []) v_L_unmap_7 (c_L_arePages x y) rfl (Nat.le_of_ble_eq_true rfl) rfl (fun r cs' hp => ?_)
    obtain ⟨rfl, rfl⟩ := hp
    show Run _ _ _ _ 10 ([some (.ref 0), some (.int x), some (.int y), none], [.int (if y.toInt = 0 ∨ (0 < y.toInt ∧ y.toInt ≤ 64 ∧ 0 ≤ x.toInt ∧ x.toInt ≤ 64 - y.toInt) then 1 else 0)], Ac fp le lp lb il tf tz bf rf fr mp sc ifp ib ie pw dh rl rb re sy sb rc sg ex) _
    refine Run.br (tgt := 16) d_L_unmap_10 rfl (by decide) (fun c_2 => ?_) (fun c_2 => ?_)
    · have c_2 := zi_t c_2
      exfalso; simp only [← Int32.toInt_inj, Int32.lt_iff_toInt_lt, Int32.le_iff_toInt_le, t0, t1, t2, t4, t64, ti7, ti8, ti900, tim1] at *; omega
    · have c_2 := zi_f (Classical.not_not.mp c_2)
      refine Run.blk (gs := [True]) (S' := ([some (.ref 0), some (.int x), some (.int y), none], [.int (-2 : Int32)], Ac fp le lp lb il tf tz bf rf fr mp sc ifp ib ie pw dh rl rb re sy sb rc sg ex)) k_L_unmap_13 kc_L_unmap_13 rfl ⟨trivial, trivial⟩ ?_
      exact Run.ret (r := some (.int (-2 : Int32))) ⟨d_L_unmap_15, _, rfl, rfl⟩ ⟨rfl, rfl⟩
theorem sub_sub_self (m a : Int32) : m - (m - a) = a := by
  apply Int32.toBitVec_inj.mp
  rw [Int32.toBitVec_sub, Int32.toBitVec_sub]
  apply BitVec.eq_of_toNat_eq
  rw [BitVec.toNat_sub, BitVec.toNat_sub]
  have h1 := m.toBitVec.isLt
  have h2 := a.toBitVec.isLt
  omega
set_option maxRecDepth 100000 in
set_option maxHeartbeats 4000000 in
theorem c_L_unmap_B {p k : Nat} {x y : Int32} (hx : x = nI p) (hy : y = nI k) (h1 : 1 ≤ k) (h2 : p + k ≤ 64) : Ct m_L_unmap 0 0 [.ref 0, .int x, .int y] (Ac fp le lp lb il tf tz bf rf fr mp sc ifp ib ie pw dh rl rb re sy sb rc sg ex) (vm_is (some (.int (nI (cntM rf p k)))) (Ac fp le lp lb il tf tz bf (fillI rf p k (-1)) fr (mp - nI (cntM rf p k)) sc ifp ib ie pw dh rl rb re sy sb rc sg ex)) := by
  subst hx
  subst hy
  refine Ct.of ⟨by decide +kernel, rfl⟩ (Nat.le_of_ble_eq_true rfl) (lv := [some (.ref 0), some (.int (nI p)), some (.int (nI k)), none]) rfl ?_
  refine Run.blk (gs := [True, True]) (S' := ([some (.ref 0), some (.int (nI p)), some (.int (nI k)), none], [.int (1 : Int32), .int (nI k)], Ac fp le lp lb il tf tz bf rf fr mp sc ifp ib ie pw dh rl rb re sy sb rc sg ex)) k_L_unmap_0 kc_L_unmap_0 rfl ⟨trivial, trivial, trivial⟩ ?_
  refine Run.br (tgt := 13) d_L_unmap_2 rfl (by decide) (fun c_1 => ?_) (fun c_1 => ?_)
  · exfalso; simp only [← Int32.toInt_inj, Int32.lt_iff_toInt_lt, Int32.le_iff_toInt_le, t0, t1, t2, t4, t64, ti7, ti8, ti900, tim1, nI_toInt (show k < 2 ^ 31 by omega)] at c_1; omega
  · refine Run.blk (gs := [True, True]) (S' := ([some (.ref 0), some (.int (nI p)), some (.int (nI k)), none], [.int (nI k), .int (nI p)], Ac fp le lp lb il tf tz bf rf fr mp sc ifp ib ie pw dh rl rb re sy sb rc sg ex)) k_L_unmap_5 kc_L_unmap_5 rfl ⟨trivial, trivial, trivial⟩ ?_
    refine Run.callS (As := [.int (nI p), .int (nI k)]) (rest := []) v_L_unmap_7 (c_L_arePages (nI p) (nI k)) rfl (Nat.le_of_ble_eq_true rfl) rfl (fun r cs' hp => ?_)
    obtain ⟨rfl, rfl⟩ := hp
    show Run _ _ _ _ 10 ([some (.ref 0), some (.int (nI p)), some (.int (nI k)), none], [.int (if (nI k).toInt = 0 ∨ (0 < (nI k).toInt ∧ (nI k).toInt ≤ 64 ∧ 0 ≤ (nI p).toInt ∧ (nI p).toInt ≤ 64 - (nI k).toInt) then 1 else 0)], Ac fp le lp lb il tf tz bf rf fr mp sc ifp ib ie pw dh rl rb re sy sb rc sg ex) _
    refine Run.br (tgt := 16) d_L_unmap_10 rfl (by decide) (fun c_2 => ?_) (fun c_2 => ?_)
    · have c_2 := zi_t c_2
      refine Run.blk (gs := [True, True]) (S' := ([some (.ref 0), some (.int (nI p)), some (.int (nI k)), none], [.ref 3], Ac fp le lp lb il tf tz bf rf fr mp sc ifp ib ie pw dh rl rb re sy sb rc sg ex)) k_L_unmap_16 kc_L_unmap_16 rfl ⟨trivial, trivial, trivial⟩ ?_
      refine Run.callV (b := 3) (As := []) (rest := []) v_L_unmap_20 c_P_mappedPages rfl (Nat.le_of_ble_eq_true rfl) rfl rfl rfl rfl (fun r cs' hp => ?_)
      obtain ⟨rfl, rfl⟩ := hp
      show Run _ _ _ _ 23 ([some (.ref 0), some (.int (nI p)), some (.int (nI k)), none], [.int mp], Ac fp le lp lb il tf tz bf rf fr mp sc ifp ib ie pw dh rl rb re sy sb rc sg ex) _
      refine Run.blk (gs := [True, True, True, True, True, True, True, True, True]) (S' := ([some (.ref 0), some (.int (nI p)), some (.int (nI k)), some (.int mp)], [.int (((nI p) + (nI k)) - (1 : Int32)), .int (nI p), .ref 3], Ac fp le lp lb il tf tz bf rf fr mp sc ifp ib ie pw dh rl rb re sy sb rc sg ex)) k_L_unmap_23 kc_L_unmap_23 rfl ⟨trivial, trivial, trivial, trivial, trivial, trivial, trivial, trivial, trivial, trivial⟩ ?_
      refine Run.callV (b := 3) (As := [.int (nI p), .int (((nI p) + (nI k)) - (1 : Int32))]) (rest := []) v_L_unmap_34 (c_P_releaseAll (a := p) (c := p + k) rfl (by rw [i32_sub (by rw [nI_add, nI_toInt (by omega)]; omega) (by rw [nI_add, nI_toInt (by omega)]; omega) (by decide) (by decide), nI_add, nI_toInt (by omega), t1]) (by omega) (by omega)) rfl (Nat.le_of_ble_eq_true rfl) rfl rfl rfl rfl (fun r cs' hp => ?_)
      obtain ⟨rfl, rfl⟩ := hp
      show Run _ _ _ _ 37 ([some (.ref 0), some (.int (nI p)), some (.int (nI k)), some (.int mp)], [], Ac fp le lp lb il tf tz bf (fillI rf p (p + k - p) (-1)) fr (mp - nI (cntM rf p (p + k - p))) sc ifp ib ie pw dh rl rb re sy sb rc sg ex) _
      refine Run.blk (gs := [True, True, True]) (S' := ([some (.ref 0), some (.int (nI p)), some (.int (nI k)), some (.int mp)], [.ref 3, .int mp], Ac fp le lp lb il tf tz bf (fillI rf p (p + k - p) (-1)) fr (mp - nI (cntM rf p (p + k - p))) sc ifp ib ie pw dh rl rb re sy sb rc sg ex)) k_L_unmap_37 kc_L_unmap_37 rfl ⟨trivial, trivial, trivial, trivial⟩ ?_
      refine Run.callV (b := 3) (As := []) (rest := [.int mp]) v_L_unmap_42 c_P_mappedPages rfl (Nat.le_of_ble_eq_true rfl) rfl rfl rfl rfl (fun r cs' hp => ?_)
      obtain ⟨rfl, rfl⟩ := hp
      show Run _ _ _ _ 45 ([some (.ref 0), some (.int (nI p)), some (.int (nI k)), some (.int mp)], [.int (mp - nI (cntM rf p (p + k - p))), .int mp], Ac fp le lp lb il tf tz bf (fillI rf p (p + k - p) (-1)) fr (mp - nI (cntM rf p (p + k - p))) sc ifp ib ie pw dh rl rb re sy sb rc sg ex) _
      refine Run.blk (gs := [True]) (S' := ([some (.ref 0), some (.int (nI p)), some (.int (nI k)), some (.int mp)], [.int (mp - (mp - nI (cntM rf p (p + k - p))))], Ac fp le lp lb il tf tz bf (fillI rf p (p + k - p) (-1)) fr (mp - nI (cntM rf p (p + k - p))) sc ifp ib ie pw dh rl rb re sy sb rc sg ex)) k_L_unmap_45 kc_L_unmap_45 rfl ⟨trivial, trivial⟩ ?_
      have e9 : p + k - p = k := by omega
      rw [e9]
      exact Run.ret (r := some (.int (mp - (mp - nI (cntM rf p k))))) ⟨d_L_unmap_46, _, rfl, rfl⟩ ⟨by rw [sub_sub_self], rfl⟩
    · have c_2 := zi_f (Classical.not_not.mp c_2)
      exfalso; apply c_2; rw [nI_toInt (show p < 2 ^ 31 by omega), nI_toInt (show k < 2 ^ 31 by omega)]; omega
set_option maxRecDepth 100000 in
set_option maxHeartbeats 4000000 in
theorem c_L_told_0  : Ct m_L_told 0 0 [.ref 0, .int (0 : Int32)] (Ac fp le lp lb il tf tz bf rf fr mp sc ifp ib ie pw dh rl rb re sy sb rc sg ex) (vm_is (some (.int fp)) (Ac fp le lp lb il tf tz bf rf fr mp sc ifp ib ie pw dh rl rb re sy sb rc sg ex)) := by
  refine Ct.of ⟨by decide +kernel, rfl⟩ (Nat.le_of_ble_eq_true rfl) (lv := [some (.ref 0), some (.int (0 : Int32))]) rfl ?_
  refine Run.blk (gs := [True]) (S' := ([some (.ref 0), some (.int (0 : Int32))], [.int (0 : Int32)], Ac fp le lp lb il tf tz bf rf fr mp sc ifp ib ie pw dh rl rb re sy sb rc sg ex)) k_L_told_0 kc_L_told_0 rfl ⟨trivial, trivial⟩ ?_
  refine Run.tsIn (tgt := 32) (off := 31) d_L_told_1 (by decide) (by decide) (by decide) (by decide) ?_
  refine Run.blk (gs := [True, True]) (S' := ([some (.ref 0), some (.int (0 : Int32))], [.int fp], Ac fp le lp lb il tf tz bf rf fr mp sc ifp ib ie pw dh rl rb re sy sb rc sg ex)) k_L_told_32 kc_L_told_32 rfl ⟨trivial, trivial, trivial⟩ ?_
  exact Run.ret (r := some (.int fp)) ⟨d_L_told_36, _, rfl, rfl⟩ ⟨rfl, rfl⟩
set_option maxRecDepth 100000 in
set_option maxHeartbeats 4000000 in
theorem c_L_told_1  : Ct m_L_told 0 0 [.ref 0, .int (1 : Int32)] (Ac fp le lp lb il tf tz bf rf fr mp sc ifp ib ie pw dh rl rb re sy sb rc sg ex) (vm_is (some (.int le)) (Ac fp le lp lb il tf tz bf rf fr mp sc ifp ib ie pw dh rl rb re sy sb rc sg ex)) := by
  refine Ct.of ⟨by decide +kernel, rfl⟩ (Nat.le_of_ble_eq_true rfl) (lv := [some (.ref 0), some (.int (1 : Int32))]) rfl ?_
  refine Run.blk (gs := [True]) (S' := ([some (.ref 0), some (.int (1 : Int32))], [.int (1 : Int32)], Ac fp le lp lb il tf tz bf rf fr mp sc ifp ib ie pw dh rl rb re sy sb rc sg ex)) k_L_told_0 kc_L_told_0 rfl ⟨trivial, trivial⟩ ?_
  refine Run.tsIn (tgt := 37) (off := 36) d_L_told_1 (by decide) (by decide) (by decide) (by decide) ?_
  refine Run.blk (gs := [True, True]) (S' := ([some (.ref 0), some (.int (1 : Int32))], [.int le], Ac fp le lp lb il tf tz bf rf fr mp sc ifp ib ie pw dh rl rb re sy sb rc sg ex)) k_L_told_37 kc_L_told_37 rfl ⟨trivial, trivial, trivial⟩ ?_
  exact Run.ret (r := some (.int le)) ⟨d_L_told_41, _, rfl, rfl⟩ ⟨rfl, rfl⟩
set_option maxRecDepth 100000 in
set_option maxHeartbeats 4000000 in
theorem c_L_told_2  : Ct m_L_told 0 0 [.ref 0, .int (2 : Int32)] (Ac fp le lp lb il tf tz bf rf fr mp sc ifp ib ie pw dh rl rb re sy sb rc sg ex) (vm_is (some (.int lp)) (Ac fp le lp lb il tf tz bf rf fr mp sc ifp ib ie pw dh rl rb re sy sb rc sg ex)) := by
  refine Ct.of ⟨by decide +kernel, rfl⟩ (Nat.le_of_ble_eq_true rfl) (lv := [some (.ref 0), some (.int (2 : Int32))]) rfl ?_
  refine Run.blk (gs := [True]) (S' := ([some (.ref 0), some (.int (2 : Int32))], [.int (2 : Int32)], Ac fp le lp lb il tf tz bf rf fr mp sc ifp ib ie pw dh rl rb re sy sb rc sg ex)) k_L_told_0 kc_L_told_0 rfl ⟨trivial, trivial⟩ ?_
  refine Run.tsIn (tgt := 42) (off := 41) d_L_told_1 (by decide) (by decide) (by decide) (by decide) ?_
  refine Run.blk (gs := [True, True]) (S' := ([some (.ref 0), some (.int (2 : Int32))], [.int lp], Ac fp le lp lb il tf tz bf rf fr mp sc ifp ib ie pw dh rl rb re sy sb rc sg ex)) k_L_told_42 kc_L_told_42 rfl ⟨trivial, trivial, trivial⟩ ?_
  exact Run.ret (r := some (.int lp)) ⟨d_L_told_46, _, rfl, rfl⟩ ⟨rfl, rfl⟩
set_option maxRecDepth 100000 in
set_option maxHeartbeats 4000000 in
theorem c_L_told_3  : Ct m_L_told 0 0 [.ref 0, .int (3 : Int32)] (Ac fp le lp lb il tf tz bf rf fr mp sc ifp ib ie pw dh rl rb re sy sb rc sg ex) (vm_is (some (.int lb)) (Ac fp le lp lb il tf tz bf rf fr mp sc ifp ib ie pw dh rl rb re sy sb rc sg ex)) := by
  refine Ct.of ⟨by decide +kernel, rfl⟩ (Nat.le_of_ble_eq_true rfl) (lv := [some (.ref 0), some (.int (3 : Int32))]) rfl ?_
  refine Run.blk (gs := [True]) (S' := ([some (.ref 0), some (.int (3 : Int32))], [.int (3 : Int32)], Ac fp le lp lb il tf tz bf rf fr mp sc ifp ib ie pw dh rl rb re sy sb rc sg ex)) k_L_told_0 kc_L_told_0 rfl ⟨trivial, trivial⟩ ?_
  refine Run.tsIn (tgt := 47) (off := 46) d_L_told_1 (by decide) (by decide) (by decide) (by decide) ?_
  refine Run.blk (gs := [True, True]) (S' := ([some (.ref 0), some (.int (3 : Int32))], [.int lb], Ac fp le lp lb il tf tz bf rf fr mp sc ifp ib ie pw dh rl rb re sy sb rc sg ex)) k_L_told_47 kc_L_told_47 rfl ⟨trivial, trivial, trivial⟩ ?_
  exact Run.ret (r := some (.int lb)) ⟨d_L_told_51, _, rfl, rfl⟩ ⟨rfl, rfl⟩
set_option maxRecDepth 100000 in
set_option maxHeartbeats 4000000 in
theorem c_L_told_A {x : Int32} (hx : x.toInt < 0 ∨ 3 < x.toInt) : Ct m_L_told 0 0 [.ref 0, .int x] (Ac fp le lp lb il tf tz bf rf fr mp sc ifp ib ie pw dh rl rb re sy sb rc sg ex) (vm_is (some (.int (-2 : Int32))) (Ac fp le lp lb il tf tz bf rf fr mp sc ifp ib ie pw dh rl rb re sy sb rc sg ex)) := by
  refine Ct.of ⟨by decide +kernel, rfl⟩ (Nat.le_of_ble_eq_true rfl) (lv := [some (.ref 0), some (.int x)]) rfl ?_
  refine Run.blk (gs := [True]) (S' := ([some (.ref 0), some (.int x)], [.int x], Ac fp le lp lb il tf tz bf rf fr mp sc ifp ib ie pw dh rl rb re sy sb rc sg ex)) k_L_told_0 kc_L_told_0 rfl ⟨trivial, trivial⟩ ?_
  refine Run.tsOut (tgt := 52) d_L_told_1 (by omega) (by decide) ?_
  refine Run.blk (gs := [True]) (S' := ([some (.ref 0), some (.int x)], [.int (-2 : Int32)], Ac fp le lp lb il tf tz bf rf fr mp sc ifp ib ie pw dh rl rb re sy sb rc sg ex)) k_L_told_52 kc_L_told_52 rfl ⟨trivial, trivial⟩ ?_
  exact Run.ret (r := some (.int (-2 : Int32))) ⟨d_L_told_54, _, rfl, rfl⟩ ⟨rfl, rfl⟩
set_option maxRecDepth 100000 in
set_option maxHeartbeats 4000000 in
theorem c_L_count_0  : Ct m_L_count 0 0 [.ref 0, .int (0 : Int32)] (Ac fp le lp lb il tf (nI z) bf rf fr mp sc ifp ib ie pw dh rl rb re sy sb rc sg ex) (vm_is (some (.int mp)) (Ac fp le lp lb il tf (nI z) bf rf fr mp sc ifp ib ie pw dh rl rb re sy sb rc sg ex)) := by
  refine Ct.of ⟨by decide +kernel, rfl⟩ (Nat.le_of_ble_eq_true rfl) (lv := [some (.ref 0), some (.int (0 : Int32))]) rfl ?_
  refine Run.blk (gs := [True]) (S' := ([some (.ref 0), some (.int (0 : Int32))], [.int (0 : Int32)], Ac fp le lp lb il tf (nI z) bf rf fr mp sc ifp ib ie pw dh rl rb re sy sb rc sg ex)) k_L_count_0 kc_L_count_0 rfl ⟨trivial, trivial⟩ ?_
  refine Run.tsIn (tgt := 44) (off := 43) d_L_count_1 (by decide) (by decide) (by decide) (by decide) ?_
  refine Run.blk (gs := [True, True]) (S' := ([some (.ref 0), some (.int (0 : Int32))], [.ref 3], Ac fp le lp lb il tf (nI z) bf rf fr mp sc ifp ib ie pw dh rl rb re sy sb rc sg ex)) k_L_count_44 kc_L_count_44 rfl ⟨trivial, trivial, trivial⟩ ?_
  refine Run.callV (b := 3) (As := []) (rest := []) v_L_count_48 c_P_mappedPages rfl (Nat.le_of_ble_eq_true rfl) rfl rfl rfl rfl (fun r cs' hp => ?_)
  obtain ⟨rfl, rfl⟩ := hp
  show Run _ _ _ _ 51 ([some (.ref 0), some (.int (0 : Int32))], [.int mp], Ac fp le lp lb il tf (nI z) bf rf fr mp sc ifp ib ie pw dh rl rb re sy sb rc sg ex) _
  exact Run.ret (r := some (.int mp)) ⟨d_L_count_51, _, rfl, rfl⟩ ⟨rfl, rfl⟩
set_option maxRecDepth 100000 in
set_option maxHeartbeats 4000000 in
theorem c_L_count_1  : Ct m_L_count 0 0 [.ref 0, .int (1 : Int32)] (Ac fp le lp lb il tf (nI z) bf rf fr mp sc ifp ib ie pw dh rl rb re sy sb rc sg ex) (vm_is (some (.int (nI (pwC rf (1 : Int32) 64)))) (Ac fp le lp lb il tf (nI z) bf rf fr mp sc ifp ib ie pw dh rl rb re sy sb rc sg ex)) := by
  refine Ct.of ⟨by decide +kernel, rfl⟩ (Nat.le_of_ble_eq_true rfl) (lv := [some (.ref 0), some (.int (1 : Int32))]) rfl ?_
  refine Run.blk (gs := [True]) (S' := ([some (.ref 0), some (.int (1 : Int32))], [.int (1 : Int32)], Ac fp le lp lb il tf (nI z) bf rf fr mp sc ifp ib ie pw dh rl rb re sy sb rc sg ex)) k_L_count_0 kc_L_count_0 rfl ⟨trivial, trivial⟩ ?_
  refine Run.tsIn (tgt := 52) (off := 51) d_L_count_1 (by decide) (by decide) (by decide) (by decide) ?_
  refine Run.blk (gs := [True, True, True]) (S' := ([some (.ref 0), some (.int (1 : Int32))], [.int (1 : Int32), .ref 3], Ac fp le lp lb il tf (nI z) bf rf fr mp sc ifp ib ie pw dh rl rb re sy sb rc sg ex)) k_L_count_52 kc_L_count_52 rfl ⟨trivial, trivial, trivial, trivial⟩ ?_
  refine Run.callV (b := 3) (As := [.int (1 : Int32)]) (rest := []) v_L_count_57 c_P_pagesWith rfl (Nat.le_of_ble_eq_true rfl) rfl rfl rfl rfl (fun r cs' hp => ?_)
  obtain ⟨rfl, rfl⟩ := hp
  show Run _ _ _ _ 60 ([some (.ref 0), some (.int (1 : Int32))], [.int (nI (pwC rf (1 : Int32) 64))], Ac fp le lp lb il tf (nI z) bf rf fr mp sc ifp ib ie pw dh rl rb re sy sb rc sg ex) _
  exact Run.ret (r := some (.int (nI (pwC rf (1 : Int32) 64)))) ⟨d_L_count_60, _, rfl, rfl⟩ ⟨rfl, rfl⟩
set_option maxRecDepth 100000 in
set_option maxHeartbeats 4000000 in
theorem c_L_count_2  : Ct m_L_count 0 0 [.ref 0, .int (2 : Int32)] (Ac fp le lp lb il tf (nI z) bf rf fr mp sc ifp ib ie pw dh rl rb re sy sb rc sg ex) (vm_is (some (.int (nI (pwC rf (2 : Int32) 64)))) (Ac fp le lp lb il tf (nI z) bf rf fr mp sc ifp ib ie pw dh rl rb re sy sb rc sg ex)) := by
  refine Ct.of ⟨by decide +kernel, rfl⟩ (Nat.le_of_ble_eq_true rfl) (lv := [some (.ref 0), some (.int (2 : Int32))]) rfl ?_
  refine Run.blk (gs := [True]) (S' := ([some (.ref 0), some (.int (2 : Int32))], [.int (2 : Int32)], Ac fp le lp lb il tf (nI z) bf rf fr mp sc ifp ib ie pw dh rl rb re sy sb rc sg ex)) k_L_count_0 kc_L_count_0 rfl ⟨trivial, trivial⟩ ?_
  refine Run.tsIn (tgt := 61) (off := 60) d_L_count_1 (by decide) (by decide) (by decide) (by decide) ?_
  refine Run.blk (gs := [True, True, True]) (S' := ([some (.ref 0), some (.int (2 : Int32))], [.int (2 : Int32), .ref 3], Ac fp le lp lb il tf (nI z) bf rf fr mp sc ifp ib ie pw dh rl rb re sy sb rc sg ex)) k_L_count_61 kc_L_count_61 rfl ⟨trivial, trivial, trivial, trivial⟩ ?_
  refine Run.callV (b := 3) (As := [.int (2 : Int32)]) (rest := []) v_L_count_66 c_P_pagesWith rfl (Nat.le_of_ble_eq_true rfl) rfl rfl rfl rfl (fun r cs' hp => ?_)
  obtain ⟨rfl, rfl⟩ := hp
  show Run _ _ _ _ 69 ([some (.ref 0), some (.int (2 : Int32))], [.int (nI (pwC rf (2 : Int32) 64))], Ac fp le lp lb il tf (nI z) bf rf fr mp sc ifp ib ie pw dh rl rb re sy sb rc sg ex) _
  exact Run.ret (r := some (.int (nI (pwC rf (2 : Int32) 64)))) ⟨d_L_count_69, _, rfl, rfl⟩ ⟨rfl, rfl⟩
set_option maxRecDepth 100000 in
set_option maxHeartbeats 4000000 in
theorem c_L_count_3  : Ct m_L_count 0 0 [.ref 0, .int (3 : Int32)] (Ac fp le lp lb il tf (nI z) bf rf fr mp sc ifp ib ie pw dh rl rb re sy sb rc sg ex) (vm_is (some (.int (nI (pwC rf (4 : Int32) 64)))) (Ac fp le lp lb il tf (nI z) bf rf fr mp sc ifp ib ie pw dh rl rb re sy sb rc sg ex)) := by
  refine Ct.of ⟨by decide +kernel, rfl⟩ (Nat.le_of_ble_eq_true rfl) (lv := [some (.ref 0), some (.int (3 : Int32))]) rfl ?_
  refine Run.blk (gs := [True]) (S' := ([some (.ref 0), some (.int (3 : Int32))], [.int (3 : Int32)], Ac fp le lp lb il tf (nI z) bf rf fr mp sc ifp ib ie pw dh rl rb re sy sb rc sg ex)) k_L_count_0 kc_L_count_0 rfl ⟨trivial, trivial⟩ ?_
  refine Run.tsIn (tgt := 70) (off := 69) d_L_count_1 (by decide) (by decide) (by decide) (by decide) ?_
  refine Run.blk (gs := [True, True, True]) (S' := ([some (.ref 0), some (.int (3 : Int32))], [.int (4 : Int32), .ref 3], Ac fp le lp lb il tf (nI z) bf rf fr mp sc ifp ib ie pw dh rl rb re sy sb rc sg ex)) k_L_count_70 kc_L_count_70 rfl ⟨trivial, trivial, trivial, trivial⟩ ?_
  refine Run.callV (b := 3) (As := [.int (4 : Int32)]) (rest := []) v_L_count_75 c_P_pagesWith rfl (Nat.le_of_ble_eq_true rfl) rfl rfl rfl rfl (fun r cs' hp => ?_)
  obtain ⟨rfl, rfl⟩ := hp
  show Run _ _ _ _ 78 ([some (.ref 0), some (.int (3 : Int32))], [.int (nI (pwC rf (4 : Int32) 64))], Ac fp le lp lb il tf (nI z) bf rf fr mp sc ifp ib ie pw dh rl rb re sy sb rc sg ex) _
  exact Run.ret (r := some (.int (nI (pwC rf (4 : Int32) 64)))) ⟨d_L_count_78, _, rfl, rfl⟩ ⟨rfl, rfl⟩
set_option maxRecDepth 100000 in
set_option maxHeartbeats 4000000 in
theorem c_L_count_4  : Ct m_L_count 0 0 [.ref 0, .int (4 : Int32)] (Ac fp le lp lb il tf (nI z) bf rf fr mp sc ifp ib ie pw dh rl rb re sy sb rc sg ex) (vm_is (some (.int (nI z))) (Ac fp le lp lb il tf (nI z) bf rf fr mp sc ifp ib ie pw dh rl rb re sy sb rc sg ex)) := by
  refine Ct.of ⟨by decide +kernel, rfl⟩ (Nat.le_of_ble_eq_true rfl) (lv := [some (.ref 0), some (.int (4 : Int32))]) rfl ?_
  refine Run.blk (gs := [True]) (S' := ([some (.ref 0), some (.int (4 : Int32))], [.int (4 : Int32)], Ac fp le lp lb il tf (nI z) bf rf fr mp sc ifp ib ie pw dh rl rb re sy sb rc sg ex)) k_L_count_0 kc_L_count_0 rfl ⟨trivial, trivial⟩ ?_
  refine Run.tsIn (tgt := 79) (off := 78) d_L_count_1 (by decide) (by decide) (by decide) (by decide) ?_
  refine Run.blk (gs := [True, True]) (S' := ([some (.ref 0), some (.int (4 : Int32))], [.ref 1], Ac fp le lp lb il tf (nI z) bf rf fr mp sc ifp ib ie pw dh rl rb re sy sb rc sg ex)) k_L_count_79 kc_L_count_79 rfl ⟨trivial, trivial, trivial⟩ ?_
  refine Run.callV (b := 1) (As := []) (rest := []) v_L_count_83 c_T_size rfl (Nat.le_of_ble_eq_true rfl) rfl rfl rfl rfl (fun r cs' hp => ?_)
  obtain ⟨rfl, rfl⟩ := hp
  show Run _ _ _ _ 86 ([some (.ref 0), some (.int (4 : Int32))], [.int (nI z)], Ac fp le lp lb il tf (nI z) bf rf fr mp sc ifp ib ie pw dh rl rb re sy sb rc sg ex) _
  exact Run.ret (r := some (.int (nI z))) ⟨d_L_count_86, _, rfl, rfl⟩ ⟨rfl, rfl⟩
set_option maxRecDepth 100000 in
set_option maxHeartbeats 4000000 in
theorem c_L_count_5  : Ct m_L_count 0 0 [.ref 0, .int (5 : Int32)] (Ac fp le lp lb il tf (nI z) bf rf fr mp sc ifp ib ie pw dh rl rb re sy sb rc sg ex) (vm_is (some (.int il)) (Ac fp le lp lb il tf (nI z) bf rf fr mp sc ifp ib ie pw dh rl rb re sy sb rc sg ex)) := by
  refine Ct.of ⟨by decide +kernel, rfl⟩ (Nat.le_of_ble_eq_true rfl) (lv := [some (.ref 0), some (.int (5 : Int32))]) rfl ?_
  refine Run.blk (gs := [True]) (S' := ([some (.ref 0), some (.int (5 : Int32))], [.int (5 : Int32)], Ac fp le lp lb il tf (nI z) bf rf fr mp sc ifp ib ie pw dh rl rb re sy sb rc sg ex)) k_L_count_0 kc_L_count_0 rfl ⟨trivial, trivial⟩ ?_
  refine Run.tsIn (tgt := 87) (off := 86) d_L_count_1 (by decide) (by decide) (by decide) (by decide) ?_
  refine Run.blk (gs := [True, True]) (S' := ([some (.ref 0), some (.int (5 : Int32))], [.int il], Ac fp le lp lb il tf (nI z) bf rf fr mp sc ifp ib ie pw dh rl rb re sy sb rc sg ex)) k_L_count_87 kc_L_count_87 rfl ⟨trivial, trivial, trivial⟩ ?_
  exact Run.ret (r := some (.int il)) ⟨d_L_count_91, _, rfl, rfl⟩ ⟨rfl, rfl⟩
set_option maxRecDepth 100000 in
set_option maxHeartbeats 4000000 in
theorem c_L_count_6  : Ct m_L_count 0 0 [.ref 0, .int (6 : Int32)] (Ac fp le lp lb il tf (nI z) bf rf fr mp sc ifp ib ie pw dh rl rb re sy sb rc sg ex) (vm_is (some (.int fr)) (Ac fp le lp lb il tf (nI z) bf rf fr mp sc ifp ib ie pw dh rl rb re sy sb rc sg ex)) := by
  refine Ct.of ⟨by decide +kernel, rfl⟩ (Nat.le_of_ble_eq_true rfl) (lv := [some (.ref 0), some (.int (6 : Int32))]) rfl ?_
  refine Run.blk (gs := [True]) (S' := ([some (.ref 0), some (.int (6 : Int32))], [.int (6 : Int32)], Ac fp le lp lb il tf (nI z) bf rf fr mp sc ifp ib ie pw dh rl rb re sy sb rc sg ex)) k_L_count_0 kc_L_count_0 rfl ⟨trivial, trivial⟩ ?_
  refine Run.tsIn (tgt := 92) (off := 91) d_L_count_1 (by decide) (by decide) (by decide) (by decide) ?_
  refine Run.blk (gs := [True, True]) (S' := ([some (.ref 0), some (.int (6 : Int32))], [.ref 3], Ac fp le lp lb il tf (nI z) bf rf fr mp sc ifp ib ie pw dh rl rb re sy sb rc sg ex)) k_L_count_92 kc_L_count_92 rfl ⟨trivial, trivial, trivial⟩ ?_
  refine Run.callV (b := 3) (As := []) (rest := []) v_L_count_96 c_P_frames rfl (Nat.le_of_ble_eq_true rfl) rfl rfl rfl rfl (fun r cs' hp => ?_)
  obtain ⟨rfl, rfl⟩ := hp
  show Run _ _ _ _ 99 ([some (.ref 0), some (.int (6 : Int32))], [.int fr], Ac fp le lp lb il tf (nI z) bf rf fr mp sc ifp ib ie pw dh rl rb re sy sb rc sg ex) _
  exact Run.ret (r := some (.int fr)) ⟨d_L_count_99, _, rfl, rfl⟩ ⟨rfl, rfl⟩
set_option maxRecDepth 100000 in
set_option maxHeartbeats 4000000 in
theorem c_L_count_A {x : Int32} (hx : x.toInt < 0 ∨ 6 < x.toInt) : Ct m_L_count 0 0 [.ref 0, .int x] (Ac fp le lp lb il tf tz bf rf fr mp sc ifp ib ie pw dh rl rb re sy sb rc sg ex) (vm_is (some (.int (-2 : Int32))) (Ac fp le lp lb il tf tz bf rf fr mp sc ifp ib ie pw dh rl rb re sy sb rc sg ex)) := by
  refine Ct.of ⟨by decide +kernel, rfl⟩ (Nat.le_of_ble_eq_true rfl) (lv := [some (.ref 0), some (.int x)]) rfl ?_
  refine Run.blk (gs := [True]) (S' := ([some (.ref 0), some (.int x)], [.int x], Ac fp le lp lb il tf tz bf rf fr mp sc ifp ib ie pw dh rl rb re sy sb rc sg ex)) k_L_count_0 kc_L_count_0 rfl ⟨trivial, trivial⟩ ?_
  refine Run.tsOut (tgt := 100) d_L_count_1 (by omega) (by decide) ?_
  refine Run.blk (gs := [True]) (S' := ([some (.ref 0), some (.int x)], [.int (-2 : Int32)], Ac fp le lp lb il tf tz bf rf fr mp sc ifp ib ie pw dh rl rb re sy sb rc sg ex)) k_L_count_100 kc_L_count_100 rfl ⟨trivial, trivial⟩ ?_
  exact Run.ret (r := some (.int (-2 : Int32))) ⟨d_L_count_102, _, rfl, rfl⟩ ⟨rfl, rfl⟩
set_option maxRecDepth 100000 in
set_option maxHeartbeats 4000000 in
theorem c_L_read_A {x y : Int32} (hr : ¬ f_P_refusal rf x y 4 = 0) : Ct m_L_read 0 0 [.ref 0, .int x, .int y] (Ac fp le lp lb il tf tz bf rf fr mp sc ifp ib ie pw dh rl rb re sy sb rc sg ex) (vm_is (some (.long ((f_P_refusal rf x y 4).toInt64))) (Ac fp le lp lb il tf tz bf rf fr mp sc ifp ib ie pw dh rl rb re sy sb rc sg ex)) := by
  refine Ct.of ⟨by decide +kernel, rfl⟩ (Nat.le_of_ble_eq_true rfl) (lv := [some (.ref 0), some (.int x), some (.int y), none]) rfl ?_
  refine Run.blk (gs := [True, True, True, True, True]) (S' := ([some (.ref 0), some (.int x), some (.int y), none], [.int (4 : Int32), .int y, .int x, .ref 3], Ac fp le lp lb il tf tz bf rf fr mp sc ifp ib ie pw dh rl rb re sy sb rc sg ex)) k_L_read_0 kc_L_read_0 rfl ⟨trivial, trivial, trivial, trivial, trivial, trivial⟩ ?_
  refine Run.callV (b := 3) (As := [.int x, .int y, .int (4 : Int32)]) (rest := []) v_L_read_7 c_P_refusal rfl (Nat.le_of_ble_eq_true rfl) rfl rfl rfl rfl (fun r cs' hp => ?_)
  obtain ⟨rfl, rfl⟩ := hp
  show Run _ _ _ _ 10 ([some (.ref 0), some (.int x), some (.int y), none], [.int (f_P_refusal rf x y (4 : Int32))], Ac fp le lp lb il tf tz bf rf fr mp sc ifp ib ie pw dh rl rb re sy sb rc sg ex) _
  refine Run.blk (gs := [True, True]) (S' := ([some (.ref 0), some (.int x), some (.int y), some (.int (f_P_refusal rf x y (4 : Int32)))], [.int (f_P_refusal rf x y (4 : Int32))], Ac fp le lp lb il tf tz bf rf fr mp sc ifp ib ie pw dh rl rb re sy sb rc sg ex)) k_L_read_10 kc_L_read_10 rfl ⟨trivial, trivial, trivial⟩ ?_
  refine Run.br (tgt := 27) d_L_read_12 rfl (by decide) (fun c_1 => ?_) (fun c_1 => ?_)
  · refine Run.blk (gs := [True, True]) (S' := ([some (.ref 0), some (.int x), some (.int y), some (.int (f_P_refusal rf x y (4 : Int32)))], [.long ((f_P_refusal rf x y (4 : Int32)).toInt64)], Ac fp le lp lb il tf tz bf rf fr mp sc ifp ib ie pw dh rl rb re sy sb rc sg ex)) k_L_read_27 kc_L_read_27 rfl ⟨trivial, trivial, trivial⟩ ?_
    exact Run.ret (r := some (.long ((f_P_refusal rf x y (4 : Int32)).toInt64))) ⟨d_L_read_29, rfl⟩ ⟨rfl, rfl⟩
  · have c_1 := Classical.not_not.mp c_1
    exact absurd c_1 hr
set_option maxRecDepth 100000 in
set_option maxHeartbeats 4000000 in
theorem c_L_fetch_A {x : Int32} (hr : ¬ f_P_refusal rf x 4 1 = 0) : Ct m_L_fetch 0 0 [.ref 0, .int x] (Ac fp le lp lb il tf tz bf rf fr mp sc ifp ib ie pw dh rl rb re sy sb rc sg ex) (vm_is (some (.long ((f_P_refusal rf x 4 1).toInt64))) (Ac fp le lp lb il tf tz bf rf fr mp sc ifp ib ie pw dh rl rb re sy sb rc sg ex)) := by
  refine Ct.of ⟨by decide +kernel, rfl⟩ (Nat.le_of_ble_eq_true rfl) (lv := [some (.ref 0), some (.int x), none]) rfl ?_
  refine Run.blk (gs := [True, True, True, True, True]) (S' := ([some (.ref 0), some (.int x), none], [.int (1 : Int32), .int (4 : Int32), .int x, .ref 3], Ac fp le lp lb il tf tz bf rf fr mp sc ifp ib ie pw dh rl rb re sy sb rc sg ex)) k_L_fetch_0 kc_L_fetch_0 rfl ⟨trivial, trivial, trivial, trivial, trivial, trivial⟩ ?_
  refine Run.callV (b := 3) (As := [.int x, .int (4 : Int32), .int (1 : Int32)]) (rest := []) v_L_fetch_7 c_P_refusal rfl (Nat.le_of_ble_eq_true rfl) rfl rfl rfl rfl (fun r cs' hp => ?_)
  obtain ⟨rfl, rfl⟩ := hp
  show Run _ _ _ _ 10 ([some (.ref 0), some (.int x), none], [.int (f_P_refusal rf x (4 : Int32) (1 : Int32))], Ac fp le lp lb il tf tz bf rf fr mp sc ifp ib ie pw dh rl rb re sy sb rc sg ex) _
  refine Run.blk (gs := [True, True]) (S' := ([some (.ref 0), some (.int x), some (.int (f_P_refusal rf x (4 : Int32) (1 : Int32)))], [.int (f_P_refusal rf x (4 : Int32) (1 : Int32))], Ac fp le lp lb il tf tz bf rf fr mp sc ifp ib ie pw dh rl rb re sy sb rc sg ex)) k_L_fetch_10 kc_L_fetch_10 rfl ⟨trivial, trivial, trivial⟩ ?_
  refine Run.br (tgt := 27) d_L_fetch_12 rfl (by decide) (fun c_1 => ?_) (fun c_1 => ?_)
  · refine Run.blk (gs := [True, True]) (S' := ([some (.ref 0), some (.int x), some (.int (f_P_refusal rf x (4 : Int32) (1 : Int32)))], [.long ((f_P_refusal rf x (4 : Int32) (1 : Int32)).toInt64)], Ac fp le lp lb il tf tz bf rf fr mp sc ifp ib ie pw dh rl rb re sy sb rc sg ex)) k_L_fetch_27 kc_L_fetch_27 rfl ⟨trivial, trivial, trivial⟩ ?_
    exact Run.ret (r := some (.long ((f_P_refusal rf x (4 : Int32) (1 : Int32)).toInt64))) ⟨d_L_fetch_29, rfl⟩ ⟨rfl, rfl⟩
  · have c_1 := Classical.not_not.mp c_1
    exact absurd c_1 hr
set_option maxRecDepth 100000 in
set_option maxHeartbeats 4000000 in
theorem c_L_write_A {x y v : Int32} (hr : ¬ f_P_refusal rf x y 2 = 0) : Ct m_L_write 0 0 [.ref 0, .int x, .int y, .int v] (Ac fp le lp lb il tf tz bf rf fr mp sc ifp ib ie pw dh rl rb re sy sb rc sg ex) (vm_is (some (.int (f_P_refusal rf x y 2))) (Ac fp le lp lb il tf tz bf rf fr mp sc ifp ib ie pw dh rl rb re sy sb rc sg ex)) := by
  refine Ct.of ⟨by decide +kernel, rfl⟩ (Nat.le_of_ble_eq_true rfl) (lv := [some (.ref 0), some (.int x), some (.int y), some (.int v), none]) rfl ?_
  refine Run.blk (gs := [True, True, True, True, True]) (S' := ([some (.ref 0), some (.int x), some (.int y), some (.int v), none], [.int (2 : Int32), .int y, .int x, .ref 3], Ac fp le lp lb il tf tz bf rf fr mp sc ifp ib ie pw dh rl rb re sy sb rc sg ex)) k_L_write_0 kc_L_write_0 rfl ⟨trivial, trivial, trivial, trivial, trivial, trivial⟩ ?_
  refine Run.callV (b := 3) (As := [.int x, .int y, .int (2 : Int32)]) (rest := []) v_L_write_7 c_P_refusal rfl (Nat.le_of_ble_eq_true rfl) rfl rfl rfl rfl (fun r cs' hp => ?_)
  obtain ⟨rfl, rfl⟩ := hp
  show Run _ _ _ _ 10 ([some (.ref 0), some (.int x), some (.int y), some (.int v), none], [.int (f_P_refusal rf x y (2 : Int32))], Ac fp le lp lb il tf tz bf rf fr mp sc ifp ib ie pw dh rl rb re sy sb rc sg ex) _
  refine Run.blk (gs := [True, True]) (S' := ([some (.ref 0), some (.int x), some (.int y), some (.int v), some (.int (f_P_refusal rf x y (2 : Int32)))], [.int (f_P_refusal rf x y (2 : Int32))], Ac fp le lp lb il tf tz bf rf fr mp sc ifp ib ie pw dh rl rb re sy sb rc sg ex)) k_L_write_10 kc_L_write_10 rfl ⟨trivial, trivial, trivial⟩ ?_
  refine Run.br (tgt := 27) d_L_write_14 rfl (by decide) (fun c_1 => ?_) (fun c_1 => ?_)
  · refine Run.blk (gs := [True]) (S' := ([some (.ref 0), some (.int x), some (.int y), some (.int v), some (.int (f_P_refusal rf x y (2 : Int32)))], [.int (f_P_refusal rf x y (2 : Int32))], Ac fp le lp lb il tf tz bf rf fr mp sc ifp ib ie pw dh rl rb re sy sb rc sg ex)) k_L_write_27 kc_L_write_27 rfl ⟨trivial, trivial⟩ ?_
    exact Run.ret (r := some (.int (f_P_refusal rf x y (2 : Int32)))) ⟨d_L_write_29, _, rfl, rfl⟩ ⟨rfl, rfl⟩
  · have c_1 := Classical.not_not.mp c_1
    exact absurd c_1 hr
set_option maxRecDepth 100000 in
set_option maxHeartbeats 4000000 in
theorem c_L_read_1 (hb : ∀ j, b j < 256) {p : Nat} {x : Int32} (hx : x = nI p) (hp : p + 1 ≤ 16384) (hr : f_P_refusal rf x 1 4 = 0) : Ct m_L_read 0 0 [.ref 0, .int x, .int (1 : Int32)] (Ac fp le lp lb il tf tz (sbf b) rf fr mp sc ifp ib ie pw dh rl rb re sy sb rc sg ex) (vm_is (some (.long (lN (n1 b p)))) (Ac fp le lp lb il tf tz (sbf b) rf fr mp sc ifp ib ie pw dh rl rb re sy sb rc sg ex)) := by
  subst hx
  refine Ct.of ⟨by decide +kernel, rfl⟩ (Nat.le_of_ble_eq_true rfl) (lv := [some (.ref 0), some (.int (nI p)), some (.int (1 : Int32)), none]) rfl ?_
  refine Run.blk (gs := [True, True, True, True, True]) (S' := ([some (.ref 0), some (.int (nI p)), some (.int (1 : Int32)), none], [.int (4 : Int32), .int (1 : Int32), .int (nI p), .ref 3], Ac fp le lp lb il tf tz (sbf b) rf fr mp sc ifp ib ie pw dh rl rb re sy sb rc sg ex)) k_L_read_0 kc_L_read_0 rfl ⟨trivial, trivial, trivial, trivial, trivial, trivial⟩ ?_
  refine Run.callV (b := 3) (As := [.int (nI p), .int (1 : Int32), .int (4 : Int32)]) (rest := []) v_L_read_7 c_P_refusal rfl (Nat.le_of_ble_eq_true rfl) rfl rfl rfl rfl (fun r cs' hp => ?_)
  obtain ⟨rfl, rfl⟩ := hp
  show Run _ _ _ _ 10 ([some (.ref 0), some (.int (nI p)), some (.int (1 : Int32)), none], [.int (f_P_refusal rf (nI p) (1 : Int32) (4 : Int32))], Ac fp le lp lb il tf tz (sbf b) rf fr mp sc ifp ib ie pw dh rl rb re sy sb rc sg ex) _
  refine Run.blk (gs := [True, True]) (S' := ([some (.ref 0), some (.int (nI p)), some (.int (1 : Int32)), some (.int (f_P_refusal rf (nI p) (1 : Int32) (4 : Int32)))], [.int (f_P_refusal rf (nI p) (1 : Int32) (4 : Int32))], Ac fp le lp lb il tf tz (sbf b) rf fr mp sc ifp ib ie pw dh rl rb re sy sb rc sg ex)) k_L_read_10 kc_L_read_10 rfl ⟨trivial, trivial, trivial⟩ ?_
  refine Run.br (tgt := 27) d_L_read_12 rfl (by decide) (fun c_1 => ?_) (fun c_1 => ?_)
  · exact absurd hr c_1
  · have c_1 := Classical.not_not.mp c_1
    refine Run.blk (gs := [True, True, True, True]) (S' := ([some (.ref 0), some (.int (nI p)), some (.int (1 : Int32)), some (.int (f_P_refusal rf (nI p) (1 : Int32) (4 : Int32)))], [.int (1 : Int32), .int (nI p), .ref 3], Ac fp le lp lb il tf tz (sbf b) rf fr mp sc ifp ib ie pw dh rl rb re sy sb rc sg ex)) k_L_read_15 kc_L_read_15 rfl ⟨trivial, trivial, trivial, trivial, trivial⟩ ?_
    refine Run.callV (b := 3) (As := [.int (nI p), .int (1 : Int32)]) (rest := []) v_L_read_21 (c_P_number1 hb rfl hp) rfl (Nat.le_of_ble_eq_true rfl) rfl rfl rfl rfl (fun r cs' hp => ?_)
    obtain ⟨rfl, rfl⟩ := hp
    show Run _ _ _ _ 24 ([some (.ref 0), some (.int (nI p)), some (.int (1 : Int32)), some (.int (f_P_refusal rf (nI p) (1 : Int32) (4 : Int32)))], [.long (lN (n1 b p))], Ac fp le lp lb il tf tz (sbf b) rf fr mp sc ifp ib ie pw dh rl rb re sy sb rc sg ex) _
    refine Run.goto (tgt := 29) d_L_read_24 (by decide) ?_
    exact Run.ret (r := some (.long (lN (n1 b p)))) ⟨d_L_read_29, rfl⟩ ⟨rfl, rfl⟩
set_option maxRecDepth 100000 in
set_option maxHeartbeats 4000000 in
theorem c_L_write_1 {p : Nat} {x v : Int32} (hx : x = nI p) (hp : p + 1 ≤ 16384) (hr : f_P_refusal rf x 1 2 = 0) : Ct m_L_write 0 0 [.ref 0, .int x, .int (1 : Int32), .int v] (Ac fp le lp lb il tf tz (sbf b) rf fr mp sc ifp ib ie pw dh rl rb re sy sb rc sg ex) (vm_is (some (.int (0 : Int32))) (Ac fp le lp lb il tf tz (sbf (u1 b p v)) rf fr mp sc ifp ib ie pw dh rl rb re sy sb rc sg ex)) := by
  subst hx
  refine Ct.of ⟨by decide +kernel, rfl⟩ (Nat.le_of_ble_eq_true rfl) (lv := [some (.ref 0), some (.int (nI p)), some (.int (1 : Int32)), some (.int v), none]) rfl ?_
  refine Run.blk (gs := [True, True, True, True, True]) (S' := ([some (.ref 0), some (.int (nI p)), some (.int (1 : Int32)), some (.int v), none], [.int (2 : Int32), .int (1 : Int32), .int (nI p), .ref 3], Ac fp le lp lb il tf tz (sbf b) rf fr mp sc ifp ib ie pw dh rl rb re sy sb rc sg ex)) k_L_write_0 kc_L_write_0 rfl ⟨trivial, trivial, trivial, trivial, trivial, trivial⟩ ?_
  refine Run.callV (b := 3) (As := [.int (nI p), .int (1 : Int32), .int (2 : Int32)]) (rest := []) v_L_write_7 c_P_refusal rfl (Nat.le_of_ble_eq_true rfl) rfl rfl rfl rfl (fun r cs' hp => ?_)
  obtain ⟨rfl, rfl⟩ := hp
  show Run _ _ _ _ 10 ([some (.ref 0), some (.int (nI p)), some (.int (1 : Int32)), some (.int v), none], [.int (f_P_refusal rf (nI p) (1 : Int32) (2 : Int32))], Ac fp le lp lb il tf tz (sbf b) rf fr mp sc ifp ib ie pw dh rl rb re sy sb rc sg ex) _
  refine Run.blk (gs := [True, True]) (S' := ([some (.ref 0), some (.int (nI p)), some (.int (1 : Int32)), some (.int v), some (.int (f_P_refusal rf (nI p) (1 : Int32) (2 : Int32)))], [.int (f_P_refusal rf (nI p) (1 : Int32) (2 : Int32))], Ac fp le lp lb il tf tz (sbf b) rf fr mp sc ifp ib ie pw dh rl rb re sy sb rc sg ex)) k_L_write_10 kc_L_write_10 rfl ⟨trivial, trivial, trivial⟩ ?_
  refine Run.br (tgt := 27) d_L_write_14 rfl (by decide) (fun c_1 => ?_) (fun c_1 => ?_)
  · exact absurd hr c_1
  · have c_1 := Classical.not_not.mp c_1
    refine Run.blk (gs := [True, True, True, True, True]) (S' := ([some (.ref 0), some (.int (nI p)), some (.int (1 : Int32)), some (.int v), some (.int (f_P_refusal rf (nI p) (1 : Int32) (2 : Int32)))], [.int v, .int (1 : Int32), .int (nI p), .ref 3], Ac fp le lp lb il tf tz (sbf b) rf fr mp sc ifp ib ie pw dh rl rb re sy sb rc sg ex)) k_L_write_17 kc_L_write_17 rfl ⟨trivial, trivial, trivial, trivial, trivial, trivial⟩ ?_
    refine Run.callV (b := 3) (As := [.int (nI p), .int (1 : Int32), .int v]) (rest := []) v_L_write_24 (c_P_setNumber1 rfl hp) rfl (Nat.le_of_ble_eq_true rfl) rfl rfl rfl rfl (fun r cs' hp => ?_)
    obtain ⟨rfl, rfl⟩ := hp
    show Run _ _ _ _ 27 ([some (.ref 0), some (.int (nI p)), some (.int (1 : Int32)), some (.int v), some (.int (f_P_refusal rf (nI p) (1 : Int32) (2 : Int32)))], [], Ac fp le lp lb il tf tz (sbf (u1 b p v)) rf fr mp sc ifp ib ie pw dh rl rb re sy sb rc sg ex) _
    refine Run.blk (gs := [True]) (S' := ([some (.ref 0), some (.int (nI p)), some (.int (1 : Int32)), some (.int v), some (.int (f_P_refusal rf (nI p) (1 : Int32) (2 : Int32)))], [.int (f_P_refusal rf (nI p) (1 : Int32) (2 : Int32))], Ac fp le lp lb il tf tz (sbf (u1 b p v)) rf fr mp sc ifp ib ie pw dh rl rb re sy sb rc sg ex)) k_L_write_27 kc_L_write_27 rfl ⟨trivial, trivial⟩ ?_
    exact Run.ret (r := some (.int (f_P_refusal rf (nI p) (1 : Int32) (2 : Int32)))) ⟨d_L_write_29, _, rfl, rfl⟩ ⟨by rw [hr], rfl⟩
set_option maxRecDepth 100000 in
set_option maxHeartbeats 4000000 in
theorem c_L_read_2 (hb : ∀ j, b j < 256) {p : Nat} {x : Int32} (hx : x = nI p) (hp : p + 2 ≤ 16384) (hr : f_P_refusal rf x 2 4 = 0) : Ct m_L_read 0 0 [.ref 0, .int x, .int (2 : Int32)] (Ac fp le lp lb il tf tz (sbf b) rf fr mp sc ifp ib ie pw dh rl rb re sy sb rc sg ex) (vm_is (some (.long (lN (n2 b p)))) (Ac fp le lp lb il tf tz (sbf b) rf fr mp sc ifp ib ie pw dh rl rb re sy sb rc sg ex)) := by
  subst hx
  refine Ct.of ⟨by decide +kernel, rfl⟩ (Nat.le_of_ble_eq_true rfl) (lv := [some (.ref 0), some (.int (nI p)), some (.int (2 : Int32)), none]) rfl ?_
  refine Run.blk (gs := [True, True, True, True, True]) (S' := ([some (.ref 0), some (.int (nI p)), some (.int (2 : Int32)), none], [.int (4 : Int32), .int (2 : Int32), .int (nI p), .ref 3], Ac fp le lp lb il tf tz (sbf b) rf fr mp sc ifp ib ie pw dh rl rb re sy sb rc sg ex)) k_L_read_0 kc_L_read_0 rfl ⟨trivial, trivial, trivial, trivial, trivial, trivial⟩ ?_
  refine Run.callV (b := 3) (As := [.int (nI p), .int (2 : Int32), .int (4 : Int32)]) (rest := []) v_L_read_7 c_P_refusal rfl (Nat.le_of_ble_eq_true rfl) rfl rfl rfl rfl (fun r cs' hp => ?_)
  obtain ⟨rfl, rfl⟩ := hp
  show Run _ _ _ _ 10 ([some (.ref 0), some (.int (nI p)), some (.int (2 : Int32)), none], [.int (f_P_refusal rf (nI p) (2 : Int32) (4 : Int32))], Ac fp le lp lb il tf tz (sbf b) rf fr mp sc ifp ib ie pw dh rl rb re sy sb rc sg ex) _
  refine Run.blk (gs := [True, True]) (S' := ([some (.ref 0), some (.int (nI p)), some (.int (2 : Int32)), some (.int (f_P_refusal rf (nI p) (2 : Int32) (4 : Int32)))], [.int (f_P_refusal rf (nI p) (2 : Int32) (4 : Int32))], Ac fp le lp lb il tf tz (sbf b) rf fr mp sc ifp ib ie pw dh rl rb re sy sb rc sg ex)) k_L_read_10 kc_L_read_10 rfl ⟨trivial, trivial, trivial⟩ ?_
  refine Run.br (tgt := 27) d_L_read_12 rfl (by decide) (fun c_1 => ?_) (fun c_1 => ?_)
  · exact absurd hr c_1
  · have c_1 := Classical.not_not.mp c_1
    refine Run.blk (gs := [True, True, True, True]) (S' := ([some (.ref 0), some (.int (nI p)), some (.int (2 : Int32)), some (.int (f_P_refusal rf (nI p) (2 : Int32) (4 : Int32)))], [.int (2 : Int32), .int (nI p), .ref 3], Ac fp le lp lb il tf tz (sbf b) rf fr mp sc ifp ib ie pw dh rl rb re sy sb rc sg ex)) k_L_read_15 kc_L_read_15 rfl ⟨trivial, trivial, trivial, trivial, trivial⟩ ?_
    refine Run.callV (b := 3) (As := [.int (nI p), .int (2 : Int32)]) (rest := []) v_L_read_21 (c_P_number2 hb rfl hp) rfl (Nat.le_of_ble_eq_true rfl) rfl rfl rfl rfl (fun r cs' hp => ?_)
    obtain ⟨rfl, rfl⟩ := hp
    show Run _ _ _ _ 24 ([some (.ref 0), some (.int (nI p)), some (.int (2 : Int32)), some (.int (f_P_refusal rf (nI p) (2 : Int32) (4 : Int32)))], [.long (lN (n2 b p))], Ac fp le lp lb il tf tz (sbf b) rf fr mp sc ifp ib ie pw dh rl rb re sy sb rc sg ex) _
    refine Run.goto (tgt := 29) d_L_read_24 (by decide) ?_
    exact Run.ret (r := some (.long (lN (n2 b p)))) ⟨d_L_read_29, rfl⟩ ⟨rfl, rfl⟩
set_option maxRecDepth 100000 in
set_option maxHeartbeats 4000000 in
theorem c_L_write_2 {p : Nat} {x v : Int32} (hx : x = nI p) (hp : p + 2 ≤ 16384) (hr : f_P_refusal rf x 2 2 = 0) : Ct m_L_write 0 0 [.ref 0, .int x, .int (2 : Int32), .int v] (Ac fp le lp lb il tf tz (sbf b) rf fr mp sc ifp ib ie pw dh rl rb re sy sb rc sg ex) (vm_is (some (.int (0 : Int32))) (Ac fp le lp lb il tf tz (sbf (u2 b p v)) rf fr mp sc ifp ib ie pw dh rl rb re sy sb rc sg ex)) := by
  subst hx
  refine Ct.of ⟨by decide +kernel, rfl⟩ (Nat.le_of_ble_eq_true rfl) (lv := [some (.ref 0), some (.int (nI p)), some (.int (2 : Int32)), some (.int v), none]) rfl ?_
  refine Run.blk (gs := [True, True, True, True, True]) (S' := ([some (.ref 0), some (.int (nI p)), some (.int (2 : Int32)), some (.int v), none], [.int (2 : Int32), .int (2 : Int32), .int (nI p), .ref 3], Ac fp le lp lb il tf tz (sbf b) rf fr mp sc ifp ib ie pw dh rl rb re sy sb rc sg ex)) k_L_write_0 kc_L_write_0 rfl ⟨trivial, trivial, trivial, trivial, trivial, trivial⟩ ?_
  refine Run.callV (b := 3) (As := [.int (nI p), .int (2 : Int32), .int (2 : Int32)]) (rest := []) v_L_write_7 c_P_refusal rfl (Nat.le_of_ble_eq_true rfl) rfl rfl rfl rfl (fun r cs' hp => ?_)
  obtain ⟨rfl, rfl⟩ := hp
  show Run _ _ _ _ 10 ([some (.ref 0), some (.int (nI p)), some (.int (2 : Int32)), some (.int v), none], [.int (f_P_refusal rf (nI p) (2 : Int32) (2 : Int32))], Ac fp le lp lb il tf tz (sbf b) rf fr mp sc ifp ib ie pw dh rl rb re sy sb rc sg ex) _
  refine Run.blk (gs := [True, True]) (S' := ([some (.ref 0), some (.int (nI p)), some (.int (2 : Int32)), some (.int v), some (.int (f_P_refusal rf (nI p) (2 : Int32) (2 : Int32)))], [.int (f_P_refusal rf (nI p) (2 : Int32) (2 : Int32))], Ac fp le lp lb il tf tz (sbf b) rf fr mp sc ifp ib ie pw dh rl rb re sy sb rc sg ex)) k_L_write_10 kc_L_write_10 rfl ⟨trivial, trivial, trivial⟩ ?_
  refine Run.br (tgt := 27) d_L_write_14 rfl (by decide) (fun c_1 => ?_) (fun c_1 => ?_)
  · exact absurd hr c_1
  · have c_1 := Classical.not_not.mp c_1
    refine Run.blk (gs := [True, True, True, True, True]) (S' := ([some (.ref 0), some (.int (nI p)), some (.int (2 : Int32)), some (.int v), some (.int (f_P_refusal rf (nI p) (2 : Int32) (2 : Int32)))], [.int v, .int (2 : Int32), .int (nI p), .ref 3], Ac fp le lp lb il tf tz (sbf b) rf fr mp sc ifp ib ie pw dh rl rb re sy sb rc sg ex)) k_L_write_17 kc_L_write_17 rfl ⟨trivial, trivial, trivial, trivial, trivial, trivial⟩ ?_
    refine Run.callV (b := 3) (As := [.int (nI p), .int (2 : Int32), .int v]) (rest := []) v_L_write_24 (c_P_setNumber2 rfl hp) rfl (Nat.le_of_ble_eq_true rfl) rfl rfl rfl rfl (fun r cs' hp => ?_)
    obtain ⟨rfl, rfl⟩ := hp
    show Run _ _ _ _ 27 ([some (.ref 0), some (.int (nI p)), some (.int (2 : Int32)), some (.int v), some (.int (f_P_refusal rf (nI p) (2 : Int32) (2 : Int32)))], [], Ac fp le lp lb il tf tz (sbf (u2 b p v)) rf fr mp sc ifp ib ie pw dh rl rb re sy sb rc sg ex) _
    refine Run.blk (gs := [True]) (S' := ([some (.ref 0), some (.int (nI p)), some (.int (2 : Int32)), some (.int v), some (.int (f_P_refusal rf (nI p) (2 : Int32) (2 : Int32)))], [.int (f_P_refusal rf (nI p) (2 : Int32) (2 : Int32))], Ac fp le lp lb il tf tz (sbf (u2 b p v)) rf fr mp sc ifp ib ie pw dh rl rb re sy sb rc sg ex)) k_L_write_27 kc_L_write_27 rfl ⟨trivial, trivial⟩ ?_
    exact Run.ret (r := some (.int (f_P_refusal rf (nI p) (2 : Int32) (2 : Int32)))) ⟨d_L_write_29, _, rfl, rfl⟩ ⟨by rw [hr], rfl⟩
set_option maxRecDepth 100000 in
set_option maxHeartbeats 4000000 in
theorem c_L_read_4 (hb : ∀ j, b j < 256) {p : Nat} {x : Int32} (hx : x = nI p) (hp : p + 4 ≤ 16384) (hr : f_P_refusal rf x 4 4 = 0) : Ct m_L_read 0 0 [.ref 0, .int x, .int (4 : Int32)] (Ac fp le lp lb il tf tz (sbf b) rf fr mp sc ifp ib ie pw dh rl rb re sy sb rc sg ex) (vm_is (some (.long (lN (n4 b p)))) (Ac fp le lp lb il tf tz (sbf b) rf fr mp sc ifp ib ie pw dh rl rb re sy sb rc sg ex)) := by
  subst hx
  refine Ct.of ⟨by decide +kernel, rfl⟩ (Nat.le_of_ble_eq_true rfl) (lv := [some (.ref 0), some (.int (nI p)), some (.int (4 : Int32)), none]) rfl ?_
  refine Run.blk (gs := [True, True, True, True, True]) (S' := ([some (.ref 0), some (.int (nI p)), some (.int (4 : Int32)), none], [.int (4 : Int32), .int (4 : Int32), .int (nI p), .ref 3], Ac fp le lp lb il tf tz (sbf b) rf fr mp sc ifp ib ie pw dh rl rb re sy sb rc sg ex)) k_L_read_0 kc_L_read_0 rfl ⟨trivial, trivial, trivial, trivial, trivial, trivial⟩ ?_
  refine Run.callV (b := 3) (As := [.int (nI p), .int (4 : Int32), .int (4 : Int32)]) (rest := []) v_L_read_7 c_P_refusal rfl (Nat.le_of_ble_eq_true rfl) rfl rfl rfl rfl (fun r cs' hp => ?_)
  obtain ⟨rfl, rfl⟩ := hp
  show Run _ _ _ _ 10 ([some (.ref 0), some (.int (nI p)), some (.int (4 : Int32)), none], [.int (f_P_refusal rf (nI p) (4 : Int32) (4 : Int32))], Ac fp le lp lb il tf tz (sbf b) rf fr mp sc ifp ib ie pw dh rl rb re sy sb rc sg ex) _
  refine Run.blk (gs := [True, True]) (S' := ([some (.ref 0), some (.int (nI p)), some (.int (4 : Int32)), some (.int (f_P_refusal rf (nI p) (4 : Int32) (4 : Int32)))], [.int (f_P_refusal rf (nI p) (4 : Int32) (4 : Int32))], Ac fp le lp lb il tf tz (sbf b) rf fr mp sc ifp ib ie pw dh rl rb re sy sb rc sg ex)) k_L_read_10 kc_L_read_10 rfl ⟨trivial, trivial, trivial⟩ ?_
  refine Run.br (tgt := 27) d_L_read_12 rfl (by decide) (fun c_1 => ?_) (fun c_1 => ?_)
  · exact absurd hr c_1
  · have c_1 := Classical.not_not.mp c_1
    refine Run.blk (gs := [True, True, True, True]) (S' := ([some (.ref 0), some (.int (nI p)), some (.int (4 : Int32)), some (.int (f_P_refusal rf (nI p) (4 : Int32) (4 : Int32)))], [.int (4 : Int32), .int (nI p), .ref 3], Ac fp le lp lb il tf tz (sbf b) rf fr mp sc ifp ib ie pw dh rl rb re sy sb rc sg ex)) k_L_read_15 kc_L_read_15 rfl ⟨trivial, trivial, trivial, trivial, trivial⟩ ?_
    refine Run.callV (b := 3) (As := [.int (nI p), .int (4 : Int32)]) (rest := []) v_L_read_21 (c_P_number4 hb rfl hp) rfl (Nat.le_of_ble_eq_true rfl) rfl rfl rfl rfl (fun r cs' hp => ?_)
    obtain ⟨rfl, rfl⟩ := hp
    show Run _ _ _ _ 24 ([some (.ref 0), some (.int (nI p)), some (.int (4 : Int32)), some (.int (f_P_refusal rf (nI p) (4 : Int32) (4 : Int32)))], [.long (lN (n4 b p))], Ac fp le lp lb il tf tz (sbf b) rf fr mp sc ifp ib ie pw dh rl rb re sy sb rc sg ex) _
    refine Run.goto (tgt := 29) d_L_read_24 (by decide) ?_
    exact Run.ret (r := some (.long (lN (n4 b p)))) ⟨d_L_read_29, rfl⟩ ⟨rfl, rfl⟩
set_option maxRecDepth 100000 in
set_option maxHeartbeats 4000000 in
theorem c_L_write_4 {p : Nat} {x v : Int32} (hx : x = nI p) (hp : p + 4 ≤ 16384) (hr : f_P_refusal rf x 4 2 = 0) : Ct m_L_write 0 0 [.ref 0, .int x, .int (4 : Int32), .int v] (Ac fp le lp lb il tf tz (sbf b) rf fr mp sc ifp ib ie pw dh rl rb re sy sb rc sg ex) (vm_is (some (.int (0 : Int32))) (Ac fp le lp lb il tf tz (sbf (u4 b p v)) rf fr mp sc ifp ib ie pw dh rl rb re sy sb rc sg ex)) := by
  subst hx
  refine Ct.of ⟨by decide +kernel, rfl⟩ (Nat.le_of_ble_eq_true rfl) (lv := [some (.ref 0), some (.int (nI p)), some (.int (4 : Int32)), some (.int v), none]) rfl ?_
  refine Run.blk (gs := [True, True, True, True, True]) (S' := ([some (.ref 0), some (.int (nI p)), some (.int (4 : Int32)), some (.int v), none], [.int (2 : Int32), .int (4 : Int32), .int (nI p), .ref 3], Ac fp le lp lb il tf tz (sbf b) rf fr mp sc ifp ib ie pw dh rl rb re sy sb rc sg ex)) k_L_write_0 kc_L_write_0 rfl ⟨trivial, trivial, trivial, trivial, trivial, trivial⟩ ?_
  refine Run.callV (b := 3) (As := [.int (nI p), .int (4 : Int32), .int (2 : Int32)]) (rest := []) v_L_write_7 c_P_refusal rfl (Nat.le_of_ble_eq_true rfl) rfl rfl rfl rfl (fun r cs' hp => ?_)
  obtain ⟨rfl, rfl⟩ := hp
  show Run _ _ _ _ 10 ([some (.ref 0), some (.int (nI p)), some (.int (4 : Int32)), some (.int v), none], [.int (f_P_refusal rf (nI p) (4 : Int32) (2 : Int32))], Ac fp le lp lb il tf tz (sbf b) rf fr mp sc ifp ib ie pw dh rl rb re sy sb rc sg ex) _
  refine Run.blk (gs := [True, True]) (S' := ([some (.ref 0), some (.int (nI p)), some (.int (4 : Int32)), some (.int v), some (.int (f_P_refusal rf (nI p) (4 : Int32) (2 : Int32)))], [.int (f_P_refusal rf (nI p) (4 : Int32) (2 : Int32))], Ac fp le lp lb il tf tz (sbf b) rf fr mp sc ifp ib ie pw dh rl rb re sy sb rc sg ex)) k_L_write_10 kc_L_write_10 rfl ⟨trivial, trivial, trivial⟩ ?_
  refine Run.br (tgt := 27) d_L_write_14 rfl (by decide) (fun c_1 => ?_) (fun c_1 => ?_)
  · exact absurd hr c_1
  · have c_1 := Classical.not_not.mp c_1
    refine Run.blk (gs := [True, True, True, True, True]) (S' := ([some (.ref 0), some (.int (nI p)), some (.int (4 : Int32)), some (.int v), some (.int (f_P_refusal rf (nI p) (4 : Int32) (2 : Int32)))], [.int v, .int (4 : Int32), .int (nI p), .ref 3], Ac fp le lp lb il tf tz (sbf b) rf fr mp sc ifp ib ie pw dh rl rb re sy sb rc sg ex)) k_L_write_17 kc_L_write_17 rfl ⟨trivial, trivial, trivial, trivial, trivial, trivial⟩ ?_
    refine Run.callV (b := 3) (As := [.int (nI p), .int (4 : Int32), .int v]) (rest := []) v_L_write_24 (c_P_setNumber4 rfl hp) rfl (Nat.le_of_ble_eq_true rfl) rfl rfl rfl rfl (fun r cs' hp => ?_)
    obtain ⟨rfl, rfl⟩ := hp
    show Run _ _ _ _ 27 ([some (.ref 0), some (.int (nI p)), some (.int (4 : Int32)), some (.int v), some (.int (f_P_refusal rf (nI p) (4 : Int32) (2 : Int32)))], [], Ac fp le lp lb il tf tz (sbf (u4 b p v)) rf fr mp sc ifp ib ie pw dh rl rb re sy sb rc sg ex) _
    refine Run.blk (gs := [True]) (S' := ([some (.ref 0), some (.int (nI p)), some (.int (4 : Int32)), some (.int v), some (.int (f_P_refusal rf (nI p) (4 : Int32) (2 : Int32)))], [.int (f_P_refusal rf (nI p) (4 : Int32) (2 : Int32))], Ac fp le lp lb il tf tz (sbf (u4 b p v)) rf fr mp sc ifp ib ie pw dh rl rb re sy sb rc sg ex)) k_L_write_27 kc_L_write_27 rfl ⟨trivial, trivial⟩ ?_
    exact Run.ret (r := some (.int (f_P_refusal rf (nI p) (4 : Int32) (2 : Int32)))) ⟨d_L_write_29, _, rfl, rfl⟩ ⟨by rw [hr], rfl⟩
set_option maxRecDepth 100000 in
set_option maxHeartbeats 4000000 in
theorem c_L_fetch_4 (hb : ∀ j, b j < 256) {p : Nat} {x : Int32} (hx : x = nI p) (hp : p + 4 ≤ 16384) (hr : f_P_refusal rf x 4 1 = 0) : Ct m_L_fetch 0 0 [.ref 0, .int x] (Ac fp le lp lb il tf tz (sbf b) rf fr mp sc ifp ib ie pw dh rl rb re sy sb rc sg ex) (vm_is (some (.long (lN (n4 b p)))) (Ac fp le lp lb il tf tz (sbf b) rf fr mp sc ifp ib ie pw dh rl rb re sy sb rc sg ex)) := by
  subst hx
  refine Ct.of ⟨by decide +kernel, rfl⟩ (Nat.le_of_ble_eq_true rfl) (lv := [some (.ref 0), some (.int (nI p)), none]) rfl ?_
  refine Run.blk (gs := [True, True, True, True, True]) (S' := ([some (.ref 0), some (.int (nI p)), none], [.int (1 : Int32), .int (4 : Int32), .int (nI p), .ref 3], Ac fp le lp lb il tf tz (sbf b) rf fr mp sc ifp ib ie pw dh rl rb re sy sb rc sg ex)) k_L_fetch_0 kc_L_fetch_0 rfl ⟨trivial, trivial, trivial, trivial, trivial, trivial⟩ ?_
  refine Run.callV (b := 3) (As := [.int (nI p), .int (4 : Int32), .int (1 : Int32)]) (rest := []) v_L_fetch_7 c_P_refusal rfl (Nat.le_of_ble_eq_true rfl) rfl rfl rfl rfl (fun r cs' hp => ?_)
  obtain ⟨rfl, rfl⟩ := hp
  show Run _ _ _ _ 10 ([some (.ref 0), some (.int (nI p)), none], [.int (f_P_refusal rf (nI p) (4 : Int32) (1 : Int32))], Ac fp le lp lb il tf tz (sbf b) rf fr mp sc ifp ib ie pw dh rl rb re sy sb rc sg ex) _
  refine Run.blk (gs := [True, True]) (S' := ([some (.ref 0), some (.int (nI p)), some (.int (f_P_refusal rf (nI p) (4 : Int32) (1 : Int32)))], [.int (f_P_refusal rf (nI p) (4 : Int32) (1 : Int32))], Ac fp le lp lb il tf tz (sbf b) rf fr mp sc ifp ib ie pw dh rl rb re sy sb rc sg ex)) k_L_fetch_10 kc_L_fetch_10 rfl ⟨trivial, trivial, trivial⟩ ?_
  refine Run.br (tgt := 27) d_L_fetch_12 rfl (by decide) (fun c_1 => ?_) (fun c_1 => ?_)
  · exact absurd hr c_1
  · have c_1 := Classical.not_not.mp c_1
    refine Run.blk (gs := [True, True, True, True]) (S' := ([some (.ref 0), some (.int (nI p)), some (.int (f_P_refusal rf (nI p) (4 : Int32) (1 : Int32)))], [.int (4 : Int32), .int (nI p), .ref 3], Ac fp le lp lb il tf tz (sbf b) rf fr mp sc ifp ib ie pw dh rl rb re sy sb rc sg ex)) k_L_fetch_15 kc_L_fetch_15 rfl ⟨trivial, trivial, trivial, trivial, trivial⟩ ?_
    refine Run.callV (b := 3) (As := [.int (nI p), .int (4 : Int32)]) (rest := []) v_L_fetch_21 (c_P_number4 hb rfl hp) rfl (Nat.le_of_ble_eq_true rfl) rfl rfl rfl rfl (fun r cs' hp => ?_)
    obtain ⟨rfl, rfl⟩ := hp
    show Run _ _ _ _ 24 ([some (.ref 0), some (.int (nI p)), some (.int (f_P_refusal rf (nI p) (4 : Int32) (1 : Int32)))], [.long (lN (n4 b p))], Ac fp le lp lb il tf tz (sbf b) rf fr mp sc ifp ib ie pw dh rl rb re sy sb rc sg ex) _
    refine Run.goto (tgt := 29) d_L_fetch_24 (by decide) ?_
    exact Run.ret (r := some (.long (lN (n4 b p)))) ⟨d_L_fetch_29, rfl⟩ ⟨rfl, rfl⟩
def sS (b : Nat → Nat) (rf : Nat → Int32) (p : Nat) : Nat → Int32
  | 0 => 7
  | i + 1 => if rf (p + i) = -1 then sm0 (sS b rf p i) 256 else sm1 b (p + i) (sS b rf p i) 256
set_option maxRecDepth 100000 in
set_option maxHeartbeats 4000000 in
theorem c_L_sum_A {x y : Int32} (hx : ¬ (y.toInt = 0 ∨ (0 < y.toInt ∧ y.toInt ≤ 64 ∧ 0 ≤ x.toInt ∧ x.toInt ≤ 64 - y.toInt))) : Ct m_L_sum 0 0 [.ref 0, .int x, .int y] (Ac fp le lp lb il tf tz bf rf fr mp sc ifp ib ie pw dh rl rb re sy sb rc sg ex) (vm_is (some (.int (0 : Int32))) (Ac fp le lp lb il tf tz bf rf fr mp sc ifp ib ie pw dh rl rb re sy sb rc sg ex)) := by
  refine Ct.of ⟨by decide +kernel, rfl⟩ (Nat.le_of_ble_eq_true rfl) (lv := [some (.ref 0), some (.int x), some (.int y), none, none]) rfl ?_
  refine Run.blk (gs := [True, True]) (S' := ([some (.ref 0), some (.int x), some (.int y), none, none], [.int y, .int x], Ac fp le lp lb il tf tz bf rf fr mp sc ifp ib ie pw dh rl rb re sy sb rc sg ex)) k_L_sum_0 kc_L_sum_0 rfl ⟨trivial, trivial, trivial⟩ ?_
  refine Run.callS (As := [.int x, .int y]) (rest := []) v_L_sum_2 (c_L_arePages x y) rfl (Nat.le_of_ble_eq_true rfl) rfl (fun r cs' hp => ?_)
  obtain ⟨rfl, rfl⟩ := hp
  show Run _ _ _ _ 5 ([some (.ref 0), some (.int x), some (.int y), none, none], [.int (if y.toInt = 0 ∨ (0 < y.toInt ∧ y.toInt ≤ 64 ∧ 0 ≤ x.toInt ∧ x.toInt ≤ 64 - y.toInt) then 1 else 0)], Ac fp le lp lb il tf tz bf rf fr mp sc ifp ib ie pw dh rl rb re sy sb rc sg ex) _
  refine Run.br (tgt := 10) d_L_sum_5 rfl (by decide) (fun c_1 => ?_) (fun c_1 => ?_)
  · have c_1 := zi_t c_1
    exact absurd c_1 hx
  · have c_1 := zi_f (Classical.not_not.mp c_1)
    refine Run.blk (gs := [True]) (S' := ([some (.ref 0), some (.int x), some (.int y), none, none], [.int (0 : Int32)], Ac fp le lp lb il tf tz bf rf fr mp sc ifp ib ie pw dh rl rb re sy sb rc sg ex)) k_L_sum_8 kc_L_sum_8 rfl ⟨trivial, trivial⟩ ?_
    exact Run.ret (r := some (.int (0 : Int32))) ⟨d_L_sum_9, _, rfl, rfl⟩ ⟨rfl, rfl⟩
set_option maxRecDepth 100000 in
set_option maxHeartbeats 4000000 in
theorem c_L_sum_0 {x : Int32} : Ct m_L_sum 0 0 [.ref 0, .int x, .int (0 : Int32)] (Ac fp le lp lb il tf tz bf rf fr mp sc ifp ib ie pw dh rl rb re sy sb rc sg ex) (vm_is (some (.int (7 : Int32))) (Ac fp le lp lb il tf tz bf rf fr mp sc ifp ib ie pw dh rl rb re sy sb rc sg ex)) := by
  refine Ct.of ⟨by decide +kernel, rfl⟩ (Nat.le_of_ble_eq_true rfl) (lv := [some (.ref 0), some (.int x), some (.int (0 : Int32)), none, none]) rfl ?_
  refine Run.blk (gs := [True, True]) (S' := ([some (.ref 0), some (.int x), some (.int (0 : Int32)), none, none], [.int (0 : Int32), .int x], Ac fp le lp lb il tf tz bf rf fr mp sc ifp ib ie pw dh rl rb re sy sb rc sg ex)) k_L_sum_0 kc_L_sum_0 rfl ⟨trivial, trivial, trivial⟩ ?_
  refine Run.callS (As := [.int x, .int (0 : Int32)]) (rest := []) v_L_sum_2 (c_L_arePages x (0 : Int32)) rfl (Nat.le_of_ble_eq_true rfl) rfl (fun r cs' hp => ?_)
  obtain ⟨rfl, rfl⟩ := hp
  show Run _ _ _ _ 5 ([some (.ref 0), some (.int x), some (.int (0 : Int32)), none, none], [.int (if (0 : Int32).toInt = 0 ∨ (0 < (0 : Int32).toInt ∧ (0 : Int32).toInt ≤ 64 ∧ 0 ≤ x.toInt ∧ x.toInt ≤ 64 - (0 : Int32).toInt) then 1 else 0)], Ac fp le lp lb il tf tz bf rf fr mp sc ifp ib ie pw dh rl rb re sy sb rc sg ex) _
  refine Run.br (tgt := 10) d_L_sum_5 rfl (by decide) (fun c_1 => ?_) (fun c_1 => ?_)
  · have c_1 := zi_t c_1
    refine Run.blk (gs := [True, True, True, True]) (S' := ([some (.ref 0), some (.int x), some (.int (0 : Int32)), some (.int (7 : Int32)), some (.int (0 : Int32))], [], Ac fp le lp lb il tf tz bf rf fr mp sc ifp ib ie pw dh rl rb re sy sb rc sg ex)) k_L_sum_10 kc_L_sum_10 rfl ⟨trivial, trivial, trivial, trivial, trivial⟩ ?_
    refine Run.blk (gs := [True, True]) (S' := ([some (.ref 0), some (.int x), some (.int (0 : Int32)), some (.int (7 : Int32)), some (.int (0 : Int32))], [.int (0 : Int32), .int (0 : Int32)], Ac fp le lp lb il tf tz bf rf fr mp sc ifp ib ie pw dh rl rb re sy sb rc sg ex)) k_L_sum_16 kc_L_sum_16 rfl ⟨trivial, trivial, trivial⟩ ?_
    refine Run.br (tgt := 41) d_L_sum_19 rfl (by decide) (fun c_2 => ?_) (fun c_2 => ?_)
    · refine Run.blk (gs := [True]) (S' := ([some (.ref 0), some (.int x), some (.int (0 : Int32)), some (.int (7 : Int32)), some (.int (0 : Int32))], [.int (7 : Int32)], Ac fp le lp lb il tf tz bf rf fr mp sc ifp ib ie pw dh rl rb re sy sb rc sg ex)) k_L_sum_41 kc_L_sum_41 rfl ⟨trivial, trivial⟩ ?_
      exact Run.ret (r := some (.int (7 : Int32))) ⟨d_L_sum_42, _, rfl, rfl⟩ ⟨rfl, rfl⟩
    · exact absurd (by decide) c_2
  · have c_1 := zi_f (Classical.not_not.mp c_1)
    exact absurd (Or.inl (by decide)) c_1
set_option maxRecDepth 100000 in
set_option maxHeartbeats 4000000 in
theorem l_L_sum (hb : ∀ j, b j < 256) {p k : Nat} (hpk : p + k ≤ 64) : ∀ (r i : Nat) (s v : Int32), v = nI i → s = sS b rf p i → i + r = k → Run m_L_sum n 0 0 16 ([some (.ref 0), some (.int (nI p)), some (.int (nI k)), some (.int s), some (.int v)], [], Ac fp le lp lb il tf tz (sbf b) rf fr mp sc ifp ib ie pw dh rl rb re sy sb rc sg ex) (vm_is (some (.int (sS b rf p k))) (Ac fp le lp lb il tf tz (sbf b) rf fr mp sc ifp ib ie pw dh rl rb re sy sb rc sg ex))
  | 0, i, s, v, hv, hs, h => by
    have hik : i = k := by omega
    refine Run.blk (gs := [True, True]) (S' := ([some (.ref 0), some (.int (nI p)), some (.int (nI k)), some (.int s), some (.int v)], [.int (nI k), .int v], Ac fp le lp lb il tf tz (sbf b) rf fr mp sc ifp ib ie pw dh rl rb re sy sb rc sg ex)) k_L_sum_16 kc_L_sum_16 rfl ⟨trivial, trivial, trivial⟩ ?_
    refine Run.br (tgt := 41) d_L_sum_19 rfl (by decide) (fun c_1 => ?_) (fun c_1 => ?_)
    · refine Run.blk (gs := [True]) (S' := ([some (.ref 0), some (.int (nI p)), some (.int (nI k)), some (.int s), some (.int v)], [.int s], Ac fp le lp lb il tf tz (sbf b) rf fr mp sc ifp ib ie pw dh rl rb re sy sb rc sg ex)) k_L_sum_41 kc_L_sum_41 rfl ⟨trivial, trivial⟩ ?_
      exact Run.ret (r := some (.int s)) ⟨d_L_sum_42, _, rfl, rfl⟩ ⟨by rw [hs, hik], rfl⟩
    · exact absurd (by rw [hv, hik]; exact Int32.le_refl _) c_1
  | r + 1, i, s, v, hv, hs, h => by
    refine Run.blk (gs := [True, True]) (S' := ([some (.ref 0), some (.int (nI p)), some (.int (nI k)), some (.int s), some (.int v)], [.int (nI k), .int v], Ac fp le lp lb il tf tz (sbf b) rf fr mp sc ifp ib ie pw dh rl rb re sy sb rc sg ex)) k_L_sum_16 kc_L_sum_16 rfl ⟨trivial, trivial, trivial⟩ ?_
    refine Run.br (tgt := 41) d_L_sum_19 rfl (by decide) (fun c_1 => ?_) (fun c_1 => ?_)
    · exact absurd c_1 (by rw [hv]; exact nI_ge (show i < k by omega) (by omega))
    · refine Run.blk (gs := [True, True, True, True, True, True]) (S' := ([some (.ref 0), some (.int (nI p)), some (.int (nI k)), some (.int s), some (.int v)], [.int ((nI p) + v), .int s, .ref 3], Ac fp le lp lb il tf tz (sbf b) rf fr mp sc ifp ib ie pw dh rl rb re sy sb rc sg ex)) k_L_sum_22 kc_L_sum_22 rfl ⟨trivial, trivial, trivial, trivial, trivial, trivial, trivial⟩ ?_
      refine Run.callV (b := 3) (As := [.int s, .int ((nI p) + v)]) (rest := []) v_L_sum_31 (c_P_sumOn (p := p + i) (by rw [hv, nI_add]) (by omega) hb) rfl (Nat.le_of_ble_eq_true rfl) rfl rfl rfl rfl (fun r cs' hp => ?_)
      obtain ⟨rfl, rfl⟩ := hp
      show Run _ _ _ _ 34 ([some (.ref 0), some (.int (nI p)), some (.int (nI k)), some (.int s), some (.int v)], [.int (if rf (p + i) = -1 then sm0 s 256 else sm1 b (p + i) s 256)], Ac fp le lp lb il tf tz (sbf b) rf fr mp sc ifp ib ie pw dh rl rb re sy sb rc sg ex) _
      refine Run.blk (gs := [True, True]) (S' := ([some (.ref 0), some (.int (nI p)), some (.int (nI k)), some (.int (if rf (p + i) = -1 then sm0 s 256 else sm1 b (p + i) s 256)), some (.int (v + (1 : Int32)))], [], Ac fp le lp lb il tf tz (sbf b) rf fr mp sc ifp ib ie pw dh rl rb re sy sb rc sg ex)) k_L_sum_34 kc_L_sum_34 rfl ⟨trivial, trivial, trivial⟩ ?_
      refine Run.goto (tgt := 16) d_L_sum_38 (by decide) ?_
      exact l_L_sum hb hpk r (i + 1) _ _ (by rw [hv, nI_1]) (by rw [hs]; rfl) (by omega)
set_option maxRecDepth 100000 in
set_option maxHeartbeats 4000000 in
theorem c_L_sum_B (hb : ∀ j, b j < 256) {p k : Nat} {x y : Int32} (hx : x = nI p) (hy : y = nI k) (h1 : 1 ≤ k) (h2 : p + k ≤ 64) : Ct m_L_sum 0 0 [.ref 0, .int x, .int y] (Ac fp le lp lb il tf tz (sbf b) rf fr mp sc ifp ib ie pw dh rl rb re sy sb rc sg ex) (vm_is (some (.int (sS b rf p k))) (Ac fp le lp lb il tf tz (sbf b) rf fr mp sc ifp ib ie pw dh rl rb re sy sb rc sg ex)) := by
  subst hx
  subst hy
  refine Ct.of ⟨by decide +kernel, rfl⟩ (Nat.le_of_ble_eq_true rfl) (lv := [some (.ref 0), some (.int (nI p)), some (.int (nI k)), none, none]) rfl ?_
  refine Run.blk (gs := [True, True]) (S' := ([some (.ref 0), some (.int (nI p)), some (.int (nI k)), none, none], [.int (nI k), .int (nI p)], Ac fp le lp lb il tf tz (sbf b) rf fr mp sc ifp ib ie pw dh rl rb re sy sb rc sg ex)) k_L_sum_0 kc_L_sum_0 rfl ⟨trivial, trivial, trivial⟩ ?_
  refine Run.callS (As := [.int (nI p), .int (nI k)]) (rest := []) v_L_sum_2 (c_L_arePages (nI p) (nI k)) rfl (Nat.le_of_ble_eq_true rfl) rfl (fun r cs' hp => ?_)
  obtain ⟨rfl, rfl⟩ := hp
  show Run _ _ _ _ 5 ([some (.ref 0), some (.int (nI p)), some (.int (nI k)), none, none], [.int (if (nI k).toInt = 0 ∨ (0 < (nI k).toInt ∧ (nI k).toInt ≤ 64 ∧ 0 ≤ (nI p).toInt ∧ (nI p).toInt ≤ 64 - (nI k).toInt) then 1 else 0)], Ac fp le lp lb il tf tz (sbf b) rf fr mp sc ifp ib ie pw dh rl rb re sy sb rc sg ex) _
  refine Run.br (tgt := 10) d_L_sum_5 rfl (by decide) (fun c_1 => ?_) (fun c_1 => ?_)
  · have c_1 := zi_t c_1
    refine Run.blk (gs := [True, True, True, True]) (S' := ([some (.ref 0), some (.int (nI p)), some (.int (nI k)), some (.int (7 : Int32)), some (.int (0 : Int32))], [], Ac fp le lp lb il tf tz (sbf b) rf fr mp sc ifp ib ie pw dh rl rb re sy sb rc sg ex)) k_L_sum_10 kc_L_sum_10 rfl ⟨trivial, trivial, trivial, trivial, trivial⟩ ?_
    exact l_L_sum hb h2 k 0 _ _ rfl rfl (by omega)
  · have c_1 := zi_f (Classical.not_not.mp c_1)
    exfalso; apply c_1; rw [nI_toInt (show p < 2 ^ 31 by omega), nI_toInt (show k < 2 ^ 31 by omega)]; omega
end P20
end
section
section P21
variable {fp le lp lb il : Int32} {tf bf rf : Nat → Int32} {tz fr mp sc ifp ib ie pw dh rc : Int32} {rl rb re sy sb : Int64} {sg : Nat → A_G} {ex : List va_E}
variable {mth mfr msz msn mwn mba mdy mfa mpl men mpg mct mim : Int32} {mtf mmp mrg mme mfo mfi mmy mwa : Nat → Int32} {mbg mhd mkn : Nat → Int64}
variable {t b : Nat → Nat} {z n : Nat}
def nif (t : Nat → Nat) : Nat → Int32 := fun j => nI (t j)
theorem upd_nif (t : Nat → Nat) (k v : Nat) : upd (nif t) k (nI v) = nif (upN t k v) := by
  funext j
  unfold upd nif upN
  by_cases h : j = k
  · rw [if_pos h, if_pos h]
  · rw [if_neg h, if_neg h]
def Rm (rf mp rg : Nat → Int32) : Prop := ∀ j, j < 64 → (rf j = -1 ∧ mp j = 0) ∨ (¬ rf j = -1 ∧ mp j = 1 ∧ rg j = rf j)
theorem Rm.m0 {rf mp rg : Nat → Int32} (h : Rm rf mp rg) {j : Nat} (hj : j < 64) : mp j = 0 ↔ rf j = -1 := by
  rcases h j hj with ⟨h1, h2⟩ | ⟨h1, h2, h3⟩
  · exact ⟨fun _ => h1, fun _ => h2⟩
  · exact ⟨fun q => absurd (h2.symm.trans q) (by decide), fun q => absurd q h1⟩
theorem Rm.r {rf mp rg : Nat → Int32} (h : Rm rf mp rg) {j : Nat} (hj : j < 64) (hr : ¬ rf j = -1) : rg j = rf j := by
  rcases h j hj with ⟨h1, h2⟩ | ⟨h1, h2, h3⟩
  · exact absurd h1 hr
  · exact h3
theorem and255 (x : Int32) : x &&& 255 = nI (x.toBitVec.toNat % 256) := pk_and x (m := 255) 8 (by decide)
theorem and255l (x : Int64) : x &&& 255 = lN (x.toBitVec.toNat % 256) := by
  obtain ⟨m, hm, rfl⟩ := wb_of x
  rw [wb_tn hm]
  exact g_mask (s := 8) rfl (by decide) hm
theorem wsh (w : Int64) {v : Int32} {i : Nat} (hv : v = nI i) (hi : i < 8) : ((w >>> (((8 : Int32) * v).toInt64 &&& 63)) &&& 255).toInt32 = nI (wby w i) := by
  rw [hv, show (8 : Int32) * nI i = nI (8 * i) from pk_mul 8 i, wb_c _ (by omega), and255l, lN_i]
  congr 1
  unfold wby
  have e : (w >>> lN (8 * i)).toBitVec = w.toBitVec.sshiftRight (8 * i) := by
    rw [Int64.toBitVec_shiftRight, wb_tb, wb_sm _ (by omega)]
    show w.toBitVec.sshiftRight (BitVec.ofNat 64 (8 * i)).toNat = _
    rw [BitVec.toNat_ofNat, Nat.mod_eq_of_lt (by omega)]
  rw [e]
  apply Nat.eq_of_testBit_eq
  intro j
  rw [show (256 : Nat) = 2 ^ 8 from rfl, Nat.testBit_mod_two_pow, Nat.testBit_mod_two_pow, ← Nat.pow_mul, Nat.testBit_div_two_pow]
  by_cases hj : j < 8
  · have h1 : (w.toBitVec.sshiftRight (8 * i)).toNat.testBit j = (w.toBitVec.sshiftRight (8 * i)).getLsbD j := rfl
    have h2 : w.toBitVec.toNat.testBit (8 * i + j) = w.toBitVec.getLsbD (8 * i + j) := rfl
    rw [show j + 8 * i = 8 * i + j by omega, h1, h2, BitVec.getLsbD_sshiftRight]
    simp [show ¬ 64 ≤ j by omega, show 8 * i + j < 64 by omega]
  · simp [hj]
theorem vsh (v : Int32) {s : Int32} {i : Nat} (hs : s &&& 31 = nI (8 * i)) (hi : i < 4) : (v >>> (s &&& 31)) &&& 255 = nI (byt v i) := by
  rw [hs, and255]
  congr 1
  unfold byt
  have e : (v >>> nI (8 * i)).toBitVec = v.toBitVec.sshiftRight (8 * i) := by
    rw [Int32.toBitVec_shiftRight]
    have : (nI (8 * i)).toBitVec.smod 32 = BitVec.ofNat 32 (8 * i) := by
      have : ∀ k, k < 32 → (BitVec.ofNat 32 k).smod 32 = BitVec.ofNat 32 k := by decide +kernel
      exact this _ (by omega)
    rw [this]
    show v.toBitVec.sshiftRight (BitVec.ofNat 32 (8 * i)).toNat = _
    rw [BitVec.toNat_ofNat, Nat.mod_eq_of_lt (by omega)]
  rw [e]
  apply Nat.eq_of_testBit_eq
  intro j
  rw [show (256 : Nat) = 2 ^ 8 from rfl, Nat.testBit_mod_two_pow, Nat.testBit_mod_two_pow, ← Nat.pow_mul, Nat.testBit_div_two_pow]
  by_cases hj : j < 8
  · have h1 : (v.toBitVec.sshiftRight (8 * i)).toNat.testBit j = (v.toBitVec.sshiftRight (8 * i)).getLsbD j := rfl
    have h2 : v.toBitVec.toNat.testBit (8 * i + j) = v.toBitVec.getLsbD (8 * i + j) := rfl
    rw [show j + 8 * i = 8 * i + j by omega, h1, h2, BitVec.getLsbD_sshiftRight]
    simp [show ¬ 32 ≤ j by omega, show 8 * i + j < 32 by omega]
  · simp [hj]
theorem i32_in (x : Int32) (a c : Int32) {A C : Int} (ha : a.toInt = A) (hc : c.toInt = C) : (a.toInt ≤ x.toInt ∧ x.toInt ≤ c.toInt) ↔ (A ≤ x.toInt ∧ x.toInt ≤ C) := by rw [ha, hc]
set_option maxRecDepth 100000 in
set_option maxHeartbeats 4000000 in
theorem c_M_add_A (w : Int64) {x : Int32} (hx : ¬ (1 ≤ x.toInt ∧ x.toInt ≤ 8)) : Ct m_M_add 0 0 [.ref 16, .long w, .int x] (Ac fp le lp lb il tf tz bf rf fr mp sc ifp ib ie pw dh rl rb re sy sb rc sg (Bc mth mfr (nI z) mtf mmp mrg mme msn mbg mhd mfo mfi mmy mwa mwn mba mdy mkn mfa mpl men mpg mct mim)) (vm_is (some (.int (-2 : Int32))) (Ac fp le lp lb il tf tz bf rf fr mp sc ifp ib ie pw dh rl rb re sy sb rc sg (Bc (0 : Int32) mfr (nI z) mtf mmp mrg mme msn mbg mhd mfo mfi mmy mwa mwn mba mdy mkn mfa mpl men mpg mct mim))) := by
  refine Ct.of ⟨by decide +kernel, rfl⟩ (Nat.le_of_ble_eq_true rfl) (lv := [some (.ref 16), some (.long w), none, some (.int x), none]) rfl ?_
  refine Run.blk (gs := [True, True, True, True, True, True]) (S' := ([some (.ref 16), some (.long w), none, some (.int x), none], [.int (8 : Int32), .int (1 : Int32), .int x], Ac fp le lp lb il tf tz bf rf fr mp sc ifp ib ie pw dh rl rb re sy sb rc sg (Bc (0 : Int32) mfr (nI z) mtf mmp mrg mme msn mbg mhd mfo mfi mmy mwa mwn mba mdy mkn mfa mpl men mpg mct mim))) k_M_add_0 kc_M_add_0 rfl ⟨trivial, trivial, trivial, trivial, trivial, trivial, trivial⟩ ?_
  refine Run.callS (As := [.int x, .int (1 : Int32), .int (8 : Int32)]) (rest := []) v_M_add_9 (c_M_in x (1 : Int32) (8 : Int32)) rfl (Nat.le_of_ble_eq_true rfl) rfl (fun r cs' hp => ?_)
  obtain ⟨rfl, rfl⟩ := hp
  show Run _ _ _ _ 12 ([some (.ref 16), some (.long w), none, some (.int x), none], [.int (if (1 : Int32).toInt ≤ x.toInt ∧ x.toInt ≤ (8 : Int32).toInt then 1 else 0)], Ac fp le lp lb il tf tz bf rf fr mp sc ifp ib ie pw dh rl rb re sy sb rc sg (Bc (0 : Int32) mfr (nI z) mtf mmp mrg mme msn mbg mhd mfo mfi mmy mwa mwn mba mdy mkn mfa mpl men mpg mct mim)) _
  refine Run.br (tgt := 18) d_M_add_12 rfl (by decide) (fun c_1 => ?_) (fun c_1 => ?_)
  · have c_1 := zi_t c_1
    exfalso; simp only [← Int32.toInt_inj, Int32.lt_iff_toInt_lt, Int32.le_iff_toInt_le, t0, t1, t2, t4, t64, ti7, ti8, ti900, tim1] at *; omega
  · have c_1 := zi_f (Classical.not_not.mp c_1)
    refine Run.blk (gs := [True]) (S' := ([some (.ref 16), some (.long w), none, some (.int x), none], [.int (-2 : Int32)], Ac fp le lp lb il tf tz bf rf fr mp sc ifp ib ie pw dh rl rb re sy sb rc sg (Bc (0 : Int32) mfr (nI z) mtf mmp mrg mme msn mbg mhd mfo mfi mmy mwa mwn mba mdy mkn mfa mpl men mpg mct mim))) k_M_add_15 kc_M_add_15 rfl ⟨trivial, trivial⟩ ?_
    exact Run.ret (r := some (.int (-2 : Int32))) ⟨d_M_add_17, _, rfl, rfl⟩ ⟨rfl, rfl⟩
set_option maxRecDepth 100000 in
set_option maxHeartbeats 4000000 in
theorem c_M_add_B (w : Int64) {k : Nat} (hz : z ≤ 900) {x : Int32} (hx : x = nI k) (h1 : 1 ≤ k) (h2 : k ≤ 8) (h3 : 900 < z + k) : Ct m_M_add 0 0 [.ref 16, .long w, .int x] (Ac fp le lp lb il tf tz bf rf fr mp sc ifp ib ie pw dh rl rb re sy sb rc sg (Bc mth mfr (nI z) mtf mmp mrg mme msn mbg mhd mfo mfi mmy mwa mwn mba mdy mkn mfa mpl men mpg mct mim)) (vm_is (some (.int (-3 : Int32))) (Ac fp le lp lb il tf tz bf rf fr mp sc ifp ib ie pw dh rl rb re sy sb rc sg (Bc (0 : Int32) mfr (nI z) mtf mmp mrg mme msn mbg mhd mfo mfi mmy mwa mwn mba mdy mkn mfa mpl men mpg mct mim))) := by
  subst hx
  refine Ct.of ⟨by decide +kernel, rfl⟩ (Nat.le_of_ble_eq_true rfl) (lv := [some (.ref 16), some (.long w), none, some (.int (nI k)), none]) rfl ?_
  refine Run.blk (gs := [True, True, True, True, True, True]) (S' := ([some (.ref 16), some (.long w), none, some (.int (nI k)), none], [.int (8 : Int32), .int (1 : Int32), .int (nI k)], Ac fp le lp lb il tf tz bf rf fr mp sc ifp ib ie pw dh rl rb re sy sb rc sg (Bc (0 : Int32) mfr (nI z) mtf mmp mrg mme msn mbg mhd mfo mfi mmy mwa mwn mba mdy mkn mfa mpl men mpg mct mim))) k_M_add_0 kc_M_add_0 rfl ⟨trivial, trivial, trivial, trivial, trivial, trivial, trivial⟩ ?_
  refine Run.callS (As := [.int (nI k), .int (1 : Int32), .int (8 : Int32)]) (rest := []) v_M_add_9 (c_M_in (nI k) (1 : Int32) (8 : Int32)) rfl (Nat.le_of_ble_eq_true rfl) rfl (fun r cs' hp => ?_)
  obtain ⟨rfl, rfl⟩ := hp
  show Run _ _ _ _ 12 ([some (.ref 16), some (.long w), none, some (.int (nI k)), none], [.int (if (1 : Int32).toInt ≤ (nI k).toInt ∧ (nI k).toInt ≤ (8 : Int32).toInt then 1 else 0)], Ac fp le lp lb il tf tz bf rf fr mp sc ifp ib ie pw dh rl rb re sy sb rc sg (Bc (0 : Int32) mfr (nI z) mtf mmp mrg mme msn mbg mhd mfo mfi mmy mwa mwn mba mdy mkn mfa mpl men mpg mct mim)) _
  refine Run.br (tgt := 18) d_M_add_12 rfl (by decide) (fun c_1 => ?_) (fun c_1 => ?_)
  · have c_1 := zi_t c_1
    refine Run.blk (gs := [True, True, True, True, True]) (S' := ([some (.ref 16), some (.long w), none, some (.int (nI k)), none], [.int (900 : Int32), .int ((nI z) + (nI k))], Ac fp le lp lb il tf tz bf rf fr mp sc ifp ib ie pw dh rl rb re sy sb rc sg (Bc (0 : Int32) mfr (nI z) mtf mmp mrg mme msn mbg mhd mfo mfi mmy mwa mwn mba mdy mkn mfa mpl men mpg mct mim))) k_M_add_18 kc_M_add_18 rfl ⟨trivial, trivial, trivial, trivial, trivial, trivial⟩ ?_
    refine Run.br (tgt := 33) d_M_add_27 rfl (by decide) (fun c_2 => ?_) (fun c_2 => ?_)
    · exfalso; simp only [← Int32.toInt_inj, Int32.lt_iff_toInt_lt, Int32.le_iff_toInt_le, t0, t1, t2, t4, t64, ti7, ti8, ti900, tim1, nI_add, nI_toInt (show z + k < 2 ^ 31 by omega), nI_toInt (show k < 2 ^ 31 by omega)] at *; omega
    · refine Run.blk (gs := [True]) (S' := ([some (.ref 16), some (.long w), none, some (.int (nI k)), none], [.int (-3 : Int32)], Ac fp le lp lb il tf tz bf rf fr mp sc ifp ib ie pw dh rl rb re sy sb rc sg (Bc (0 : Int32) mfr (nI z) mtf mmp mrg mme msn mbg mhd mfo mfi mmy mwa mwn mba mdy mkn mfa mpl men mpg mct mim))) k_M_add_30 kc_M_add_30 rfl ⟨trivial, trivial⟩ ?_
      exact Run.ret (r := some (.int (-3 : Int32))) ⟨d_M_add_32, _, rfl, rfl⟩ ⟨rfl, rfl⟩
  · have c_1 := zi_f (Classical.not_not.mp c_1)
    exfalso; simp only [← Int32.toInt_inj, Int32.lt_iff_toInt_lt, Int32.le_iff_toInt_le, t0, t1, t2, t4, t64, ti7, ti8, ti900, tim1, nI_add, nI_toInt (show z + k < 2 ^ 31 by omega), nI_toInt (show k < 2 ^ 31 by omega)] at *; omega
set_option maxRecDepth 100000 in
set_option maxHeartbeats 4000000 in
theorem l_M_add {k : Nat} (w : Int64) (hk : k ≤ 8) (hzk : z + k ≤ 900) : ∀ (r i : Nat) (v : Int32) (tt : Nat → Nat) (zz : Nat), v = nI i → tt = apW t z w i → zz = z + i → i + r = k → Run m_M_add n 0 0 36 ([some (.ref 16), some (.long w), none, some (.int (nI k)), some (.int v)], [], Ac fp le lp lb il tf tz bf rf fr mp sc ifp ib ie pw dh rl rb re sy sb rc sg (Bc (0 : Int32) mfr (nI zz) (nif tt) mmp mrg mme msn mbg mhd mfo mfi mmy mwa mwn mba mdy mkn mfa mpl men mpg mct mim)) (vm_is (some (.int (nI (z + k)))) (Ac fp le lp lb il tf tz bf rf fr mp sc ifp ib ie pw dh rl rb re sy sb rc sg (Bc (0 : Int32) mfr (nI (z + k)) (nif (apW t z w k)) mmp mrg mme msn mbg mhd mfo mfi mmy mwa mwn mba mdy mkn mfa mpl men mpg mct mim)))
  | 0, i, v, tt, zz, hv, htt, hzz, h => by
    have hik : i = k := by omega
    refine Run.blk (gs := [True, True]) (S' := ([some (.ref 16), some (.long w), none, some (.int (nI k)), some (.int v)], [.int (nI k), .int v], Ac fp le lp lb il tf tz bf rf fr mp sc ifp ib ie pw dh rl rb re sy sb rc sg (Bc (0 : Int32) mfr (nI zz) (nif tt) mmp mrg mme msn mbg mhd mfo mfi mmy mwa mwn mba mdy mkn mfa mpl men mpg mct mim))) k_M_add_36 kc_M_add_36 rfl ⟨trivial, trivial, trivial⟩ ?_
    refine Run.br (tgt := 79) d_M_add_39 rfl (by decide) (fun c_1 => ?_) (fun c_1 => ?_)
    · refine Run.blk (gs := [True, True]) (S' := ([some (.ref 16), some (.long w), none, some (.int (nI k)), some (.int v)], [.int (nI zz)], Ac fp le lp lb il tf tz bf rf fr mp sc ifp ib ie pw dh rl rb re sy sb rc sg (Bc (0 : Int32) mfr (nI zz) (nif tt) mmp mrg mme msn mbg mhd mfo mfi mmy mwa mwn mba mdy mkn mfa mpl men mpg mct mim))) k_M_add_79 kc_M_add_79 rfl ⟨trivial, trivial, trivial⟩ ?_
      exact Run.ret (r := some (.int (nI zz))) ⟨d_M_add_83, _, rfl, rfl⟩ ⟨by rw [hzz, hik], by rw [htt, hzz, hik]⟩
    · exact absurd (by rw [hv, hik]; exact Int32.le_refl _) c_1
  | r + 1, i, v, tt, zz, hv, htt, hzz, h => by
    refine Run.blk (gs := [True, True]) (S' := ([some (.ref 16), some (.long w), none, some (.int (nI k)), some (.int v)], [.int (nI k), .int v], Ac fp le lp lb il tf tz bf rf fr mp sc ifp ib ie pw dh rl rb re sy sb rc sg (Bc (0 : Int32) mfr (nI zz) (nif tt) mmp mrg mme msn mbg mhd mfo mfi mmy mwa mwn mba mdy mkn mfa mpl men mpg mct mim))) k_M_add_36 kc_M_add_36 rfl ⟨trivial, trivial, trivial⟩ ?_
    refine Run.br (tgt := 79) d_M_add_39 rfl (by decide) (fun c_1 => ?_) (fun c_1 => ?_)
    · exact absurd c_1 (by rw [hv]; exact nI_ge (show i < k by omega) (by omega))
    · refine Run.blk (gs := [True, True, True, True, True, True, True, True, True, True, True, True, vp_in (nI zz) 900, True, True, True, True, True, True, True]) (S' := ([some (.ref 16), some (.long w), none, some (.int (nI k)), some (.int (v + (1 : Int32)))], [], Ac fp le lp lb il tf tz bf rf fr mp sc ifp ib ie pw dh rl rb re sy sb rc sg (Bc (0 : Int32) mfr ((nI zz) + (1 : Int32)) (upd (nif tt) (nI zz).toNatClampNeg (((w >>> (((8 : Int32) * v).toInt64 &&& 63)) &&& (255 : Int64)).toInt32)) mmp mrg mme msn mbg mhd mfo mfi mmy mwa mwn mba mdy mkn mfa mpl men mpg mct mim))) k_M_add_42 kc_M_add_42 rfl ⟨trivial, trivial, trivial, trivial, trivial, trivial, trivial, trivial, trivial, trivial, trivial, trivial, (vp_in_nI (show zz < 900 by omega) (by decide)), trivial, trivial, trivial, trivial, trivial, trivial, trivial, trivial⟩ ?_
      refine Run.goto (tgt := 36) d_M_add_76 (by decide) ?_
      rw [nI_clamp (by omega), wsh w hv (by omega), upd_nif, nI_1]
      exact l_M_add w hk hzk r (i + 1) _ _ _ (by rw [hv, nI_1]) (by rw [htt, hzz]; rfl) (by omega) (by omega)
set_option maxRecDepth 100000 in
set_option maxHeartbeats 4000000 in
theorem c_M_add_C (w : Int64) {k : Nat} {x : Int32} (hx : x = nI k) (h1 : 1 ≤ k) (h2 : k ≤ 8) (h3 : z + k ≤ 900) : Ct m_M_add 0 0 [.ref 16, .long w, .int x] (Ac fp le lp lb il tf tz bf rf fr mp sc ifp ib ie pw dh rl rb re sy sb rc sg (Bc mth mfr (nI z) (nif t) mmp mrg mme msn mbg mhd mfo mfi mmy mwa mwn mba mdy mkn mfa mpl men mpg mct mim)) (vm_is (some (.int (nI (z + k)))) (Ac fp le lp lb il tf tz bf rf fr mp sc ifp ib ie pw dh rl rb re sy sb rc sg (Bc (0 : Int32) mfr (nI (z + k)) (nif (apW t z w k)) mmp mrg mme msn mbg mhd mfo mfi mmy mwa mwn mba mdy mkn mfa mpl men mpg mct mim))) := by
  subst hx
  refine Ct.of ⟨by decide +kernel, rfl⟩ (Nat.le_of_ble_eq_true rfl) (lv := [some (.ref 16), some (.long w), none, some (.int (nI k)), none]) rfl ?_
  refine Run.blk (gs := [True, True, True, True, True, True]) (S' := ([some (.ref 16), some (.long w), none, some (.int (nI k)), none], [.int (8 : Int32), .int (1 : Int32), .int (nI k)], Ac fp le lp lb il tf tz bf rf fr mp sc ifp ib ie pw dh rl rb re sy sb rc sg (Bc (0 : Int32) mfr (nI z) (nif t) mmp mrg mme msn mbg mhd mfo mfi mmy mwa mwn mba mdy mkn mfa mpl men mpg mct mim))) k_M_add_0 kc_M_add_0 rfl ⟨trivial, trivial, trivial, trivial, trivial, trivial, trivial⟩ ?_
  refine Run.callS (As := [.int (nI k), .int (1 : Int32), .int (8 : Int32)]) (rest := []) v_M_add_9 (c_M_in (nI k) (1 : Int32) (8 : Int32)) rfl (Nat.le_of_ble_eq_true rfl) rfl (fun r cs' hp => ?_)
  obtain ⟨rfl, rfl⟩ := hp
  show Run _ _ _ _ 12 ([some (.ref 16), some (.long w), none, some (.int (nI k)), none], [.int (if (1 : Int32).toInt ≤ (nI k).toInt ∧ (nI k).toInt ≤ (8 : Int32).toInt then 1 else 0)], Ac fp le lp lb il tf tz bf rf fr mp sc ifp ib ie pw dh rl rb re sy sb rc sg (Bc (0 : Int32) mfr (nI z) (nif t) mmp mrg mme msn mbg mhd mfo mfi mmy mwa mwn mba mdy mkn mfa mpl men mpg mct mim)) _
  refine Run.br (tgt := 18) d_M_add_12 rfl (by decide) (fun c_1 => ?_) (fun c_1 => ?_)
  · have c_1 := zi_t c_1
    refine Run.blk (gs := [True, True, True, True, True]) (S' := ([some (.ref 16), some (.long w), none, some (.int (nI k)), none], [.int (900 : Int32), .int ((nI z) + (nI k))], Ac fp le lp lb il tf tz bf rf fr mp sc ifp ib ie pw dh rl rb re sy sb rc sg (Bc (0 : Int32) mfr (nI z) (nif t) mmp mrg mme msn mbg mhd mfo mfi mmy mwa mwn mba mdy mkn mfa mpl men mpg mct mim))) k_M_add_18 kc_M_add_18 rfl ⟨trivial, trivial, trivial, trivial, trivial, trivial⟩ ?_
    refine Run.br (tgt := 33) d_M_add_27 rfl (by decide) (fun c_2 => ?_) (fun c_2 => ?_)
    · refine Run.blk (gs := [True, True]) (S' := ([some (.ref 16), some (.long w), none, some (.int (nI k)), some (.int (0 : Int32))], [], Ac fp le lp lb il tf tz bf rf fr mp sc ifp ib ie pw dh rl rb re sy sb rc sg (Bc (0 : Int32) mfr (nI z) (nif t) mmp mrg mme msn mbg mhd mfo mfi mmy mwa mwn mba mdy mkn mfa mpl men mpg mct mim))) k_M_add_33 kc_M_add_33 rfl ⟨trivial, trivial, trivial⟩ ?_
      exact l_M_add w h2 h3 k 0 _ _ _ rfl rfl rfl (by omega)
    · exfalso; simp only [← Int32.toInt_inj, Int32.lt_iff_toInt_lt, Int32.le_iff_toInt_le, t0, t1, t2, t4, t64, ti7, ti8, ti900, tim1, nI_add, nI_toInt (show z + k < 2 ^ 31 by omega), nI_toInt (show k < 2 ^ 31 by omega)] at *; omega
  · have c_1 := zi_f (Classical.not_not.mp c_1)
    exfalso; simp only [← Int32.toInt_inj, Int32.lt_iff_toInt_lt, Int32.le_iff_toInt_le, t0, t1, t2, t4, t64, ti7, ti8, ti900, tim1, nI_add, nI_toInt (show z + k < 2 ^ 31 by omega), nI_toInt (show k < 2 ^ 31 by omega)] at *; omega
set_option maxRecDepth 100000 in
set_option maxHeartbeats 4000000 in
theorem c_M_zeros_A {x : Int32} (hx : ¬ (1 ≤ x.toInt ∧ x.toInt ≤ 900)) : Ct m_M_zeros 0 0 [.ref 16, .int x] (Ac fp le lp lb il tf tz bf rf fr mp sc ifp ib ie pw dh rl rb re sy sb rc sg (Bc mth mfr (nI z) mtf mmp mrg mme msn mbg mhd mfo mfi mmy mwa mwn mba mdy mkn mfa mpl men mpg mct mim)) (vm_is (some (.int (-2 : Int32))) (Ac fp le lp lb il tf tz bf rf fr mp sc ifp ib ie pw dh rl rb re sy sb rc sg (Bc (0 : Int32) mfr (nI z) mtf mmp mrg mme msn mbg mhd mfo mfi mmy mwa mwn mba mdy mkn mfa mpl men mpg mct mim))) := by
  refine Ct.of ⟨by decide +kernel, rfl⟩ (Nat.le_of_ble_eq_true rfl) (lv := [some (.ref 16), some (.int x), none]) rfl ?_
  refine Run.blk (gs := [True, True, True, True, True, True]) (S' := ([some (.ref 16), some (.int x), none], [.int (900 : Int32), .int (1 : Int32), .int x], Ac fp le lp lb il tf tz bf rf fr mp sc ifp ib ie pw dh rl rb re sy sb rc sg (Bc (0 : Int32) mfr (nI z) mtf mmp mrg mme msn mbg mhd mfo mfi mmy mwa mwn mba mdy mkn mfa mpl men mpg mct mim))) k_M_zeros_0 kc_M_zeros_0 rfl ⟨trivial, trivial, trivial, trivial, trivial, trivial, trivial⟩ ?_
  refine Run.callS (As := [.int x, .int (1 : Int32), .int (900 : Int32)]) (rest := []) v_M_zeros_10 (c_M_in x (1 : Int32) (900 : Int32)) rfl (Nat.le_of_ble_eq_true rfl) rfl (fun r cs' hp => ?_)
  obtain ⟨rfl, rfl⟩ := hp
  show Run _ _ _ _ 13 ([some (.ref 16), some (.int x), none], [.int (if (1 : Int32).toInt ≤ x.toInt ∧ x.toInt ≤ (900 : Int32).toInt then 1 else 0)], Ac fp le lp lb il tf tz bf rf fr mp sc ifp ib ie pw dh rl rb re sy sb rc sg (Bc (0 : Int32) mfr (nI z) mtf mmp mrg mme msn mbg mhd mfo mfi mmy mwa mwn mba mdy mkn mfa mpl men mpg mct mim)) _
  refine Run.br (tgt := 19) d_M_zeros_13 rfl (by decide) (fun c_1 => ?_) (fun c_1 => ?_)
  · have c_1 := zi_t c_1
    exfalso; simp only [← Int32.toInt_inj, Int32.lt_iff_toInt_lt, Int32.le_iff_toInt_le, t0, t1, t2, t4, t64, ti7, ti8, ti900, tim1] at *; omega
  · have c_1 := zi_f (Classical.not_not.mp c_1)
    refine Run.blk (gs := [True]) (S' := ([some (.ref 16), some (.int x), none], [.int (-2 : Int32)], Ac fp le lp lb il tf tz bf rf fr mp sc ifp ib ie pw dh rl rb re sy sb rc sg (Bc (0 : Int32) mfr (nI z) mtf mmp mrg mme msn mbg mhd mfo mfi mmy mwa mwn mba mdy mkn mfa mpl men mpg mct mim))) k_M_zeros_16 kc_M_zeros_16 rfl ⟨trivial, trivial⟩ ?_
    exact Run.ret (r := some (.int (-2 : Int32))) ⟨d_M_zeros_18, _, rfl, rfl⟩ ⟨rfl, rfl⟩
set_option maxRecDepth 100000 in
set_option maxHeartbeats 4000000 in
theorem c_M_zeros_B {k : Nat} (hz : z ≤ 900) {x : Int32} (hx : x = nI k) (h1 : 1 ≤ k) (h2 : k ≤ 900) (h3 : 900 < z + k) : Ct m_M_zeros 0 0 [.ref 16, .int x] (Ac fp le lp lb il tf tz bf rf fr mp sc ifp ib ie pw dh rl rb re sy sb rc sg (Bc mth mfr (nI z) mtf mmp mrg mme msn mbg mhd mfo mfi mmy mwa mwn mba mdy mkn mfa mpl men mpg mct mim)) (vm_is (some (.int (-3 : Int32))) (Ac fp le lp lb il tf tz bf rf fr mp sc ifp ib ie pw dh rl rb re sy sb rc sg (Bc (0 : Int32) mfr (nI z) mtf mmp mrg mme msn mbg mhd mfo mfi mmy mwa mwn mba mdy mkn mfa mpl men mpg mct mim))) := by
  subst hx
  refine Ct.of ⟨by decide +kernel, rfl⟩ (Nat.le_of_ble_eq_true rfl) (lv := [some (.ref 16), some (.int (nI k)), none]) rfl ?_
  refine Run.blk (gs := [True, True, True, True, True, True]) (S' := ([some (.ref 16), some (.int (nI k)), none], [.int (900 : Int32), .int (1 : Int32), .int (nI k)], Ac fp le lp lb il tf tz bf rf fr mp sc ifp ib ie pw dh rl rb re sy sb rc sg (Bc (0 : Int32) mfr (nI z) mtf mmp mrg mme msn mbg mhd mfo mfi mmy mwa mwn mba mdy mkn mfa mpl men mpg mct mim))) k_M_zeros_0 kc_M_zeros_0 rfl ⟨trivial, trivial, trivial, trivial, trivial, trivial, trivial⟩ ?_
  refine Run.callS (As := [.int (nI k), .int (1 : Int32), .int (900 : Int32)]) (rest := []) v_M_zeros_10 (c_M_in (nI k) (1 : Int32) (900 : Int32)) rfl (Nat.le_of_ble_eq_true rfl) rfl (fun r cs' hp => ?_)
  obtain ⟨rfl, rfl⟩ := hp
  show Run _ _ _ _ 13 ([some (.ref 16), some (.int (nI k)), none], [.int (if (1 : Int32).toInt ≤ (nI k).toInt ∧ (nI k).toInt ≤ (900 : Int32).toInt then 1 else 0)], Ac fp le lp lb il tf tz bf rf fr mp sc ifp ib ie pw dh rl rb re sy sb rc sg (Bc (0 : Int32) mfr (nI z) mtf mmp mrg mme msn mbg mhd mfo mfi mmy mwa mwn mba mdy mkn mfa mpl men mpg mct mim)) _
  refine Run.br (tgt := 19) d_M_zeros_13 rfl (by decide) (fun c_1 => ?_) (fun c_1 => ?_)
  · have c_1 := zi_t c_1
    refine Run.blk (gs := [True, True, True, True, True]) (S' := ([some (.ref 16), some (.int (nI k)), none], [.int (900 : Int32), .int ((nI z) + (nI k))], Ac fp le lp lb il tf tz bf rf fr mp sc ifp ib ie pw dh rl rb re sy sb rc sg (Bc (0 : Int32) mfr (nI z) mtf mmp mrg mme msn mbg mhd mfo mfi mmy mwa mwn mba mdy mkn mfa mpl men mpg mct mim))) k_M_zeros_19 kc_M_zeros_19 rfl ⟨trivial, trivial, trivial, trivial, trivial, trivial⟩ ?_
    refine Run.br (tgt := 34) d_M_zeros_28 rfl (by decide) (fun c_2 => ?_) (fun c_2 => ?_)
    · exfalso; simp only [← Int32.toInt_inj, Int32.lt_iff_toInt_lt, Int32.le_iff_toInt_le, t0, t1, t2, t4, t64, ti7, ti8, ti900, tim1, nI_add, nI_toInt (show z + k < 2 ^ 31 by omega), nI_toInt (show k < 2 ^ 31 by omega)] at *; omega
    · refine Run.blk (gs := [True]) (S' := ([some (.ref 16), some (.int (nI k)), none], [.int (-3 : Int32)], Ac fp le lp lb il tf tz bf rf fr mp sc ifp ib ie pw dh rl rb re sy sb rc sg (Bc (0 : Int32) mfr (nI z) mtf mmp mrg mme msn mbg mhd mfo mfi mmy mwa mwn mba mdy mkn mfa mpl men mpg mct mim))) k_M_zeros_31 kc_M_zeros_31 rfl ⟨trivial, trivial⟩ ?_
      exact Run.ret (r := some (.int (-3 : Int32))) ⟨d_M_zeros_33, _, rfl, rfl⟩ ⟨rfl, rfl⟩
  · have c_1 := zi_f (Classical.not_not.mp c_1)
    exfalso; simp only [← Int32.toInt_inj, Int32.lt_iff_toInt_lt, Int32.le_iff_toInt_le, t0, t1, t2, t4, t64, ti7, ti8, ti900, tim1, nI_add, nI_toInt (show z + k < 2 ^ 31 by omega), nI_toInt (show k < 2 ^ 31 by omega)] at *; omega
set_option maxRecDepth 100000 in
set_option maxHeartbeats 4000000 in
theorem l_M_zeros {k : Nat} (hk : k ≤ 900) (hzk : z + k ≤ 900) : ∀ (r i : Nat) (v : Int32) (tt : Nat → Nat) (zz : Nat), v = nI i → tt = fillN t z i 0 → zz = z + i → i + r = k → Run m_M_zeros n 0 0 36 ([some (.ref 16), some (.int (nI k)), some (.int v)], [], Ac fp le lp lb il tf tz bf rf fr mp sc ifp ib ie pw dh rl rb re sy sb rc sg (Bc (0 : Int32) mfr (nI zz) (nif tt) mmp mrg mme msn mbg mhd mfo mfi mmy mwa mwn mba mdy mkn mfa mpl men mpg mct mim)) (vm_is (some (.int (nI (z + k)))) (Ac fp le lp lb il tf tz bf rf fr mp sc ifp ib ie pw dh rl rb re sy sb rc sg (Bc (0 : Int32) mfr (nI (z + k)) (nif (fillN t z k 0)) mmp mrg mme msn mbg mhd mfo mfi mmy mwa mwn mba mdy mkn mfa mpl men mpg mct mim)))
  | 0, i, v, tt, zz, hv, htt, hzz, h => by
    have hik : i = k := by omega
    refine Run.blk (gs := [True, True]) (S' := ([some (.ref 16), some (.int (nI k)), some (.int v)], [.int (nI k), .int v], Ac fp le lp lb il tf tz bf rf fr mp sc ifp ib ie pw dh rl rb re sy sb rc sg (Bc (0 : Int32) mfr (nI zz) (nif tt) mmp mrg mme msn mbg mhd mfo mfi mmy mwa mwn mba mdy mkn mfa mpl men mpg mct mim))) k_M_zeros_36 kc_M_zeros_36 rfl ⟨trivial, trivial, trivial⟩ ?_
    refine Run.br (tgt := 67) d_M_zeros_38 rfl (by decide) (fun c_1 => ?_) (fun c_1 => ?_)
    · refine Run.blk (gs := [True, True]) (S' := ([some (.ref 16), some (.int (nI k)), some (.int v)], [.int (nI zz)], Ac fp le lp lb il tf tz bf rf fr mp sc ifp ib ie pw dh rl rb re sy sb rc sg (Bc (0 : Int32) mfr (nI zz) (nif tt) mmp mrg mme msn mbg mhd mfo mfi mmy mwa mwn mba mdy mkn mfa mpl men mpg mct mim))) k_M_zeros_67 kc_M_zeros_67 rfl ⟨trivial, trivial, trivial⟩ ?_
      exact Run.ret (r := some (.int (nI zz))) ⟨d_M_zeros_71, _, rfl, rfl⟩ ⟨by rw [hzz, hik], by rw [htt, hzz, hik]⟩
    · exact absurd (by rw [hv, hik]; exact Int32.le_refl _) c_1
  | r + 1, i, v, tt, zz, hv, htt, hzz, h => by
    refine Run.blk (gs := [True, True]) (S' := ([some (.ref 16), some (.int (nI k)), some (.int v)], [.int (nI k), .int v], Ac fp le lp lb il tf tz bf rf fr mp sc ifp ib ie pw dh rl rb re sy sb rc sg (Bc (0 : Int32) mfr (nI zz) (nif tt) mmp mrg mme msn mbg mhd mfo mfi mmy mwa mwn mba mdy mkn mfa mpl men mpg mct mim))) k_M_zeros_36 kc_M_zeros_36 rfl ⟨trivial, trivial, trivial⟩ ?_
    refine Run.br (tgt := 67) d_M_zeros_38 rfl (by decide) (fun c_1 => ?_) (fun c_1 => ?_)
    · exact absurd c_1 (by rw [hv]; exact nI_ge (show i < k by omega) (by omega))
    · refine Run.blk (gs := [True, True, True, True, True, vp_in (nI zz) 900, True, True, True, True, True, True, True]) (S' := ([some (.ref 16), some (.int (nI k)), some (.int (v + (1 : Int32)))], [], Ac fp le lp lb il tf tz bf rf fr mp sc ifp ib ie pw dh rl rb re sy sb rc sg (Bc (0 : Int32) mfr ((nI zz) + (1 : Int32)) (upd (nif tt) (nI zz).toNatClampNeg (0 : Int32)) mmp mrg mme msn mbg mhd mfo mfi mmy mwa mwn mba mdy mkn mfa mpl men mpg mct mim))) k_M_zeros_41 kc_M_zeros_41 rfl ⟨trivial, trivial, trivial, trivial, trivial, (vp_in_nI (show zz < 900 by omega) (by decide)), trivial, trivial, trivial, trivial, trivial, trivial, trivial, trivial⟩ ?_
      refine Run.goto (tgt := 36) d_M_zeros_64 (by decide) ?_
      rw [nI_clamp (by omega), show upd (nif tt) zz (0 : Int32) = nif (upN tt zz 0) from upd_nif tt zz 0, nI_1]
      exact l_M_zeros hk hzk r (i + 1) _ _ _ (by rw [hv, nI_1]) (by rw [htt, hzz, fillN_s]) (by omega) (by omega)
set_option maxRecDepth 100000 in
set_option maxHeartbeats 4000000 in
theorem c_M_zeros_C {k : Nat} {x : Int32} (hx : x = nI k) (h1 : 1 ≤ k) (h2 : k ≤ 900) (h3 : z + k ≤ 900) : Ct m_M_zeros 0 0 [.ref 16, .int x] (Ac fp le lp lb il tf tz bf rf fr mp sc ifp ib ie pw dh rl rb re sy sb rc sg (Bc mth mfr (nI z) (nif t) mmp mrg mme msn mbg mhd mfo mfi mmy mwa mwn mba mdy mkn mfa mpl men mpg mct mim)) (vm_is (some (.int (nI (z + k)))) (Ac fp le lp lb il tf tz bf rf fr mp sc ifp ib ie pw dh rl rb re sy sb rc sg (Bc (0 : Int32) mfr (nI (z + k)) (nif (fillN t z k 0)) mmp mrg mme msn mbg mhd mfo mfi mmy mwa mwn mba mdy mkn mfa mpl men mpg mct mim))) := by
  subst hx
  refine Ct.of ⟨by decide +kernel, rfl⟩ (Nat.le_of_ble_eq_true rfl) (lv := [some (.ref 16), some (.int (nI k)), none]) rfl ?_
  refine Run.blk (gs := [True, True, True, True, True, True]) (S' := ([some (.ref 16), some (.int (nI k)), none], [.int (900 : Int32), .int (1 : Int32), .int (nI k)], Ac fp le lp lb il tf tz bf rf fr mp sc ifp ib ie pw dh rl rb re sy sb rc sg (Bc (0 : Int32) mfr (nI z) (nif t) mmp mrg mme msn mbg mhd mfo mfi mmy mwa mwn mba mdy mkn mfa mpl men mpg mct mim))) k_M_zeros_0 kc_M_zeros_0 rfl ⟨trivial, trivial, trivial, trivial, trivial, trivial, trivial⟩ ?_
  refine Run.callS (As := [.int (nI k), .int (1 : Int32), .int (900 : Int32)]) (rest := []) v_M_zeros_10 (c_M_in (nI k) (1 : Int32) (900 : Int32)) rfl (Nat.le_of_ble_eq_true rfl) rfl (fun r cs' hp => ?_)
  obtain ⟨rfl, rfl⟩ := hp
  show Run _ _ _ _ 13 ([some (.ref 16), some (.int (nI k)), none], [.int (if (1 : Int32).toInt ≤ (nI k).toInt ∧ (nI k).toInt ≤ (900 : Int32).toInt then 1 else 0)], Ac fp le lp lb il tf tz bf rf fr mp sc ifp ib ie pw dh rl rb re sy sb rc sg (Bc (0 : Int32) mfr (nI z) (nif t) mmp mrg mme msn mbg mhd mfo mfi mmy mwa mwn mba mdy mkn mfa mpl men mpg mct mim)) _
  refine Run.br (tgt := 19) d_M_zeros_13 rfl (by decide) (fun c_1 => ?_) (fun c_1 => ?_)
  · have c_1 := zi_t c_1
    refine Run.blk (gs := [True, True, True, True, True]) (S' := ([some (.ref 16), some (.int (nI k)), none], [.int (900 : Int32), .int ((nI z) + (nI k))], Ac fp le lp lb il tf tz bf rf fr mp sc ifp ib ie pw dh rl rb re sy sb rc sg (Bc (0 : Int32) mfr (nI z) (nif t) mmp mrg mme msn mbg mhd mfo mfi mmy mwa mwn mba mdy mkn mfa mpl men mpg mct mim))) k_M_zeros_19 kc_M_zeros_19 rfl ⟨trivial, trivial, trivial, trivial, trivial, trivial⟩ ?_
    refine Run.br (tgt := 34) d_M_zeros_28 rfl (by decide) (fun c_2 => ?_) (fun c_2 => ?_)
    · refine Run.blk (gs := [True, True]) (S' := ([some (.ref 16), some (.int (nI k)), some (.int (0 : Int32))], [], Ac fp le lp lb il tf tz bf rf fr mp sc ifp ib ie pw dh rl rb re sy sb rc sg (Bc (0 : Int32) mfr (nI z) (nif t) mmp mrg mme msn mbg mhd mfo mfi mmy mwa mwn mba mdy mkn mfa mpl men mpg mct mim))) k_M_zeros_34 kc_M_zeros_34 rfl ⟨trivial, trivial, trivial⟩ ?_
      exact l_M_zeros h2 h3 k 0 _ _ _ rfl (fillN_0 _ _ _).symm rfl (by omega)
    · exfalso; simp only [← Int32.toInt_inj, Int32.lt_iff_toInt_lt, Int32.le_iff_toInt_le, t0, t1, t2, t4, t64, ti7, ti8, ti900, tim1, nI_add, nI_toInt (show z + k < 2 ^ 31 by omega), nI_toInt (show k < 2 ^ 31 by omega)] at *; omega
  · have c_1 := zi_f (Classical.not_not.mp c_1)
    exfalso; simp only [← Int32.toInt_inj, Int32.lt_iff_toInt_lt, Int32.le_iff_toInt_le, t0, t1, t2, t4, t64, ti7, ti8, ti900, tim1, nI_add, nI_toInt (show z + k < 2 ^ 31 by omega), nI_toInt (show k < 2 ^ 31 by omega)] at *; omega
theorem sz1 (hz : z ≤ 900) : (nI z - 1).toInt = (z : Int) - 1 := by
  rw [i32_sub (by rw [nI_toInt (by omega)]; omega) (by rw [nI_toInt (by omega)]; omega) (by decide) (by decide), nI_toInt (by omega), t1]
theorem szy (hz : z ≤ 900) {y : Int32} (h1 : -1000 ≤ y.toInt) (h2 : y.toInt ≤ 1000) : (nI z - y).toInt = (z : Int) - y.toInt := by
  rw [i32_sub (by rw [nI_toInt (by omega)]; omega) (by rw [nI_toInt (by omega)]; omega) (by omega) (by omega), nI_toInt (by omega)]
set_option maxRecDepth 100000 in
set_option maxHeartbeats 4000000 in
theorem c_M_peek_A (hz : z ≤ 900) {x : Int32} (hx : ¬ (0 ≤ x.toInt ∧ x.toInt < (z : Int))) : Ct m_M_peek 0 0 [.ref 16, .int x] (Ac fp le lp lb il tf tz bf rf fr mp sc ifp ib ie pw dh rl rb re sy sb rc sg (Bc mth mfr (nI z) mtf mmp mrg mme msn mbg mhd mfo mfi mmy mwa mwn mba mdy mkn mfa mpl men mpg mct mim)) (vm_is (some (.int (-1 : Int32))) (Ac fp le lp lb il tf tz bf rf fr mp sc ifp ib ie pw dh rl rb re sy sb rc sg (Bc (0 : Int32) mfr (nI z) mtf mmp mrg mme msn mbg mhd mfo mfi mmy mwa mwn mba mdy mkn mfa mpl men mpg mct mim))) := by
  refine Ct.of ⟨by decide +kernel, rfl⟩ (Nat.le_of_ble_eq_true rfl) (lv := [some (.ref 16), some (.int x)]) rfl ?_
  refine Run.blk (gs := [True, True, True, True, True, True, True, True, True]) (S' := ([some (.ref 16), some (.int x)], [.int ((nI z) - (1 : Int32)), .int (0 : Int32), .int x], Ac fp le lp lb il tf tz bf rf fr mp sc ifp ib ie pw dh rl rb re sy sb rc sg (Bc (0 : Int32) mfr (nI z) mtf mmp mrg mme msn mbg mhd mfo mfi mmy mwa mwn mba mdy mkn mfa mpl men mpg mct mim))) k_M_peek_0 kc_M_peek_0 rfl ⟨trivial, trivial, trivial, trivial, trivial, trivial, trivial, trivial, trivial, trivial⟩ ?_
  refine Run.callS (As := [.int x, .int (0 : Int32), .int ((nI z) - (1 : Int32))]) (rest := []) v_M_peek_13 (c_M_in x (0 : Int32) ((nI z) - (1 : Int32))) rfl (Nat.le_of_ble_eq_true rfl) rfl (fun r cs' hp => ?_)
  obtain ⟨rfl, rfl⟩ := hp
  show Run _ _ _ _ 16 ([some (.ref 16), some (.int x)], [.int (if (0 : Int32).toInt ≤ x.toInt ∧ x.toInt ≤ ((nI z) - (1 : Int32)).toInt then 1 else 0)], Ac fp le lp lb il tf tz bf rf fr mp sc ifp ib ie pw dh rl rb re sy sb rc sg (Bc (0 : Int32) mfr (nI z) mtf mmp mrg mme msn mbg mhd mfo mfi mmy mwa mwn mba mdy mkn mfa mpl men mpg mct mim)) _
  refine Run.br (tgt := 28) d_M_peek_16 rfl (by decide) (fun c_1 => ?_) (fun c_1 => ?_)
  · have c_1 := zi_f c_1
    refine Run.blk (gs := [True]) (S' := ([some (.ref 16), some (.int x)], [.int (-1 : Int32)], Ac fp le lp lb il tf tz bf rf fr mp sc ifp ib ie pw dh rl rb re sy sb rc sg (Bc (0 : Int32) mfr (nI z) mtf mmp mrg mme msn mbg mhd mfo mfi mmy mwa mwn mba mdy mkn mfa mpl men mpg mct mim))) k_M_peek_28 kc_M_peek_28 rfl ⟨trivial, trivial⟩ ?_
    exact Run.ret (r := some (.int (-1 : Int32))) ⟨d_M_peek_29, _, rfl, rfl⟩ ⟨rfl, rfl⟩
  · have c_1 := zi_t c_1
    exfalso; simp only [← Int32.toInt_inj, Int32.lt_iff_toInt_lt, Int32.le_iff_toInt_le, t0, t1, t2, t4, t64, ti7, ti8, ti900, tim1, sz1 hz] at *; omega
set_option maxRecDepth 100000 in
set_option maxHeartbeats 4000000 in
theorem c_M_peek_B (hz : z ≤ 900) {p : Nat} {x : Int32} (hx : x = nI p) (hp : p < z) : Ct m_M_peek 0 0 [.ref 16, .int x] (Ac fp le lp lb il tf tz bf rf fr mp sc ifp ib ie pw dh rl rb re sy sb rc sg (Bc mth mfr (nI z) (nif t) mmp mrg mme msn mbg mhd mfo mfi mmy mwa mwn mba mdy mkn mfa mpl men mpg mct mim)) (vm_is (some (.int (nI (t p)))) (Ac fp le lp lb il tf tz bf rf fr mp sc ifp ib ie pw dh rl rb re sy sb rc sg (Bc (0 : Int32) mfr (nI z) (nif t) mmp mrg mme msn mbg mhd mfo mfi mmy mwa mwn mba mdy mkn mfa mpl men mpg mct mim))) := by
  subst hx
  refine Ct.of ⟨by decide +kernel, rfl⟩ (Nat.le_of_ble_eq_true rfl) (lv := [some (.ref 16), some (.int (nI p))]) rfl ?_
  refine Run.blk (gs := [True, True, True, True, True, True, True, True, True]) (S' := ([some (.ref 16), some (.int (nI p))], [.int ((nI z) - (1 : Int32)), .int (0 : Int32), .int (nI p)], Ac fp le lp lb il tf tz bf rf fr mp sc ifp ib ie pw dh rl rb re sy sb rc sg (Bc (0 : Int32) mfr (nI z) (nif t) mmp mrg mme msn mbg mhd mfo mfi mmy mwa mwn mba mdy mkn mfa mpl men mpg mct mim))) k_M_peek_0 kc_M_peek_0 rfl ⟨trivial, trivial, trivial, trivial, trivial, trivial, trivial, trivial, trivial, trivial⟩ ?_
  refine Run.callS (As := [.int (nI p), .int (0 : Int32), .int ((nI z) - (1 : Int32))]) (rest := []) v_M_peek_13 (c_M_in (nI p) (0 : Int32) ((nI z) - (1 : Int32))) rfl (Nat.le_of_ble_eq_true rfl) rfl (fun r cs' hp => ?_)
  obtain ⟨rfl, rfl⟩ := hp
  show Run _ _ _ _ 16 ([some (.ref 16), some (.int (nI p))], [.int (if (0 : Int32).toInt ≤ (nI p).toInt ∧ (nI p).toInt ≤ ((nI z) - (1 : Int32)).toInt then 1 else 0)], Ac fp le lp lb il tf tz bf rf fr mp sc ifp ib ie pw dh rl rb re sy sb rc sg (Bc (0 : Int32) mfr (nI z) (nif t) mmp mrg mme msn mbg mhd mfo mfi mmy mwa mwn mba mdy mkn mfa mpl men mpg mct mim)) _
  refine Run.br (tgt := 28) d_M_peek_16 rfl (by decide) (fun c_1 => ?_) (fun c_1 => ?_)
  · have c_1 := zi_f c_1
    exfalso; apply c_1; rw [t0, sz1 hz, nI_toInt (by omega)]; omega
  · have c_1 := zi_t c_1
    refine Run.blk (gs := [True, True, True, vp_in (nI p) 900]) (S' := ([some (.ref 16), some (.int (nI p))], [.int ((nif t) (nI p).toNatClampNeg)], Ac fp le lp lb il tf tz bf rf fr mp sc ifp ib ie pw dh rl rb re sy sb rc sg (Bc (0 : Int32) mfr (nI z) (nif t) mmp mrg mme msn mbg mhd mfo mfi mmy mwa mwn mba mdy mkn mfa mpl men mpg mct mim))) k_M_peek_19 kc_M_peek_19 rfl ⟨trivial, trivial, trivial, (vp_in_nI (show p < 900 by omega) (by decide)), trivial⟩ ?_
    refine Run.goto (tgt := 29) d_M_peek_25 (by decide) ?_
    exact Run.ret (r := some (.int ((nif t) (nI p).toNatClampNeg))) ⟨d_M_peek_29, _, rfl, rfl⟩ ⟨by rw [nI_clamp (by omega)]; rfl, rfl⟩
set_option maxRecDepth 100000 in
set_option maxHeartbeats 4000000 in
theorem c_M_cut_A (hz : z ≤ 900) {x : Int32} (hx : ¬ (0 ≤ x.toInt ∧ x.toInt ≤ (z : Int))) : Ct m_M_cut 0 0 [.ref 16, .int x] (Ac fp le lp lb il tf tz bf rf fr mp sc ifp ib ie pw dh rl rb re sy sb rc sg (Bc mth mfr (nI z) mtf mmp mrg mme msn mbg mhd mfo mfi mmy mwa mwn mba mdy mkn mfa mpl men mpg mct mim)) (vm_is (some (.int (-2 : Int32))) (Ac fp le lp lb il tf tz bf rf fr mp sc ifp ib ie pw dh rl rb re sy sb rc sg (Bc (0 : Int32) mfr (nI z) mtf mmp mrg mme msn mbg mhd mfo mfi mmy mwa mwn mba mdy mkn mfa mpl men mpg mct mim))) := by
  refine Ct.of ⟨by decide +kernel, rfl⟩ (Nat.le_of_ble_eq_true rfl) (lv := [some (.ref 16), some (.int x), none]) rfl ?_
  refine Run.blk (gs := [True, True, True, True, True, True, True]) (S' := ([some (.ref 16), some (.int x), none], [.int (nI z), .int (0 : Int32), .int x], Ac fp le lp lb il tf tz bf rf fr mp sc ifp ib ie pw dh rl rb re sy sb rc sg (Bc (0 : Int32) mfr (nI z) mtf mmp mrg mme msn mbg mhd mfo mfi mmy mwa mwn mba mdy mkn mfa mpl men mpg mct mim))) k_M_cut_0 kc_M_cut_0 rfl ⟨trivial, trivial, trivial, trivial, trivial, trivial, trivial, trivial⟩ ?_
  refine Run.callS (As := [.int x, .int (0 : Int32), .int (nI z)]) (rest := []) v_M_cut_11 (c_M_in x (0 : Int32) (nI z)) rfl (Nat.le_of_ble_eq_true rfl) rfl (fun r cs' hp => ?_)
  obtain ⟨rfl, rfl⟩ := hp
  show Run _ _ _ _ 14 ([some (.ref 16), some (.int x), none], [.int (if (0 : Int32).toInt ≤ x.toInt ∧ x.toInt ≤ (nI z).toInt then 1 else 0)], Ac fp le lp lb il tf tz bf rf fr mp sc ifp ib ie pw dh rl rb re sy sb rc sg (Bc (0 : Int32) mfr (nI z) mtf mmp mrg mme msn mbg mhd mfo mfi mmy mwa mwn mba mdy mkn mfa mpl men mpg mct mim)) _
  refine Run.br (tgt := 20) d_M_cut_14 rfl (by decide) (fun c_1 => ?_) (fun c_1 => ?_)
  · have c_1 := zi_t c_1
    exfalso; simp only [← Int32.toInt_inj, Int32.lt_iff_toInt_lt, Int32.le_iff_toInt_le, t0, t1, t2, t4, t64, ti7, ti8, ti900, tim1, nI_toInt (show z < 2 ^ 31 by omega)] at *; omega
  · have c_1 := zi_f (Classical.not_not.mp c_1)
    refine Run.blk (gs := [True]) (S' := ([some (.ref 16), some (.int x), none], [.int (-2 : Int32)], Ac fp le lp lb il tf tz bf rf fr mp sc ifp ib ie pw dh rl rb re sy sb rc sg (Bc (0 : Int32) mfr (nI z) mtf mmp mrg mme msn mbg mhd mfo mfi mmy mwa mwn mba mdy mkn mfa mpl men mpg mct mim))) k_M_cut_17 kc_M_cut_17 rfl ⟨trivial, trivial⟩ ?_
    exact Run.ret (r := some (.int (-2 : Int32))) ⟨d_M_cut_19, _, rfl, rfl⟩ ⟨rfl, rfl⟩
set_option maxRecDepth 100000 in
set_option maxHeartbeats 4000000 in
theorem c_M_cut_B (hz : z ≤ 900) {p : Nat} {x : Int32} (hx : x = nI p) (hp : p ≤ z) : Ct m_M_cut 0 0 [.ref 16, .int x] (Ac fp le lp lb il tf tz bf rf fr mp sc ifp ib ie pw dh rl rb re sy sb rc sg (Bc mth mfr (nI z) mtf mmp mrg mme msn mbg mhd mfo mfi mmy mwa mwn mba mdy mkn mfa mpl men mpg mct mim)) (vm_is (some (.int (nI (z - p)))) (Ac fp le lp lb il tf tz bf rf fr mp sc ifp ib ie pw dh rl rb re sy sb rc sg (Bc (0 : Int32) mfr (nI p) mtf mmp mrg mme msn mbg mhd mfo mfi mmy mwa mwn mba mdy mkn mfa mpl men mpg mct mim))) := by
  subst hx
  refine Ct.of ⟨by decide +kernel, rfl⟩ (Nat.le_of_ble_eq_true rfl) (lv := [some (.ref 16), some (.int (nI p)), none]) rfl ?_
  refine Run.blk (gs := [True, True, True, True, True, True, True]) (S' := ([some (.ref 16), some (.int (nI p)), none], [.int (nI z), .int (0 : Int32), .int (nI p)], Ac fp le lp lb il tf tz bf rf fr mp sc ifp ib ie pw dh rl rb re sy sb rc sg (Bc (0 : Int32) mfr (nI z) mtf mmp mrg mme msn mbg mhd mfo mfi mmy mwa mwn mba mdy mkn mfa mpl men mpg mct mim))) k_M_cut_0 kc_M_cut_0 rfl ⟨trivial, trivial, trivial, trivial, trivial, trivial, trivial, trivial⟩ ?_
  refine Run.callS (As := [.int (nI p), .int (0 : Int32), .int (nI z)]) (rest := []) v_M_cut_11 (c_M_in (nI p) (0 : Int32) (nI z)) rfl (Nat.le_of_ble_eq_true rfl) rfl (fun r cs' hp => ?_)
  obtain ⟨rfl, rfl⟩ := hp
  show Run _ _ _ _ 14 ([some (.ref 16), some (.int (nI p)), none], [.int (if (0 : Int32).toInt ≤ (nI p).toInt ∧ (nI p).toInt ≤ (nI z).toInt then 1 else 0)], Ac fp le lp lb il tf tz bf rf fr mp sc ifp ib ie pw dh rl rb re sy sb rc sg (Bc (0 : Int32) mfr (nI z) mtf mmp mrg mme msn mbg mhd mfo mfi mmy mwa mwn mba mdy mkn mfa mpl men mpg mct mim)) _
  refine Run.br (tgt := 20) d_M_cut_14 rfl (by decide) (fun c_1 => ?_) (fun c_1 => ?_)
  · have c_1 := zi_t c_1
    refine Run.blk (gs := [True, True, True, True, True, True, True, True, True]) (S' := ([some (.ref 16), some (.int (nI p)), some (.int ((nI z) - (nI p)))], [.int ((nI z) - (nI p))], Ac fp le lp lb il tf tz bf rf fr mp sc ifp ib ie pw dh rl rb re sy sb rc sg (Bc (0 : Int32) mfr (nI p) mtf mmp mrg mme msn mbg mhd mfo mfi mmy mwa mwn mba mdy mkn mfa mpl men mpg mct mim))) k_M_cut_20 kc_M_cut_20 rfl ⟨trivial, trivial, trivial, trivial, trivial, trivial, trivial, trivial, trivial, trivial⟩ ?_
    exact Run.ret (r := some (.int ((nI z) - (nI p)))) ⟨d_M_cut_33, _, rfl, rfl⟩ ⟨by rw [pk_sub hp], rfl⟩
  · have c_1 := zi_f (Classical.not_not.mp c_1)
    exfalso; apply c_1; rw [t0, nI_toInt (by omega), nI_toInt (by omega)]; omega
set_option maxRecDepth 100000 in
set_option maxHeartbeats 4000000 in
theorem c_M_poke_A (hz : z ≤ 900) {x y v : Int32} (hx : ¬ ((y.toInt = 1 ∨ y.toInt = 2 ∨ y.toInt = 4) ∧ 0 ≤ x.toInt ∧ x.toInt + y.toInt ≤ (z : Int))) : Ct m_M_poke 0 0 [.ref 16, .int x, .int y, .int v] (Ac fp le lp lb il tf tz bf rf fr mp sc ifp ib ie pw dh rl rb re sy sb rc sg (Bc mth mfr (nI z) mtf mmp mrg mme msn mbg mhd mfo mfi mmy mwa mwn mba mdy mkn mfa mpl men mpg mct mim)) (vm_is (some (.int (-2 : Int32))) (Ac fp le lp lb il tf tz bf rf fr mp sc ifp ib ie pw dh rl rb re sy sb rc sg (Bc (0 : Int32) mfr (nI z) mtf mmp mrg mme msn mbg mhd mfo mfi mmy mwa mwn mba mdy mkn mfa mpl men mpg mct mim))) := by
  refine Ct.of ⟨by decide +kernel, rfl⟩ (Nat.le_of_ble_eq_true rfl) (lv := [some (.ref 16), some (.int x), some (.int y), some (.int v), none]) rfl ?_
  refine Run.blk (gs := [True, True, True, True]) (S' := ([some (.ref 16), some (.int x), some (.int y), some (.int v), none], [.int y], Ac fp le lp lb il tf tz bf rf fr mp sc ifp ib ie pw dh rl rb re sy sb rc sg (Bc (0 : Int32) mfr (nI z) mtf mmp mrg mme msn mbg mhd mfo mfi mmy mwa mwn mba mdy mkn mfa mpl men mpg mct mim))) k_M_poke_0 kc_M_poke_0 rfl ⟨trivial, trivial, trivial, trivial, trivial⟩ ?_
  refine Run.callS (As := [.int y]) (rest := []) v_M_poke_6 (c_M_isWide y) rfl (Nat.le_of_ble_eq_true rfl) rfl (fun r cs' hp => ?_)
  obtain ⟨rfl, rfl⟩ := hp
  show Run _ _ _ _ 9 ([some (.ref 16), some (.int x), some (.int y), some (.int v), none], [.int (if y.toInt = 1 ∨ y.toInt = 2 ∨ y.toInt = 4 then 1 else 0)], Ac fp le lp lb il tf tz bf rf fr mp sc ifp ib ie pw dh rl rb re sy sb rc sg (Bc (0 : Int32) mfr (nI z) mtf mmp mrg mme msn mbg mhd mfo mfi mmy mwa mwn mba mdy mkn mfa mpl men mpg mct mim)) _
  refine Run.br (tgt := 26) d_M_poke_9 rfl (by decide) (fun c_1 => ?_) (fun c_1 => ?_)
  · have c_1 := zi_f c_1
    refine Run.blk (gs := [True]) (S' := ([some (.ref 16), some (.int x), some (.int y), some (.int v), none], [.int (-2 : Int32)], Ac fp le lp lb il tf tz bf rf fr mp sc ifp ib ie pw dh rl rb re sy sb rc sg (Bc (0 : Int32) mfr (nI z) mtf mmp mrg mme msn mbg mhd mfo mfi mmy mwa mwn mba mdy mkn mfa mpl men mpg mct mim))) k_M_poke_26 kc_M_poke_26 rfl ⟨trivial, trivial⟩ ?_
    exact Run.ret (r := some (.int (-2 : Int32))) ⟨d_M_poke_28, _, rfl, rfl⟩ ⟨rfl, rfl⟩
  · have c_1 := zi_t c_1
    refine Run.blk (gs := [True, True, True, True, True, True]) (S' := ([some (.ref 16), some (.int x), some (.int y), some (.int v), none], [.int ((nI z) - y), .int (0 : Int32), .int x], Ac fp le lp lb il tf tz bf rf fr mp sc ifp ib ie pw dh rl rb re sy sb rc sg (Bc (0 : Int32) mfr (nI z) mtf mmp mrg mme msn mbg mhd mfo mfi mmy mwa mwn mba mdy mkn mfa mpl men mpg mct mim))) k_M_poke_12 kc_M_poke_12 rfl ⟨trivial, trivial, trivial, trivial, trivial, trivial, trivial⟩ ?_
    refine Run.callS (As := [.int x, .int (0 : Int32), .int ((nI z) - y)]) (rest := []) v_M_poke_20 (c_M_in x (0 : Int32) ((nI z) - y)) rfl (Nat.le_of_ble_eq_true rfl) rfl (fun r cs' hp => ?_)
    obtain ⟨rfl, rfl⟩ := hp
    show Run _ _ _ _ 23 ([some (.ref 16), some (.int x), some (.int y), some (.int v), none], [.int (if (0 : Int32).toInt ≤ x.toInt ∧ x.toInt ≤ ((nI z) - y).toInt then 1 else 0)], Ac fp le lp lb il tf tz bf rf fr mp sc ifp ib ie pw dh rl rb re sy sb rc sg (Bc (0 : Int32) mfr (nI z) mtf mmp mrg mme msn mbg mhd mfo mfi mmy mwa mwn mba mdy mkn mfa mpl men mpg mct mim)) _
    refine Run.br (tgt := 29) d_M_poke_23 rfl (by decide) (fun c_2 => ?_) (fun c_2 => ?_)
    · have c_2 := zi_t c_2
      exfalso; rw [szy hz (by omega) (by omega), t0] at c_2; omega
    · have c_2 := zi_f (Classical.not_not.mp c_2)
      refine Run.blk (gs := [True]) (S' := ([some (.ref 16), some (.int x), some (.int y), some (.int v), none], [.int (-2 : Int32)], Ac fp le lp lb il tf tz bf rf fr mp sc ifp ib ie pw dh rl rb re sy sb rc sg (Bc (0 : Int32) mfr (nI z) mtf mmp mrg mme msn mbg mhd mfo mfi mmy mwa mwn mba mdy mkn mfa mpl men mpg mct mim))) k_M_poke_26 kc_M_poke_26 rfl ⟨trivial, trivial⟩ ?_
      exact Run.ret (r := some (.int (-2 : Int32))) ⟨d_M_poke_28, _, rfl, rfl⟩ ⟨rfl, rfl⟩
set_option maxRecDepth 100000 in
set_option maxHeartbeats 4000000 in
theorem c_M_poke_1 (hz : z ≤ 900) {p : Nat} {x v : Int32} (hx : x = nI p) (hp : p + 1 ≤ z) : Ct m_M_poke 0 0 [.ref 16, .int x, .int (1 : Int32), .int v] (Ac fp le lp lb il tf tz bf rf fr mp sc ifp ib ie pw dh rl rb re sy sb rc sg (Bc mth mfr (nI z) (nif t) mmp mrg mme msn mbg mhd mfo mfi mmy mwa mwn mba mdy mkn mfa mpl men mpg mct mim)) (vm_is (some (.int (0 : Int32))) (Ac fp le lp lb il tf tz bf rf fr mp sc ifp ib ie pw dh rl rb re sy sb rc sg (Bc (0 : Int32) mfr (nI z) (nif (u1 t p v)) mmp mrg mme msn mbg mhd mfo mfi mmy mwa mwn mba mdy mkn mfa mpl men mpg mct mim))) := by
  subst hx
  refine Ct.of ⟨by decide +kernel, rfl⟩ (Nat.le_of_ble_eq_true rfl) (lv := [some (.ref 16), some (.int (nI p)), some (.int (1 : Int32)), some (.int v), none]) rfl ?_
  refine Run.blk (gs := [True, True, True, True]) (S' := ([some (.ref 16), some (.int (nI p)), some (.int (1 : Int32)), some (.int v), none], [.int (1 : Int32)], Ac fp le lp lb il tf tz bf rf fr mp sc ifp ib ie pw dh rl rb re sy sb rc sg (Bc (0 : Int32) mfr (nI z) (nif t) mmp mrg mme msn mbg mhd mfo mfi mmy mwa mwn mba mdy mkn mfa mpl men mpg mct mim))) k_M_poke_0 kc_M_poke_0 rfl ⟨trivial, trivial, trivial, trivial, trivial⟩ ?_
  refine Run.callS (As := [.int (1 : Int32)]) (rest := []) v_M_poke_6 (c_M_isWide (1 : Int32)) rfl (Nat.le_of_ble_eq_true rfl) rfl (fun r cs' hp => ?_)
  obtain ⟨rfl, rfl⟩ := hp
  show Run _ _ _ _ 9 ([some (.ref 16), some (.int (nI p)), some (.int (1 : Int32)), some (.int v), none], [.int (if (1 : Int32).toInt = 1 ∨ (1 : Int32).toInt = 2 ∨ (1 : Int32).toInt = 4 then 1 else 0)], Ac fp le lp lb il tf tz bf rf fr mp sc ifp ib ie pw dh rl rb re sy sb rc sg (Bc (0 : Int32) mfr (nI z) (nif t) mmp mrg mme msn mbg mhd mfo mfi mmy mwa mwn mba mdy mkn mfa mpl men mpg mct mim)) _
  refine Run.br (tgt := 26) d_M_poke_9 rfl (by decide) (fun c_1 => ?_) (fun c_1 => ?_)
  · have c_1 := zi_f c_1
    exact absurd (by decide) c_1
  · have c_1 := zi_t c_1
    refine Run.blk (gs := [True, True, True, True, True, True]) (S' := ([some (.ref 16), some (.int (nI p)), some (.int (1 : Int32)), some (.int v), none], [.int ((nI z) - (1 : Int32)), .int (0 : Int32), .int (nI p)], Ac fp le lp lb il tf tz bf rf fr mp sc ifp ib ie pw dh rl rb re sy sb rc sg (Bc (0 : Int32) mfr (nI z) (nif t) mmp mrg mme msn mbg mhd mfo mfi mmy mwa mwn mba mdy mkn mfa mpl men mpg mct mim))) k_M_poke_12 kc_M_poke_12 rfl ⟨trivial, trivial, trivial, trivial, trivial, trivial, trivial⟩ ?_
    refine Run.callS (As := [.int (nI p), .int (0 : Int32), .int ((nI z) - (1 : Int32))]) (rest := []) v_M_poke_20 (c_M_in (nI p) (0 : Int32) ((nI z) - (1 : Int32))) rfl (Nat.le_of_ble_eq_true rfl) rfl (fun r cs' hp => ?_)
    obtain ⟨rfl, rfl⟩ := hp
    show Run _ _ _ _ 23 ([some (.ref 16), some (.int (nI p)), some (.int (1 : Int32)), some (.int v), none], [.int (if (0 : Int32).toInt ≤ (nI p).toInt ∧ (nI p).toInt ≤ ((nI z) - (1 : Int32)).toInt then 1 else 0)], Ac fp le lp lb il tf tz bf rf fr mp sc ifp ib ie pw dh rl rb re sy sb rc sg (Bc (0 : Int32) mfr (nI z) (nif t) mmp mrg mme msn mbg mhd mfo mfi mmy mwa mwn mba mdy mkn mfa mpl men mpg mct mim)) _
    refine Run.br (tgt := 29) d_M_poke_23 rfl (by decide) (fun c_2 => ?_) (fun c_2 => ?_)
    · have c_2 := zi_t c_2
      refine Run.blk (gs := [True, True]) (S' := ([some (.ref 16), some (.int (nI p)), some (.int (1 : Int32)), some (.int v), some (.int (0 : Int32))], [], Ac fp le lp lb il tf tz bf rf fr mp sc ifp ib ie pw dh rl rb re sy sb rc sg (Bc (0 : Int32) mfr (nI z) (nif t) mmp mrg mme msn mbg mhd mfo mfi mmy mwa mwn mba mdy mkn mfa mpl men mpg mct mim))) k_M_poke_29 kc_M_poke_29 rfl ⟨trivial, trivial, trivial⟩ ?_
      refine Run.blk (gs := [True, True]) (S' := ([some (.ref 16), some (.int (nI p)), some (.int (1 : Int32)), some (.int v), some (.int (0 : Int32))], [.int (1 : Int32), .int (0 : Int32)], Ac fp le lp lb il tf tz bf rf fr mp sc ifp ib ie pw dh rl rb re sy sb rc sg (Bc (0 : Int32) mfr (nI z) (nif t) mmp mrg mme msn mbg mhd mfo mfi mmy mwa mwn mba mdy mkn mfa mpl men mpg mct mim))) k_M_poke_32 kc_M_poke_32 rfl ⟨trivial, trivial, trivial⟩ ?_
      refine Run.br (tgt := 64) d_M_poke_35 rfl (by decide) (fun c_3 => ?_) (fun c_3 => ?_)
      · exact absurd c_3 (by decide)
      · refine Run.blk (gs := [True, True, True, True, True, True, True, True, True, True, True, True, vp_in ((nI p) + (0 : Int32)) 900, True]) (S' := ([some (.ref 16), some (.int (nI p)), some (.int (1 : Int32)), some (.int v), some (.int ((0 : Int32) + (1 : Int32)))], [], Ac fp le lp lb il tf tz bf rf fr mp sc ifp ib ie pw dh rl rb re sy sb rc sg (Bc (0 : Int32) mfr (nI z) (upd (nif t) ((nI p) + (0 : Int32)).toNatClampNeg ((v >>> (((8 : Int32) * (0 : Int32)) &&& 31)) &&& (255 : Int32))) mmp mrg mme msn mbg mhd mfo mfi mmy mwa mwn mba mdy mkn mfa mpl men mpg mct mim))) k_M_poke_38 kc_M_poke_38 rfl ⟨trivial, trivial, trivial, trivial, trivial, trivial, trivial, trivial, trivial, trivial, trivial, trivial, (by rw [show (0 : Int32) = nI 0 from by decide, nI_add]; exact vp_in_nI (show p + 0 < 900 by omega) (by decide)), trivial, trivial⟩ ?_
        refine Run.goto (tgt := 32) d_M_poke_61 (by decide) ?_
        refine Run.blk (gs := [True, True]) (S' := ([some (.ref 16), some (.int (nI p)), some (.int (1 : Int32)), some (.int v), some (.int ((0 : Int32) + (1 : Int32)))], [.int (1 : Int32), .int ((0 : Int32) + (1 : Int32))], Ac fp le lp lb il tf tz bf rf fr mp sc ifp ib ie pw dh rl rb re sy sb rc sg (Bc (0 : Int32) mfr (nI z) (upd (nif t) ((nI p) + (0 : Int32)).toNatClampNeg ((v >>> (((8 : Int32) * (0 : Int32)) &&& 31)) &&& (255 : Int32))) mmp mrg mme msn mbg mhd mfo mfi mmy mwa mwn mba mdy mkn mfa mpl men mpg mct mim))) k_M_poke_32 kc_M_poke_32 rfl ⟨trivial, trivial, trivial⟩ ?_
        refine Run.br (tgt := 64) d_M_poke_35 rfl (by decide) (fun c_4 => ?_) (fun c_4 => ?_)
        · refine Run.blk (gs := [True]) (S' := ([some (.ref 16), some (.int (nI p)), some (.int (1 : Int32)), some (.int v), some (.int ((0 : Int32) + (1 : Int32)))], [.int (0 : Int32)], Ac fp le lp lb il tf tz bf rf fr mp sc ifp ib ie pw dh rl rb re sy sb rc sg (Bc (0 : Int32) mfr (nI z) (upd (nif t) ((nI p) + (0 : Int32)).toNatClampNeg ((v >>> (((8 : Int32) * (0 : Int32)) &&& 31)) &&& (255 : Int32))) mmp mrg mme msn mbg mhd mfo mfi mmy mwa mwn mba mdy mkn mfa mpl men mpg mct mim))) k_M_poke_64 kc_M_poke_64 rfl ⟨trivial, trivial⟩ ?_
          refine Run.ret (r := some (.int (0 : Int32))) ⟨d_M_poke_65, _, rfl, rfl⟩ ⟨rfl, ?_⟩
          rw [show nI p + (0 : Int32) = nI (p + 0) from by rw [show (0 : Int32) = nI 0 from by decide]; exact nI_add p 0, nI_clamp (show p + 0 < 2 ^ 31 by omega), vsh v (s := (8 : Int32) * (0 : Int32)) (i := 0) (by decide) (by decide), upd_nif]
          rfl
        · exact absurd c_4 (by decide)
    · have c_2 := zi_f (Classical.not_not.mp c_2)
      exfalso; apply c_2; rw [szy hz (by decide) (by decide), t0, nI_toInt (show p < 2 ^ 31 by omega)]; simp only [t1, t2, t4]; omega
set_option maxRecDepth 100000 in
set_option maxHeartbeats 4000000 in
theorem c_M_poke_2 (hz : z ≤ 900) {p : Nat} {x v : Int32} (hx : x = nI p) (hp : p + 2 ≤ z) : Ct m_M_poke 0 0 [.ref 16, .int x, .int (2 : Int32), .int v] (Ac fp le lp lb il tf tz bf rf fr mp sc ifp ib ie pw dh rl rb re sy sb rc sg (Bc mth mfr (nI z) (nif t) mmp mrg mme msn mbg mhd mfo mfi mmy mwa mwn mba mdy mkn mfa mpl men mpg mct mim)) (vm_is (some (.int (0 : Int32))) (Ac fp le lp lb il tf tz bf rf fr mp sc ifp ib ie pw dh rl rb re sy sb rc sg (Bc (0 : Int32) mfr (nI z) (nif (u2 t p v)) mmp mrg mme msn mbg mhd mfo mfi mmy mwa mwn mba mdy mkn mfa mpl men mpg mct mim))) := by
  subst hx
  refine Ct.of ⟨by decide +kernel, rfl⟩ (Nat.le_of_ble_eq_true rfl) (lv := [some (.ref 16), some (.int (nI p)), some (.int (2 : Int32)), some (.int v), none]) rfl ?_
  refine Run.blk (gs := [True, True, True, True]) (S' := ([some (.ref 16), some (.int (nI p)), some (.int (2 : Int32)), some (.int v), none], [.int (2 : Int32)], Ac fp le lp lb il tf tz bf rf fr mp sc ifp ib ie pw dh rl rb re sy sb rc sg (Bc (0 : Int32) mfr (nI z) (nif t) mmp mrg mme msn mbg mhd mfo mfi mmy mwa mwn mba mdy mkn mfa mpl men mpg mct mim))) k_M_poke_0 kc_M_poke_0 rfl ⟨trivial, trivial, trivial, trivial, trivial⟩ ?_
  refine Run.callS (As := [.int (2 : Int32)]) (rest := []) v_M_poke_6 (c_M_isWide (2 : Int32)) rfl (Nat.le_of_ble_eq_true rfl) rfl (fun r cs' hp => ?_)
  obtain ⟨rfl, rfl⟩ := hp
  show Run _ _ _ _ 9 ([some (.ref 16), some (.int (nI p)), some (.int (2 : Int32)), some (.int v), none], [.int (if (2 : Int32).toInt = 1 ∨ (2 : Int32).toInt = 2 ∨ (2 : Int32).toInt = 4 then 1 else 0)], Ac fp le lp lb il tf tz bf rf fr mp sc ifp ib ie pw dh rl rb re sy sb rc sg (Bc (0 : Int32) mfr (nI z) (nif t) mmp mrg mme msn mbg mhd mfo mfi mmy mwa mwn mba mdy mkn mfa mpl men mpg mct mim)) _
  refine Run.br (tgt := 26) d_M_poke_9 rfl (by decide) (fun c_1 => ?_) (fun c_1 => ?_)
  · have c_1 := zi_f c_1
    exact absurd (by decide) c_1
  · have c_1 := zi_t c_1
    refine Run.blk (gs := [True, True, True, True, True, True]) (S' := ([some (.ref 16), some (.int (nI p)), some (.int (2 : Int32)), some (.int v), none], [.int ((nI z) - (2 : Int32)), .int (0 : Int32), .int (nI p)], Ac fp le lp lb il tf tz bf rf fr mp sc ifp ib ie pw dh rl rb re sy sb rc sg (Bc (0 : Int32) mfr (nI z) (nif t) mmp mrg mme msn mbg mhd mfo mfi mmy mwa mwn mba mdy mkn mfa mpl men mpg mct mim))) k_M_poke_12 kc_M_poke_12 rfl ⟨trivial, trivial, trivial, trivial, trivial, trivial, trivial⟩ ?_
    refine Run.callS (As := [.int (nI p), .int (0 : Int32), .int ((nI z) - (2 : Int32))]) (rest := []) v_M_poke_20 (c_M_in (nI p) (0 : Int32) ((nI z) - (2 : Int32))) rfl (Nat.le_of_ble_eq_true rfl) rfl (fun r cs' hp => ?_)
    obtain ⟨rfl, rfl⟩ := hp
    show Run _ _ _ _ 23 ([some (.ref 16), some (.int (nI p)), some (.int (2 : Int32)), some (.int v), none], [.int (if (0 : Int32).toInt ≤ (nI p).toInt ∧ (nI p).toInt ≤ ((nI z) - (2 : Int32)).toInt then 1 else 0)], Ac fp le lp lb il tf tz bf rf fr mp sc ifp ib ie pw dh rl rb re sy sb rc sg (Bc (0 : Int32) mfr (nI z) (nif t) mmp mrg mme msn mbg mhd mfo mfi mmy mwa mwn mba mdy mkn mfa mpl men mpg mct mim)) _
    refine Run.br (tgt := 29) d_M_poke_23 rfl (by decide) (fun c_2 => ?_) (fun c_2 => ?_)
    · have c_2 := zi_t c_2
      refine Run.blk (gs := [True, True]) (S' := ([some (.ref 16), some (.int (nI p)), some (.int (2 : Int32)), some (.int v), some (.int (0 : Int32))], [], Ac fp le lp lb il tf tz bf rf fr mp sc ifp ib ie pw dh rl rb re sy sb rc sg (Bc (0 : Int32) mfr (nI z) (nif t) mmp mrg mme msn mbg mhd mfo mfi mmy mwa mwn mba mdy mkn mfa mpl men mpg mct mim))) k_M_poke_29 kc_M_poke_29 rfl ⟨trivial, trivial, trivial⟩ ?_
      refine Run.blk (gs := [True, True]) (S' := ([some (.ref 16), some (.int (nI p)), some (.int (2 : Int32)), some (.int v), some (.int (0 : Int32))], [.int (2 : Int32), .int (0 : Int32)], Ac fp le lp lb il tf tz bf rf fr mp sc ifp ib ie pw dh rl rb re sy sb rc sg (Bc (0 : Int32) mfr (nI z) (nif t) mmp mrg mme msn mbg mhd mfo mfi mmy mwa mwn mba mdy mkn mfa mpl men mpg mct mim))) k_M_poke_32 kc_M_poke_32 rfl ⟨trivial, trivial, trivial⟩ ?_
      refine Run.br (tgt := 64) d_M_poke_35 rfl (by decide) (fun c_3 => ?_) (fun c_3 => ?_)
      · exact absurd c_3 (by decide)
      · refine Run.blk (gs := [True, True, True, True, True, True, True, True, True, True, True, True, vp_in ((nI p) + (0 : Int32)) 900, True]) (S' := ([some (.ref 16), some (.int (nI p)), some (.int (2 : Int32)), some (.int v), some (.int ((0 : Int32) + (1 : Int32)))], [], Ac fp le lp lb il tf tz bf rf fr mp sc ifp ib ie pw dh rl rb re sy sb rc sg (Bc (0 : Int32) mfr (nI z) (upd (nif t) ((nI p) + (0 : Int32)).toNatClampNeg ((v >>> (((8 : Int32) * (0 : Int32)) &&& 31)) &&& (255 : Int32))) mmp mrg mme msn mbg mhd mfo mfi mmy mwa mwn mba mdy mkn mfa mpl men mpg mct mim))) k_M_poke_38 kc_M_poke_38 rfl ⟨trivial, trivial, trivial, trivial, trivial, trivial, trivial, trivial, trivial, trivial, trivial, trivial, (by rw [show (0 : Int32) = nI 0 from by decide, nI_add]; exact vp_in_nI (show p + 0 < 900 by omega) (by decide)), trivial, trivial⟩ ?_
        refine Run.goto (tgt := 32) d_M_poke_61 (by decide) ?_
        refine Run.blk (gs := [True, True]) (S' := ([some (.ref 16), some (.int (nI p)), some (.int (2 : Int32)), some (.int v), some (.int ((0 : Int32) + (1 : Int32)))], [.int (2 : Int32), .int ((0 : Int32) + (1 : Int32))], Ac fp le lp lb il tf tz bf rf fr mp sc ifp ib ie pw dh rl rb re sy sb rc sg (Bc (0 : Int32) mfr (nI z) (upd (nif t) ((nI p) + (0 : Int32)).toNatClampNeg ((v >>> (((8 : Int32) * (0 : Int32)) &&& 31)) &&& (255 : Int32))) mmp mrg mme msn mbg mhd mfo mfi mmy mwa mwn mba mdy mkn mfa mpl men mpg mct mim))) k_M_poke_32 kc_M_poke_32 rfl ⟨trivial, trivial, trivial⟩ ?_
        refine Run.br (tgt := 64) d_M_poke_35 rfl (by decide) (fun c_4 => ?_) (fun c_4 => ?_)
        · exact absurd c_4 (by decide)
        · refine Run.blk (gs := [True, True, True, True, True, True, True, True, True, True, True, True, vp_in ((nI p) + ((0 : Int32) + (1 : Int32))) 900, True]) (S' := ([some (.ref 16), some (.int (nI p)), some (.int (2 : Int32)), some (.int v), some (.int (((0 : Int32) + (1 : Int32)) + (1 : Int32)))], [], Ac fp le lp lb il tf tz bf rf fr mp sc ifp ib ie pw dh rl rb re sy sb rc sg (Bc (0 : Int32) mfr (nI z) (upd (upd (nif t) ((nI p) + (0 : Int32)).toNatClampNeg ((v >>> (((8 : Int32) * (0 : Int32)) &&& 31)) &&& (255 : Int32))) ((nI p) + ((0 : Int32) + (1 : Int32))).toNatClampNeg ((v >>> (((8 : Int32) * ((0 : Int32) + (1 : Int32))) &&& 31)) &&& (255 : Int32))) mmp mrg mme msn mbg mhd mfo mfi mmy mwa mwn mba mdy mkn mfa mpl men mpg mct mim))) k_M_poke_38 kc_M_poke_38 rfl ⟨trivial, trivial, trivial, trivial, trivial, trivial, trivial, trivial, trivial, trivial, trivial, trivial, (by rw [show ((0 : Int32) + (1 : Int32)) = nI 1 from by decide, nI_add]; exact vp_in_nI (show p + 1 < 900 by omega) (by decide)), trivial, trivial⟩ ?_
          refine Run.goto (tgt := 32) d_M_poke_61 (by decide) ?_
          refine Run.blk (gs := [True, True]) (S' := ([some (.ref 16), some (.int (nI p)), some (.int (2 : Int32)), some (.int v), some (.int (((0 : Int32) + (1 : Int32)) + (1 : Int32)))], [.int (2 : Int32), .int (((0 : Int32) + (1 : Int32)) + (1 : Int32))], Ac fp le lp lb il tf tz bf rf fr mp sc ifp ib ie pw dh rl rb re sy sb rc sg (Bc (0 : Int32) mfr (nI z) (upd (upd (nif t) ((nI p) + (0 : Int32)).toNatClampNeg ((v >>> (((8 : Int32) * (0 : Int32)) &&& 31)) &&& (255 : Int32))) ((nI p) + ((0 : Int32) + (1 : Int32))).toNatClampNeg ((v >>> (((8 : Int32) * ((0 : Int32) + (1 : Int32))) &&& 31)) &&& (255 : Int32))) mmp mrg mme msn mbg mhd mfo mfi mmy mwa mwn mba mdy mkn mfa mpl men mpg mct mim))) k_M_poke_32 kc_M_poke_32 rfl ⟨trivial, trivial, trivial⟩ ?_
          refine Run.br (tgt := 64) d_M_poke_35 rfl (by decide) (fun c_5 => ?_) (fun c_5 => ?_)
          · refine Run.blk (gs := [True]) (S' := ([some (.ref 16), some (.int (nI p)), some (.int (2 : Int32)), some (.int v), some (.int (((0 : Int32) + (1 : Int32)) + (1 : Int32)))], [.int (0 : Int32)], Ac fp le lp lb il tf tz bf rf fr mp sc ifp ib ie pw dh rl rb re sy sb rc sg (Bc (0 : Int32) mfr (nI z) (upd (upd (nif t) ((nI p) + (0 : Int32)).toNatClampNeg ((v >>> (((8 : Int32) * (0 : Int32)) &&& 31)) &&& (255 : Int32))) ((nI p) + ((0 : Int32) + (1 : Int32))).toNatClampNeg ((v >>> (((8 : Int32) * ((0 : Int32) + (1 : Int32))) &&& 31)) &&& (255 : Int32))) mmp mrg mme msn mbg mhd mfo mfi mmy mwa mwn mba mdy mkn mfa mpl men mpg mct mim))) k_M_poke_64 kc_M_poke_64 rfl ⟨trivial, trivial⟩ ?_
            refine Run.ret (r := some (.int (0 : Int32))) ⟨d_M_poke_65, _, rfl, rfl⟩ ⟨rfl, ?_⟩
            rw [show nI p + (0 : Int32) = nI (p + 0) from by rw [show (0 : Int32) = nI 0 from by decide]; exact nI_add p 0, nI_clamp (show p + 0 < 2 ^ 31 by omega), vsh v (s := (8 : Int32) * (0 : Int32)) (i := 0) (by decide) (by decide), upd_nif]
            rw [show nI p + ((0 : Int32) + (1 : Int32)) = nI (p + 1) from by rw [show ((0 : Int32) + (1 : Int32)) = nI 1 from by decide]; exact nI_add p 1, nI_clamp (show p + 1 < 2 ^ 31 by omega), vsh v (s := (8 : Int32) * ((0 : Int32) + (1 : Int32))) (i := 1) (by decide) (by decide), upd_nif]
            rfl
          · exact absurd c_5 (by decide)
    · have c_2 := zi_f (Classical.not_not.mp c_2)
      exfalso; apply c_2; rw [szy hz (by decide) (by decide), t0, nI_toInt (show p < 2 ^ 31 by omega)]; simp only [t1, t2, t4]; omega
set_option maxRecDepth 100000 in
set_option maxHeartbeats 4000000 in
theorem c_M_poke_4 (hz : z ≤ 900) {p : Nat} {x v : Int32} (hx : x = nI p) (hp : p + 4 ≤ z) : Ct m_M_poke 0 0 [.ref 16, .int x, .int (4 : Int32), .int v] (Ac fp le lp lb il tf tz bf rf fr mp sc ifp ib ie pw dh rl rb re sy sb rc sg (Bc mth mfr (nI z) (nif t) mmp mrg mme msn mbg mhd mfo mfi mmy mwa mwn mba mdy mkn mfa mpl men mpg mct mim)) (vm_is (some (.int (0 : Int32))) (Ac fp le lp lb il tf tz bf rf fr mp sc ifp ib ie pw dh rl rb re sy sb rc sg (Bc (0 : Int32) mfr (nI z) (nif (u4 t p v)) mmp mrg mme msn mbg mhd mfo mfi mmy mwa mwn mba mdy mkn mfa mpl men mpg mct mim))) := by
  subst hx
  refine Ct.of ⟨by decide +kernel, rfl⟩ (Nat.le_of_ble_eq_true rfl) (lv := [some (.ref 16), some (.int (nI p)), some (.int (4 : Int32)), some (.int v), none]) rfl ?_
  refine Run.blk (gs := [True, True, True, True]) (S' := ([some (.ref 16), some (.int (nI p)), some (.int (4 : Int32)), some (.int v), none], [.int (4 : Int32)], Ac fp le lp lb il tf tz bf rf fr mp sc ifp ib ie pw dh rl rb re sy sb rc sg (Bc (0 : Int32) mfr (nI z) (nif t) mmp mrg mme msn mbg mhd mfo mfi mmy mwa mwn mba mdy mkn mfa mpl men mpg mct mim))) k_M_poke_0 kc_M_poke_0 rfl ⟨trivial, trivial, trivial, trivial, trivial⟩ ?_
  refine Run.callS (As := [.int (4 : Int32)]) (rest := []) v_M_poke_6 (c_M_isWide (4 : Int32)) rfl (Nat.le_of_ble_eq_true rfl) rfl (fun r cs' hp => ?_)
  obtain ⟨rfl, rfl⟩ := hp
  show Run _ _ _ _ 9 ([some (.ref 16), some (.int (nI p)), some (.int (4 : Int32)), some (.int v), none], [.int (if (4 : Int32).toInt = 1 ∨ (4 : Int32).toInt = 2 ∨ (4 : Int32).toInt = 4 then 1 else 0)], Ac fp le lp lb il tf tz bf rf fr mp sc ifp ib ie pw dh rl rb re sy sb rc sg (Bc (0 : Int32) mfr (nI z) (nif t) mmp mrg mme msn mbg mhd mfo mfi mmy mwa mwn mba mdy mkn mfa mpl men mpg mct mim)) _
  refine Run.br (tgt := 26) d_M_poke_9 rfl (by decide) (fun c_1 => ?_) (fun c_1 => ?_)
  · have c_1 := zi_f c_1
    exact absurd (by decide) c_1
  · have c_1 := zi_t c_1
    refine Run.blk (gs := [True, True, True, True, True, True]) (S' := ([some (.ref 16), some (.int (nI p)), some (.int (4 : Int32)), some (.int v), none], [.int ((nI z) - (4 : Int32)), .int (0 : Int32), .int (nI p)], Ac fp le lp lb il tf tz bf rf fr mp sc ifp ib ie pw dh rl rb re sy sb rc sg (Bc (0 : Int32) mfr (nI z) (nif t) mmp mrg mme msn mbg mhd mfo mfi mmy mwa mwn mba mdy mkn mfa mpl men mpg mct mim))) k_M_poke_12 kc_M_poke_12 rfl ⟨trivial, trivial, trivial, trivial, trivial, trivial, trivial⟩ ?_
    refine Run.callS (As := [.int (nI p), .int (0 : Int32), .int ((nI z) - (4 : Int32))]) (rest := []) v_M_poke_20 (c_M_in (nI p) (0 : Int32) ((nI z) - (4 : Int32))) rfl (Nat.le_of_ble_eq_true rfl) rfl (fun r cs' hp => ?_)
    obtain ⟨rfl, rfl⟩ := hp
    show Run _ _ _ _ 23 ([some (.ref 16), some (.int (nI p)), some (.int (4 : Int32)), some (.int v), none], [.int (if (0 : Int32).toInt ≤ (nI p).toInt ∧ (nI p).toInt ≤ ((nI z) - (4 : Int32)).toInt then 1 else 0)], Ac fp le lp lb il tf tz bf rf fr mp sc ifp ib ie pw dh rl rb re sy sb rc sg (Bc (0 : Int32) mfr (nI z) (nif t) mmp mrg mme msn mbg mhd mfo mfi mmy mwa mwn mba mdy mkn mfa mpl men mpg mct mim)) _
    refine Run.br (tgt := 29) d_M_poke_23 rfl (by decide) (fun c_2 => ?_) (fun c_2 => ?_)
    · have c_2 := zi_t c_2
      refine Run.blk (gs := [True, True]) (S' := ([some (.ref 16), some (.int (nI p)), some (.int (4 : Int32)), some (.int v), some (.int (0 : Int32))], [], Ac fp le lp lb il tf tz bf rf fr mp sc ifp ib ie pw dh rl rb re sy sb rc sg (Bc (0 : Int32) mfr (nI z) (nif t) mmp mrg mme msn mbg mhd mfo mfi mmy mwa mwn mba mdy mkn mfa mpl men mpg mct mim))) k_M_poke_29 kc_M_poke_29 rfl ⟨trivial, trivial, trivial⟩ ?_
      refine Run.blk (gs := [True, True]) (S' := ([some (.ref 16), some (.int (nI p)), some (.int (4 : Int32)), some (.int v), some (.int (0 : Int32))], [.int (4 : Int32), .int (0 : Int32)], Ac fp le lp lb il tf tz bf rf fr mp sc ifp ib ie pw dh rl rb re sy sb rc sg (Bc (0 : Int32) mfr (nI z) (nif t) mmp mrg mme msn mbg mhd mfo mfi mmy mwa mwn mba mdy mkn mfa mpl men mpg mct mim))) k_M_poke_32 kc_M_poke_32 rfl ⟨trivial, trivial, trivial⟩ ?_
      refine Run.br (tgt := 64) d_M_poke_35 rfl (by decide) (fun c_3 => ?_) (fun c_3 => ?_)
      · exact absurd c_3 (by decide)
      · refine Run.blk (gs := [True, True, True, True, True, True, True, True, True, True, True, True, vp_in ((nI p) + (0 : Int32)) 900, True]) (S' := ([some (.ref 16), some (.int (nI p)), some (.int (4 : Int32)), some (.int v), some (.int ((0 : Int32) + (1 : Int32)))], [], Ac fp le lp lb il tf tz bf rf fr mp sc ifp ib ie pw dh rl rb re sy sb rc sg (Bc (0 : Int32) mfr (nI z) (upd (nif t) ((nI p) + (0 : Int32)).toNatClampNeg ((v >>> (((8 : Int32) * (0 : Int32)) &&& 31)) &&& (255 : Int32))) mmp mrg mme msn mbg mhd mfo mfi mmy mwa mwn mba mdy mkn mfa mpl men mpg mct mim))) k_M_poke_38 kc_M_poke_38 rfl ⟨trivial, trivial, trivial, trivial, trivial, trivial, trivial, trivial, trivial, trivial, trivial, trivial, (by rw [show (0 : Int32) = nI 0 from by decide, nI_add]; exact vp_in_nI (show p + 0 < 900 by omega) (by decide)), trivial, trivial⟩ ?_
        refine Run.goto (tgt := 32) d_M_poke_61 (by decide) ?_
        refine Run.blk (gs := [True, True]) (S' := ([some (.ref 16), some (.int (nI p)), some (.int (4 : Int32)), some (.int v), some (.int ((0 : Int32) + (1 : Int32)))], [.int (4 : Int32), .int ((0 : Int32) + (1 : Int32))], Ac fp le lp lb il tf tz bf rf fr mp sc ifp ib ie pw dh rl rb re sy sb rc sg (Bc (0 : Int32) mfr (nI z) (upd (nif t) ((nI p) + (0 : Int32)).toNatClampNeg ((v >>> (((8 : Int32) * (0 : Int32)) &&& 31)) &&& (255 : Int32))) mmp mrg mme msn mbg mhd mfo mfi mmy mwa mwn mba mdy mkn mfa mpl men mpg mct mim))) k_M_poke_32 kc_M_poke_32 rfl ⟨trivial, trivial, trivial⟩ ?_
        refine Run.br (tgt := 64) d_M_poke_35 rfl (by decide) (fun c_4 => ?_) (fun c_4 => ?_)
        · exact absurd c_4 (by decide)
        · refine Run.blk (gs := [True, True, True, True, True, True, True, True, True, True, True, True, vp_in ((nI p) + ((0 : Int32) + (1 : Int32))) 900, True]) (S' := ([some (.ref 16), some (.int (nI p)), some (.int (4 : Int32)), some (.int v), some (.int (((0 : Int32) + (1 : Int32)) + (1 : Int32)))], [], Ac fp le lp lb il tf tz bf rf fr mp sc ifp ib ie pw dh rl rb re sy sb rc sg (Bc (0 : Int32) mfr (nI z) (upd (upd (nif t) ((nI p) + (0 : Int32)).toNatClampNeg ((v >>> (((8 : Int32) * (0 : Int32)) &&& 31)) &&& (255 : Int32))) ((nI p) + ((0 : Int32) + (1 : Int32))).toNatClampNeg ((v >>> (((8 : Int32) * ((0 : Int32) + (1 : Int32))) &&& 31)) &&& (255 : Int32))) mmp mrg mme msn mbg mhd mfo mfi mmy mwa mwn mba mdy mkn mfa mpl men mpg mct mim))) k_M_poke_38 kc_M_poke_38 rfl ⟨trivial, trivial, trivial, trivial, trivial, trivial, trivial, trivial, trivial, trivial, trivial, trivial, (by rw [show ((0 : Int32) + (1 : Int32)) = nI 1 from by decide, nI_add]; exact vp_in_nI (show p + 1 < 900 by omega) (by decide)), trivial, trivial⟩ ?_
          refine Run.goto (tgt := 32) d_M_poke_61 (by decide) ?_
          refine Run.blk (gs := [True, True]) (S' := ([some (.ref 16), some (.int (nI p)), some (.int (4 : Int32)), some (.int v), some (.int (((0 : Int32) + (1 : Int32)) + (1 : Int32)))], [.int (4 : Int32), .int (((0 : Int32) + (1 : Int32)) + (1 : Int32))], Ac fp le lp lb il tf tz bf rf fr mp sc ifp ib ie pw dh rl rb re sy sb rc sg (Bc (0 : Int32) mfr (nI z) (upd (upd (nif t) ((nI p) + (0 : Int32)).toNatClampNeg ((v >>> (((8 : Int32) * (0 : Int32)) &&& 31)) &&& (255 : Int32))) ((nI p) + ((0 : Int32) + (1 : Int32))).toNatClampNeg ((v >>> (((8 : Int32) * ((0 : Int32) + (1 : Int32))) &&& 31)) &&& (255 : Int32))) mmp mrg mme msn mbg mhd mfo mfi mmy mwa mwn mba mdy mkn mfa mpl men mpg mct mim))) k_M_poke_32 kc_M_poke_32 rfl ⟨trivial, trivial, trivial⟩ ?_
          refine Run.br (tgt := 64) d_M_poke_35 rfl (by decide) (fun c_5 => ?_) (fun c_5 => ?_)
          · exact absurd c_5 (by decide)
          · refine Run.blk (gs := [True, True, True, True, True, True, True, True, True, True, True, True, vp_in ((nI p) + (((0 : Int32) + (1 : Int32)) + (1 : Int32))) 900, True]) (S' := ([some (.ref 16), some (.int (nI p)), some (.int (4 : Int32)), some (.int v), some (.int ((((0 : Int32) + (1 : Int32)) + (1 : Int32)) + (1 : Int32)))], [], Ac fp le lp lb il tf tz bf rf fr mp sc ifp ib ie pw dh rl rb re sy sb rc sg (Bc (0 : Int32) mfr (nI z) (upd (upd (upd (nif t) ((nI p) + (0 : Int32)).toNatClampNeg ((v >>> (((8 : Int32) * (0 : Int32)) &&& 31)) &&& (255 : Int32))) ((nI p) + ((0 : Int32) + (1 : Int32))).toNatClampNeg ((v >>> (((8 : Int32) * ((0 : Int32) + (1 : Int32))) &&& 31)) &&& (255 : Int32))) ((nI p) + (((0 : Int32) + (1 : Int32)) + (1 : Int32))).toNatClampNeg ((v >>> (((8 : Int32) * (((0 : Int32) + (1 : Int32)) + (1 : Int32))) &&& 31)) &&& (255 : Int32))) mmp mrg mme msn mbg mhd mfo mfi mmy mwa mwn mba mdy mkn mfa mpl men mpg mct mim))) k_M_poke_38 kc_M_poke_38 rfl ⟨trivial, trivial, trivial, trivial, trivial, trivial, trivial, trivial, trivial, trivial, trivial, trivial, (by rw [show (((0 : Int32) + (1 : Int32)) + (1 : Int32)) = nI 2 from by decide, nI_add]; exact vp_in_nI (show p + 2 < 900 by omega) (by decide)), trivial, trivial⟩ ?_
            refine Run.goto (tgt := 32) d_M_poke_61 (by decide) ?_
            refine Run.blk (gs := [True, True]) (S' := ([some (.ref 16), some (.int (nI p)), some (.int (4 : Int32)), some (.int v), some (.int ((((0 : Int32) + (1 : Int32)) + (1 : Int32)) + (1 : Int32)))], [.int (4 : Int32), .int ((((0 : Int32) + (1 : Int32)) + (1 : Int32)) + (1 : Int32))], Ac fp le lp lb il tf tz bf rf fr mp sc ifp ib ie pw dh rl rb re sy sb rc sg (Bc (0 : Int32) mfr (nI z) (upd (upd (upd (nif t) ((nI p) + (0 : Int32)).toNatClampNeg ((v >>> (((8 : Int32) * (0 : Int32)) &&& 31)) &&& (255 : Int32))) ((nI p) + ((0 : Int32) + (1 : Int32))).toNatClampNeg ((v >>> (((8 : Int32) * ((0 : Int32) + (1 : Int32))) &&& 31)) &&& (255 : Int32))) ((nI p) + (((0 : Int32) + (1 : Int32)) + (1 : Int32))).toNatClampNeg ((v >>> (((8 : Int32) * (((0 : Int32) + (1 : Int32)) + (1 : Int32))) &&& 31)) &&& (255 : Int32))) mmp mrg mme msn mbg mhd mfo mfi mmy mwa mwn mba mdy mkn mfa mpl men mpg mct mim))) k_M_poke_32 kc_M_poke_32 rfl ⟨trivial, trivial, trivial⟩ ?_
            refine Run.br (tgt := 64) d_M_poke_35 rfl (by decide) (fun c_6 => ?_) (fun c_6 => ?_)
            · exact absurd c_6 (by decide)
            · refine Run.blk (gs := [True, True, True, True, True, True, True, True, True, True, True, True, vp_in ((nI p) + ((((0 : Int32) + (1 : Int32)) + (1 : Int32)) + (1 : Int32))) 900, True]) (S' := ([some (.ref 16), some (.int (nI p)), some (.int (4 : Int32)), some (.int v), some (.int (((((0 : Int32) + (1 : Int32)) + (1 : Int32)) + (1 : Int32)) + (1 : Int32)))], [], Ac fp le lp lb il tf tz bf rf fr mp sc ifp ib ie pw dh rl rb re sy sb rc sg (Bc (0 : Int32) mfr (nI z) (upd (upd (upd (upd (nif t) ((nI p) + (0 : Int32)).toNatClampNeg ((v >>> (((8 : Int32) * (0 : Int32)) &&& 31)) &&& (255 : Int32))) ((nI p) + ((0 : Int32) + (1 : Int32))).toNatClampNeg ((v >>> (((8 : Int32) * ((0 : Int32) + (1 : Int32))) &&& 31)) &&& (255 : Int32))) ((nI p) + (((0 : Int32) + (1 : Int32)) + (1 : Int32))).toNatClampNeg ((v >>> (((8 : Int32) * (((0 : Int32) + (1 : Int32)) + (1 : Int32))) &&& 31)) &&& (255 : Int32))) ((nI p) + ((((0 : Int32) + (1 : Int32)) + (1 : Int32)) + (1 : Int32))).toNatClampNeg ((v >>> (((8 : Int32) * ((((0 : Int32) + (1 : Int32)) + (1 : Int32)) + (1 : Int32))) &&& 31)) &&& (255 : Int32))) mmp mrg mme msn mbg mhd mfo mfi mmy mwa mwn mba mdy mkn mfa mpl men mpg mct mim))) k_M_poke_38 kc_M_poke_38 rfl ⟨trivial, trivial, trivial, trivial, trivial, trivial, trivial, trivial, trivial, trivial, trivial, trivial, (by rw [show ((((0 : Int32) + (1 : Int32)) + (1 : Int32)) + (1 : Int32)) = nI 3 from by decide, nI_add]; exact vp_in_nI (show p + 3 < 900 by omega) (by decide)), trivial, trivial⟩ ?_
              refine Run.goto (tgt := 32) d_M_poke_61 (by decide) ?_
              refine Run.blk (gs := [True, True]) (S' := ([some (.ref 16), some (.int (nI p)), some (.int (4 : Int32)), some (.int v), some (.int (((((0 : Int32) + (1 : Int32)) + (1 : Int32)) + (1 : Int32)) + (1 : Int32)))], [.int (4 : Int32), .int (((((0 : Int32) + (1 : Int32)) + (1 : Int32)) + (1 : Int32)) + (1 : Int32))], Ac fp le lp lb il tf tz bf rf fr mp sc ifp ib ie pw dh rl rb re sy sb rc sg (Bc (0 : Int32) mfr (nI z) (upd (upd (upd (upd (nif t) ((nI p) + (0 : Int32)).toNatClampNeg ((v >>> (((8 : Int32) * (0 : Int32)) &&& 31)) &&& (255 : Int32))) ((nI p) + ((0 : Int32) + (1 : Int32))).toNatClampNeg ((v >>> (((8 : Int32) * ((0 : Int32) + (1 : Int32))) &&& 31)) &&& (255 : Int32))) ((nI p) + (((0 : Int32) + (1 : Int32)) + (1 : Int32))).toNatClampNeg ((v >>> (((8 : Int32) * (((0 : Int32) + (1 : Int32)) + (1 : Int32))) &&& 31)) &&& (255 : Int32))) ((nI p) + ((((0 : Int32) + (1 : Int32)) + (1 : Int32)) + (1 : Int32))).toNatClampNeg ((v >>> (((8 : Int32) * ((((0 : Int32) + (1 : Int32)) + (1 : Int32)) + (1 : Int32))) &&& 31)) &&& (255 : Int32))) mmp mrg mme msn mbg mhd mfo mfi mmy mwa mwn mba mdy mkn mfa mpl men mpg mct mim))) k_M_poke_32 kc_M_poke_32 rfl ⟨trivial, trivial, trivial⟩ ?_
              refine Run.br (tgt := 64) d_M_poke_35 rfl (by decide) (fun c_7 => ?_) (fun c_7 => ?_)
              · refine Run.blk (gs := [True]) (S' := ([some (.ref 16), some (.int (nI p)), some (.int (4 : Int32)), some (.int v), some (.int (((((0 : Int32) + (1 : Int32)) + (1 : Int32)) + (1 : Int32)) + (1 : Int32)))], [.int (0 : Int32)], Ac fp le lp lb il tf tz bf rf fr mp sc ifp ib ie pw dh rl rb re sy sb rc sg (Bc (0 : Int32) mfr (nI z) (upd (upd (upd (upd (nif t) ((nI p) + (0 : Int32)).toNatClampNeg ((v >>> (((8 : Int32) * (0 : Int32)) &&& 31)) &&& (255 : Int32))) ((nI p) + ((0 : Int32) + (1 : Int32))).toNatClampNeg ((v >>> (((8 : Int32) * ((0 : Int32) + (1 : Int32))) &&& 31)) &&& (255 : Int32))) ((nI p) + (((0 : Int32) + (1 : Int32)) + (1 : Int32))).toNatClampNeg ((v >>> (((8 : Int32) * (((0 : Int32) + (1 : Int32)) + (1 : Int32))) &&& 31)) &&& (255 : Int32))) ((nI p) + ((((0 : Int32) + (1 : Int32)) + (1 : Int32)) + (1 : Int32))).toNatClampNeg ((v >>> (((8 : Int32) * ((((0 : Int32) + (1 : Int32)) + (1 : Int32)) + (1 : Int32))) &&& 31)) &&& (255 : Int32))) mmp mrg mme msn mbg mhd mfo mfi mmy mwa mwn mba mdy mkn mfa mpl men mpg mct mim))) k_M_poke_64 kc_M_poke_64 rfl ⟨trivial, trivial⟩ ?_
                refine Run.ret (r := some (.int (0 : Int32))) ⟨d_M_poke_65, _, rfl, rfl⟩ ⟨rfl, ?_⟩
                rw [show nI p + (0 : Int32) = nI (p + 0) from by rw [show (0 : Int32) = nI 0 from by decide]; exact nI_add p 0, nI_clamp (show p + 0 < 2 ^ 31 by omega), vsh v (s := (8 : Int32) * (0 : Int32)) (i := 0) (by decide) (by decide), upd_nif]
                rw [show nI p + ((0 : Int32) + (1 : Int32)) = nI (p + 1) from by rw [show ((0 : Int32) + (1 : Int32)) = nI 1 from by decide]; exact nI_add p 1, nI_clamp (show p + 1 < 2 ^ 31 by omega), vsh v (s := (8 : Int32) * ((0 : Int32) + (1 : Int32))) (i := 1) (by decide) (by decide), upd_nif]
                rw [show nI p + (((0 : Int32) + (1 : Int32)) + (1 : Int32)) = nI (p + 2) from by rw [show (((0 : Int32) + (1 : Int32)) + (1 : Int32)) = nI 2 from by decide]; exact nI_add p 2, nI_clamp (show p + 2 < 2 ^ 31 by omega), vsh v (s := (8 : Int32) * (((0 : Int32) + (1 : Int32)) + (1 : Int32))) (i := 2) (by decide) (by decide), upd_nif]
                rw [show nI p + ((((0 : Int32) + (1 : Int32)) + (1 : Int32)) + (1 : Int32)) = nI (p + 3) from by rw [show ((((0 : Int32) + (1 : Int32)) + (1 : Int32)) + (1 : Int32)) = nI 3 from by decide]; exact nI_add p 3, nI_clamp (show p + 3 < 2 ^ 31 by omega), vsh v (s := (8 : Int32) * ((((0 : Int32) + (1 : Int32)) + (1 : Int32)) + (1 : Int32))) (i := 3) (by decide) (by decide), upd_nif]
                rfl
              · exact absurd c_7 (by decide)
    · have c_2 := zi_f (Classical.not_not.mp c_2)
      exfalso; apply c_2; rw [szy hz (by decide) (by decide), t0, nI_toInt (show p < 2 ^ 31 by omega)]; simp only [t1, t2, t4]; omega
end P21
end
