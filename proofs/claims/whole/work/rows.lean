section
-- ===== PART A: goes FIRST, ahead of the names: the tables' words, and 'selects' of the private methods out of them =====
/-- a private method of a class that the tables say can be made, by its rows of tables_1 -/
def lw_okq (q : MethodName × Nat) : Prop := (q.1.cls ≠ "java/lang/invoke/MethodHandle" ∧ q.1.cls ≠ "java/lang/invoke/VarHandle") ∧ Cond.instantiable q.1.cls q.2 ∈ tables_1 ∧ Cond.privateMethod q.1 ∈ tables_1 ∧ Cond.instanceMethod q.1 ∈ tables_1
theorem lw_p0 : lw_okq (⟨"ImageLoader$Image", "forget", "()V"⟩, 13) := ⟨⟨by decide +kernel, by decide +kernel⟩, List.mem_of_getElem? (i := 58) (by decide +kernel), List.mem_of_getElem? (i := 97) (by decide +kernel), List.mem_of_getElem? (i := 98) (by decide +kernel)⟩
theorem lw_p1 : lw_okq (⟨"ImageLoader$Image", "headerFault", "(LImageLoader$Tape;)I"⟩, 13) := ⟨⟨by decide +kernel, by decide +kernel⟩, List.mem_of_getElem? (i := 58) (by decide +kernel), List.mem_of_getElem? (i := 225) (by decide +kernel), List.mem_of_getElem? (i := 226) (by decide +kernel)⟩
theorem lw_p2 : lw_okq (⟨"ImageLoader$Image", "fault", "(II)I"⟩, 13) := ⟨⟨by decide +kernel, by decide +kernel⟩, List.mem_of_getElem? (i := 58) (by decide +kernel), List.mem_of_getElem? (i := 230) (by decide +kernel), List.mem_of_getElem? (i := 231) (by decide +kernel)⟩
theorem lw_p3 : lw_okq (⟨"ImageLoader$Image", "headsFault", "(LImageLoader$Tape;LImageLoader$Space;)I"⟩, 13) := ⟨⟨by decide +kernel, by decide +kernel⟩, List.mem_of_getElem? (i := 58) (by decide +kernel), List.mem_of_getElem? (i := 248) (by decide +kernel), List.mem_of_getElem? (i := 249) (by decide +kernel)⟩
theorem lw_p4 : lw_okq (⟨"ImageLoader$Image", "segmentFault", "(LImageLoader$Tape;LImageLoader$Space;I)I"⟩, 13) := ⟨⟨by decide +kernel, by decide +kernel⟩, List.mem_of_getElem? (i := 58) (by decide +kernel), List.mem_of_getElem? (i := 253) (by decide +kernel), List.mem_of_getElem? (i := 254) (by decide +kernel)⟩
theorem lw_p5 : lw_okq (⟨"ImageLoader$Image", "meetsEarlier", "(LImageLoader$Segment;)Z"⟩, 13) := ⟨⟨by decide +kernel, by decide +kernel⟩, List.mem_of_getElem? (i := 58) (by decide +kernel), List.mem_of_getElem? (i := 302) (by decide +kernel), List.mem_of_getElem? (i := 303) (by decide +kernel)⟩
theorem lw_p6 : lw_okq (⟨"ImageLoader$Image", "dynamicHeadFault", "(LImageLoader$Tape;I)I"⟩, 13) := ⟨⟨by decide +kernel, by decide +kernel⟩, List.mem_of_getElem? (i := 58) (by decide +kernel), List.mem_of_getElem? (i := 321) (by decide +kernel), List.mem_of_getElem? (i := 322) (by decide +kernel)⟩
theorem lw_p7 : lw_okq (⟨"ImageLoader$Image", "entryFault", "(LImageLoader$Tape;)I"⟩, 13) := ⟨⟨by decide +kernel, by decide +kernel⟩, List.mem_of_getElem? (i := 58) (by decide +kernel), List.mem_of_getElem? (i := 326) (by decide +kernel), List.mem_of_getElem? (i := 327) (by decide +kernel)⟩
theorem lw_p8 : lw_okq (⟨"ImageLoader$Image", "dynamicFault", "(LImageLoader$Tape;)I"⟩, 13) := ⟨⟨by decide +kernel, by decide +kernel⟩, List.mem_of_getElem? (i := 58) (by decide +kernel), List.mem_of_getElem? (i := 334) (by decide +kernel), List.mem_of_getElem? (i := 335) (by decide +kernel)⟩
theorem lw_p9 : lw_okq (⟨"ImageLoader$Image", "takeDynamicPairs", "(LImageLoader$Tape;)V"⟩, 13) := ⟨⟨by decide +kernel, by decide +kernel⟩, List.mem_of_getElem? (i := 58) (by decide +kernel), List.mem_of_getElem? (i := 338) (by decide +kernel), List.mem_of_getElem? (i := 339) (by decide +kernel)⟩
theorem lw_p10 : lw_okq (⟨"ImageLoader$Image", "takeDynamicPair", "(JJ)V"⟩, 13) := ⟨⟨by decide +kernel, by decide +kernel⟩, List.mem_of_getElem? (i := 58) (by decide +kernel), List.mem_of_getElem? (i := 342) (by decide +kernel), List.mem_of_getElem? (i := 343) (by decide +kernel)⟩
theorem lw_p11 : lw_okq (⟨"ImageLoader$Image", "lay", "(LImageLoader$Tape;LImageLoader$Space;)V"⟩, 13) := ⟨⟨by decide +kernel, by decide +kernel⟩, List.mem_of_getElem? (i := 58) (by decide +kernel), List.mem_of_getElem? (i := 352) (by decide +kernel), List.mem_of_getElem? (i := 353) (by decide +kernel)⟩
theorem lw_p12 : lw_okq (⟨"ImageLoader$Space", "clear", "(I)V"⟩, 4) := ⟨⟨by decide +kernel, by decide +kernel⟩, List.mem_of_getElem? (i := 32) (by decide +kernel), List.mem_of_getElem? (i := 368) (by decide +kernel), List.mem_of_getElem? (i := 369) (by decide +kernel)⟩
theorem lw_p13 : lw_okq (⟨"ImageLoader$Image", "relocationsFault", "(LImageLoader$Space;)I"⟩, 13) := ⟨⟨by decide +kernel, by decide +kernel⟩, List.mem_of_getElem? (i := 58) (by decide +kernel), List.mem_of_getElem? (i := 382) (by decide +kernel), List.mem_of_getElem? (i := 383) (by decide +kernel)⟩
theorem lw_p14 : lw_okq (⟨"ImageLoader$Image", "relocationFault", "(LImageLoader$Space;I)I"⟩, 13) := ⟨⟨by decide +kernel, by decide +kernel⟩, List.mem_of_getElem? (i := 58) (by decide +kernel), List.mem_of_getElem? (i := 386) (by decide +kernel), List.mem_of_getElem? (i := 387) (by decide +kernel)⟩
theorem lw_p15 : lw_okq (⟨"ImageLoader$Image", "areHeld", "(II)Z"⟩, 13) := ⟨⟨by decide +kernel, by decide +kernel⟩, List.mem_of_getElem? (i := 58) (by decide +kernel), List.mem_of_getElem? (i := 390) (by decide +kernel), List.mem_of_getElem? (i := 391) (by decide +kernel)⟩
def lw_privs_1 : List (MethodName × Nat) := [(⟨"ImageLoader$Image", "forget", "()V"⟩, 13), (⟨"ImageLoader$Image", "headerFault", "(LImageLoader$Tape;)I"⟩, 13), (⟨"ImageLoader$Image", "fault", "(II)I"⟩, 13), (⟨"ImageLoader$Image", "headsFault", "(LImageLoader$Tape;LImageLoader$Space;)I"⟩, 13), (⟨"ImageLoader$Image", "segmentFault", "(LImageLoader$Tape;LImageLoader$Space;I)I"⟩, 13), (⟨"ImageLoader$Image", "meetsEarlier", "(LImageLoader$Segment;)Z"⟩, 13), (⟨"ImageLoader$Image", "dynamicHeadFault", "(LImageLoader$Tape;I)I"⟩, 13), (⟨"ImageLoader$Image", "entryFault", "(LImageLoader$Tape;)I"⟩, 13), (⟨"ImageLoader$Image", "dynamicFault", "(LImageLoader$Tape;)I"⟩, 13), (⟨"ImageLoader$Image", "takeDynamicPairs", "(LImageLoader$Tape;)V"⟩, 13), (⟨"ImageLoader$Image", "takeDynamicPair", "(JJ)V"⟩, 13), (⟨"ImageLoader$Image", "lay", "(LImageLoader$Tape;LImageLoader$Space;)V"⟩, 13), (⟨"ImageLoader$Space", "clear", "(I)V"⟩, 4), (⟨"ImageLoader$Image", "relocationsFault", "(LImageLoader$Space;)I"⟩, 13), (⟨"ImageLoader$Image", "relocationFault", "(LImageLoader$Space;I)I"⟩, 13), (⟨"ImageLoader$Image", "areHeld", "(II)Z"⟩, 13)]
theorem lw_r1 : ∀ q ∈ lw_privs_1, lw_okq q := List.forall_mem_cons.mpr ⟨lw_p0, List.forall_mem_cons.mpr ⟨lw_p1, List.forall_mem_cons.mpr ⟨lw_p2, List.forall_mem_cons.mpr ⟨lw_p3, List.forall_mem_cons.mpr ⟨lw_p4, List.forall_mem_cons.mpr ⟨lw_p5, List.forall_mem_cons.mpr ⟨lw_p6, List.forall_mem_cons.mpr ⟨lw_p7, List.forall_mem_cons.mpr ⟨lw_p8, List.forall_mem_cons.mpr ⟨lw_p9, List.forall_mem_cons.mpr ⟨lw_p10, List.forall_mem_cons.mpr ⟨lw_p11, List.forall_mem_cons.mpr ⟨lw_p12, List.forall_mem_cons.mpr ⟨lw_p13, List.forall_mem_cons.mpr ⟨lw_p14, List.forall_mem_cons.mpr ⟨lw_p15, fun _ h => absurd h List.not_mem_nil⟩⟩⟩⟩⟩⟩⟩⟩⟩⟩⟩⟩⟩⟩⟩⟩
theorem lw_p16 : lw_okq (⟨"ImageLoader$Image", "symbolFault", "(LImageLoader$Space;III)I"⟩, 13) := ⟨⟨by decide +kernel, by decide +kernel⟩, List.mem_of_getElem? (i := 58) (by decide +kernel), List.mem_of_getElem? (i := 402) (by decide +kernel), List.mem_of_getElem? (i := 403) (by decide +kernel)⟩
theorem lw_p17 : lw_okq (⟨"ImageLoader$Image", "takeBack", "(LImageLoader$Space;)V"⟩, 13) := ⟨⟨by decide +kernel, by decide +kernel⟩, List.mem_of_getElem? (i := 58) (by decide +kernel), List.mem_of_getElem? (i := 411) (by decide +kernel), List.mem_of_getElem? (i := 412) (by decide +kernel)⟩
theorem lw_p18 : lw_okq (⟨"ImageLoader", "stackPointer", "()I"⟩, 8) := ⟨⟨by decide +kernel, by decide +kernel⟩, List.mem_of_getElem? (i := 10) (by decide +kernel), List.mem_of_getElem? (i := 449) (by decide +kernel), List.mem_of_getElem? (i := 450) (by decide +kernel)⟩
theorem lw_p19 : lw_okq (⟨"ImageLoader", "argumentCount", "()I"⟩, 8) := ⟨⟨by decide +kernel, by decide +kernel⟩, List.mem_of_getElem? (i := 10) (by decide +kernel), List.mem_of_getElem? (i := 453) (by decide +kernel), List.mem_of_getElem? (i := 454) (by decide +kernel)⟩
theorem lw_p20 : lw_okq (⟨"ImageLoader", "argumentBytes", "()I"⟩, 8) := ⟨⟨by decide +kernel, by decide +kernel⟩, List.mem_of_getElem? (i := 10) (by decide +kernel), List.mem_of_getElem? (i := 461) (by decide +kernel), List.mem_of_getElem? (i := 462) (by decide +kernel)⟩
theorem lw_p21 : lw_okq (⟨"ImageLoader", "layArguments", "(I)V"⟩, 8) := ⟨⟨by decide +kernel, by decide +kernel⟩, List.mem_of_getElem? (i := 10) (by decide +kernel), List.mem_of_getElem? (i := 469) (by decide +kernel), List.mem_of_getElem? (i := 470) (by decide +kernel)⟩
theorem lw_p22 : lw_okq (⟨"ImageLoaderModel", "isHeader", "()Z"⟩, 24) := ⟨⟨by decide +kernel, by decide +kernel⟩, List.mem_of_getElem? (i := 542) (by decide +kernel), List.mem_of_getElem? (i := 654) (by decide +kernel), List.mem_of_getElem? (i := 655) (by decide +kernel)⟩
theorem lw_p23 : lw_okq (⟨"ImageLoaderModel", "fail", "(II)Z"⟩, 24) := ⟨⟨by decide +kernel, by decide +kernel⟩, List.mem_of_getElem? (i := 542) (by decide +kernel), List.mem_of_getElem? (i := 658) (by decide +kernel), List.mem_of_getElem? (i := 659) (by decide +kernel)⟩
theorem lw_p24 : lw_okq (⟨"ImageLoaderModel", "half", "(I)I"⟩, 24) := ⟨⟨by decide +kernel, by decide +kernel⟩, List.mem_of_getElem? (i := 542) (by decide +kernel), List.mem_of_getElem? (i := 662) (by decide +kernel), List.mem_of_getElem? (i := 663) (by decide +kernel)⟩
theorem lw_p25 : lw_okq (⟨"ImageLoaderModel", "word", "(I)J"⟩, 24) := ⟨⟨by decide +kernel, by decide +kernel⟩, List.mem_of_getElem? (i := 542) (by decide +kernel), List.mem_of_getElem? (i := 666) (by decide +kernel), List.mem_of_getElem? (i := 667) (by decide +kernel)⟩
theorem lw_p26 : lw_okq (⟨"ImageLoaderModel", "areHeads", "()Z"⟩, 24) := ⟨⟨by decide +kernel, by decide +kernel⟩, List.mem_of_getElem? (i := 542) (by decide +kernel), List.mem_of_getElem? (i := 671) (by decide +kernel), List.mem_of_getElem? (i := 672) (by decide +kernel)⟩
theorem lw_p27 : lw_okq (⟨"ImageLoaderModel", "isSegment", "(I)Z"⟩, 24) := ⟨⟨by decide +kernel, by decide +kernel⟩, List.mem_of_getElem? (i := 542) (by decide +kernel), List.mem_of_getElem? (i := 675) (by decide +kernel), List.mem_of_getElem? (i := 676) (by decide +kernel)⟩
theorem lw_p28 : lw_okq (⟨"ImageLoaderModel", "mappedPages", "()I"⟩, 24) := ⟨⟨by decide +kernel, by decide +kernel⟩, List.mem_of_getElem? (i := 542) (by decide +kernel), List.mem_of_getElem? (i := 681) (by decide +kernel), List.mem_of_getElem? (i := 682) (by decide +kernel)⟩
theorem lw_p29 : lw_okq (⟨"ImageLoaderModel", "isDynamic", "(I)Z"⟩, 24) := ⟨⟨by decide +kernel, by decide +kernel⟩, List.mem_of_getElem? (i := 542) (by decide +kernel), List.mem_of_getElem? (i := 687) (by decide +kernel), List.mem_of_getElem? (i := 688) (by decide +kernel)⟩
theorem lw_p30 : lw_okq (⟨"ImageLoaderModel", "arePairs", "()Z"⟩, 24) := ⟨⟨by decide +kernel, by decide +kernel⟩, List.mem_of_getElem? (i := 542) (by decide +kernel), List.mem_of_getElem? (i := 692) (by decide +kernel), List.mem_of_getElem? (i := 693) (by decide +kernel)⟩
theorem lw_p31 : lw_okq (⟨"ImageLoaderModel", "lay", "()V"⟩, 24) := ⟨⟨by decide +kernel, by decide +kernel⟩, List.mem_of_getElem? (i := 542) (by decide +kernel), List.mem_of_getElem? (i := 698) (by decide +kernel), List.mem_of_getElem? (i := 699) (by decide +kernel)⟩
def lw_privs_2 : List (MethodName × Nat) := [(⟨"ImageLoader$Image", "symbolFault", "(LImageLoader$Space;III)I"⟩, 13), (⟨"ImageLoader$Image", "takeBack", "(LImageLoader$Space;)V"⟩, 13), (⟨"ImageLoader", "stackPointer", "()I"⟩, 8), (⟨"ImageLoader", "argumentCount", "()I"⟩, 8), (⟨"ImageLoader", "argumentBytes", "()I"⟩, 8), (⟨"ImageLoader", "layArguments", "(I)V"⟩, 8), (⟨"ImageLoaderModel", "isHeader", "()Z"⟩, 24), (⟨"ImageLoaderModel", "fail", "(II)Z"⟩, 24), (⟨"ImageLoaderModel", "half", "(I)I"⟩, 24), (⟨"ImageLoaderModel", "word", "(I)J"⟩, 24), (⟨"ImageLoaderModel", "areHeads", "()Z"⟩, 24), (⟨"ImageLoaderModel", "isSegment", "(I)Z"⟩, 24), (⟨"ImageLoaderModel", "mappedPages", "()I"⟩, 24), (⟨"ImageLoaderModel", "isDynamic", "(I)Z"⟩, 24), (⟨"ImageLoaderModel", "arePairs", "()Z"⟩, 24), (⟨"ImageLoaderModel", "lay", "()V"⟩, 24)]
theorem lw_r2 : ∀ q ∈ lw_privs_2, lw_okq q := List.forall_mem_cons.mpr ⟨lw_p16, List.forall_mem_cons.mpr ⟨lw_p17, List.forall_mem_cons.mpr ⟨lw_p18, List.forall_mem_cons.mpr ⟨lw_p19, List.forall_mem_cons.mpr ⟨lw_p20, List.forall_mem_cons.mpr ⟨lw_p21, List.forall_mem_cons.mpr ⟨lw_p22, List.forall_mem_cons.mpr ⟨lw_p23, List.forall_mem_cons.mpr ⟨lw_p24, List.forall_mem_cons.mpr ⟨lw_p25, List.forall_mem_cons.mpr ⟨lw_p26, List.forall_mem_cons.mpr ⟨lw_p27, List.forall_mem_cons.mpr ⟨lw_p28, List.forall_mem_cons.mpr ⟨lw_p29, List.forall_mem_cons.mpr ⟨lw_p30, List.forall_mem_cons.mpr ⟨lw_p31, fun _ h => absurd h List.not_mem_nil⟩⟩⟩⟩⟩⟩⟩⟩⟩⟩⟩⟩⟩⟩⟩⟩
theorem lw_p32 : lw_okq (⟨"ImageLoaderModel", "relocations", "()Z"⟩, 24) := ⟨⟨by decide +kernel, by decide +kernel⟩, List.mem_of_getElem? (i := 542) (by decide +kernel), List.mem_of_getElem? (i := 702) (by decide +kernel), List.mem_of_getElem? (i := 703) (by decide +kernel)⟩
theorem lw_p33 : lw_okq (⟨"ImageLoaderModel", "relocate", "(I)Z"⟩, 24) := ⟨⟨by decide +kernel, by decide +kernel⟩, List.mem_of_getElem? (i := 542) (by decide +kernel), List.mem_of_getElem? (i := 706) (by decide +kernel), List.mem_of_getElem? (i := 707) (by decide +kernel)⟩
theorem lw_p34 : lw_okq (⟨"ImageLoaderModel", "areHeld", "(JI)Z"⟩, 24) := ⟨⟨by decide +kernel, by decide +kernel⟩, List.mem_of_getElem? (i := 542) (by decide +kernel), List.mem_of_getElem? (i := 711) (by decide +kernel), List.mem_of_getElem? (i := 712) (by decide +kernel)⟩
theorem lw_p35 : lw_okq (⟨"ImageLoaderModel", "wordIn", "(J)J"⟩, 24) := ⟨⟨by decide +kernel, by decide +kernel⟩, List.mem_of_getElem? (i := 542) (by decide +kernel), List.mem_of_getElem? (i := 715) (by decide +kernel), List.mem_of_getElem? (i := 716) (by decide +kernel)⟩
theorem lw_p36 : lw_okq (⟨"ImageLoaderModel", "put", "(JJ)V"⟩, 24) := ⟨⟨by decide +kernel, by decide +kernel⟩, List.mem_of_getElem? (i := 542) (by decide +kernel), List.mem_of_getElem? (i := 720) (by decide +kernel), List.mem_of_getElem? (i := 721) (by decide +kernel)⟩
theorem lw_p37 : lw_okq (⟨"ImageLoaderModel", "unlay", "()V"⟩, 24) := ⟨⟨by decide +kernel, by decide +kernel⟩, List.mem_of_getElem? (i := 542) (by decide +kernel), List.mem_of_getElem? (i := 725) (by decide +kernel), List.mem_of_getElem? (i := 726) (by decide +kernel)⟩
theorem lw_p38 : lw_okq (⟨"ImageLoaderModel", "have", "(III)J"⟩, 24) := ⟨⟨by decide +kernel, by decide +kernel⟩, List.mem_of_getElem? (i := 542) (by decide +kernel), List.mem_of_getElem? (i := 741) (by decide +kernel), List.mem_of_getElem? (i := 742) (by decide +kernel)⟩
theorem lw_p39 : lw_okq (⟨"ImageLoaderModel", "refusal", "(III)I"⟩, 24) := ⟨⟨by decide +kernel, by decide +kernel⟩, List.mem_of_getElem? (i := 542) (by decide +kernel), List.mem_of_getElem? (i := 745) (by decide +kernel), List.mem_of_getElem? (i := 746) (by decide +kernel)⟩
theorem lw_p40 : lw_okq (⟨"ImageLoaderModel", "with", "(I)I"⟩, 24) := ⟨⟨by decide +kernel, by decide +kernel⟩, List.mem_of_getElem? (i := 542) (by decide +kernel), List.mem_of_getElem? (i := 776) (by decide +kernel), List.mem_of_getElem? (i := 777) (by decide +kernel)⟩
def lw_privs_3 : List (MethodName × Nat) := [(⟨"ImageLoaderModel", "relocations", "()Z"⟩, 24), (⟨"ImageLoaderModel", "relocate", "(I)Z"⟩, 24), (⟨"ImageLoaderModel", "areHeld", "(JI)Z"⟩, 24), (⟨"ImageLoaderModel", "wordIn", "(J)J"⟩, 24), (⟨"ImageLoaderModel", "put", "(JJ)V"⟩, 24), (⟨"ImageLoaderModel", "unlay", "()V"⟩, 24), (⟨"ImageLoaderModel", "have", "(III)J"⟩, 24), (⟨"ImageLoaderModel", "refusal", "(III)I"⟩, 24), (⟨"ImageLoaderModel", "with", "(I)I"⟩, 24)]
theorem lw_r3 : ∀ q ∈ lw_privs_3, lw_okq q := List.forall_mem_cons.mpr ⟨lw_p32, List.forall_mem_cons.mpr ⟨lw_p33, List.forall_mem_cons.mpr ⟨lw_p34, List.forall_mem_cons.mpr ⟨lw_p35, List.forall_mem_cons.mpr ⟨lw_p36, List.forall_mem_cons.mpr ⟨lw_p37, List.forall_mem_cons.mpr ⟨lw_p38, List.forall_mem_cons.mpr ⟨lw_p39, List.forall_mem_cons.mpr ⟨lw_p40, fun _ h => absurd h List.not_mem_nil⟩⟩⟩⟩⟩⟩⟩⟩⟩
def lw_privs : List (MethodName × Nat) := lw_privs_1 ++ (lw_privs_2 ++ (lw_privs_3))
def lw_tbl : List Cond := k2_sels lw_privs ++ tables_1
theorem lw_privs_ok : ∀ q ∈ lw_privs, lw_okq q := by
  show ∀ q ∈ lw_privs_1 ++ (lw_privs_2 ++ (lw_privs_3)), lw_okq q
  exact List.forall_mem_append.mpr ⟨lw_r1, List.forall_mem_append.mpr ⟨lw_r2, lw_r3⟩⟩
def RX0 : String := "ImageLoader$Image"
def TX0 : u_T := fun k => match k with
  | 0 => ("ImageLoader$Image", "segments", "[LImageLoader$Segment;", true)
  | 1 => ("ImageLoader$Image", "segmentCount", "I", false)
  | 2 => ("ImageLoader$Image", "faultPlace", "I", false)
  | 3 => ("ImageLoader$Image", "base", "I", false)
  | 4 => ("ImageLoader$Image", "entry", "I", false)
  | 5 => ("ImageLoader$Image", "pagesWanted", "I", false)
  | 6 => ("ImageLoader$Image", "dynamicHead", "I", false)
  | 7 => ("ImageLoader$Image", "relocations", "J", false)
  | 8 => ("ImageLoader$Image", "relocationsBytes", "J", false)
  | 9 => ("ImageLoader$Image", "relocationBytes", "J", false)
  | 10 => ("ImageLoader$Image", "symbols", "J", false)
  | 11 => ("ImageLoader$Image", "symbolBytes", "J", false)
  | _ => ("ImageLoader$Image", "relocationCount", "I", false)
def tyX0 : Nat → FieldType := fun k => match k with
  | 0 => .array (.object "ImageLoader$Segment")
  | 1 => .int
  | 2 => .int
  | 3 => .int
  | 4 => .int
  | 5 => .int
  | 6 => .int
  | 7 => .long
  | 8 => .long
  | 9 => .long
  | 10 => .long
  | 11 => .long
  | _ => .int
abbrev wsX00 : List Cond := u_ws RX0 TX0 13
theorem nmX0 : ∀ a, a < 13 → ∀ b, b < 13 → a ≠ b → (TX0 a).2.1 ≠ (TX0 b).2.1 := by decide +kernel
theorem tyX0_ok : ∀ k, k < 13 → parseFieldDescriptor (TX0 k).2.2.1 = some (tyX0 k) := by decide +kernel
abbrev cX0_init : ByteArray := prog_2_method_1_code
def yX0_init : MethodName := ⟨RX0, "<init>", "()V"⟩
abbrev cX0_faultPlace : ByteArray := prog_2_method_2_code
def yX0_faultPlace : MethodName := ⟨RX0, "faultPlace", "()I"⟩
abbrev cX0_base : ByteArray := prog_2_method_3_code
def yX0_base : MethodName := ⟨RX0, "base", "()I"⟩
abbrev cX0_entry : ByteArray := prog_2_method_4_code
def yX0_entry : MethodName := ⟨RX0, "entry", "()I"⟩
abbrev cX0_pagesWanted : ByteArray := prog_2_method_5_code
def yX0_pagesWanted : MethodName := ⟨RX0, "pagesWanted", "()I"⟩
abbrev cX0_relocationCount : ByteArray := prog_2_method_6_code
def yX0_relocationCount : MethodName := ⟨RX0, "relocationCount", "()I"⟩
abbrev cX0_bring : ByteArray := prog_2_method_7_code
def yX0_bring : MethodName := ⟨RX0, "bring", "(LImageLoader$Tape;LImageLoader$Space;I)I"⟩
abbrev cX0_forget : ByteArray := prog_2_method_8_code
def yX0_forget : MethodName := ⟨RX0, "forget", "()V"⟩
abbrev cX0_fault : ByteArray := prog_2_method_9_code
def yX0_fault : MethodName := ⟨RX0, "fault", "(II)I"⟩
abbrev cX0_headerFault : ByteArray := prog_2_method_10_code
def yX0_headerFault : MethodName := ⟨RX0, "headerFault", "(LImageLoader$Tape;)I"⟩
abbrev cX0_headsFault : ByteArray := prog_2_method_11_code
def yX0_headsFault : MethodName := ⟨RX0, "headsFault", "(LImageLoader$Tape;LImageLoader$Space;)I"⟩
abbrev cX0_segmentFault : ByteArray := prog_2_method_12_code
def yX0_segmentFault : MethodName := ⟨RX0, "segmentFault", "(LImageLoader$Tape;LImageLoader$Space;I)I"⟩
abbrev cX0_meetsEarlier : ByteArray := prog_2_method_13_code
def yX0_meetsEarlier : MethodName := ⟨RX0, "meetsEarlier", "(LImageLoader$Segment;)Z"⟩
abbrev cX0_dynamicHeadFault : ByteArray := prog_2_method_14_code
def yX0_dynamicHeadFault : MethodName := ⟨RX0, "dynamicHeadFault", "(LImageLoader$Tape;I)I"⟩
abbrev cX0_entryFault : ByteArray := prog_2_method_15_code
def yX0_entryFault : MethodName := ⟨RX0, "entryFault", "(LImageLoader$Tape;)I"⟩
abbrev cX0_dynamicFault : ByteArray := prog_2_method_16_code
def yX0_dynamicFault : MethodName := ⟨RX0, "dynamicFault", "(LImageLoader$Tape;)I"⟩
abbrev cX0_takeDynamicPairs : ByteArray := prog_2_method_17_code
def yX0_takeDynamicPairs : MethodName := ⟨RX0, "takeDynamicPairs", "(LImageLoader$Tape;)V"⟩
abbrev cX0_takeDynamicPair : ByteArray := prog_2_method_18_code
def yX0_takeDynamicPair : MethodName := ⟨RX0, "takeDynamicPair", "(JJ)V"⟩
abbrev cX0_lay : ByteArray := prog_2_method_19_code
def yX0_lay : MethodName := ⟨RX0, "lay", "(LImageLoader$Tape;LImageLoader$Space;)V"⟩
abbrev cX0_takeBack : ByteArray := prog_2_method_20_code
def yX0_takeBack : MethodName := ⟨RX0, "takeBack", "(LImageLoader$Space;)V"⟩
abbrev cX0_relocationsFault : ByteArray := prog_2_method_21_code
def yX0_relocationsFault : MethodName := ⟨RX0, "relocationsFault", "(LImageLoader$Space;)I"⟩
abbrev cX0_relocationFault : ByteArray := prog_2_method_22_code
def yX0_relocationFault : MethodName := ⟨RX0, "relocationFault", "(LImageLoader$Space;I)I"⟩
abbrev cX0_symbolFault : ByteArray := prog_2_method_23_code
def yX0_symbolFault : MethodName := ⟨RX0, "symbolFault", "(LImageLoader$Space;III)I"⟩
abbrev cX0_areHeld : ByteArray := prog_2_method_24_code
def yX0_areHeld : MethodName := ⟨RX0, "areHeld", "(II)Z"⟩
def RX1 : String := "ImageLoader$Segment"
def TX1 : u_T := fun k => match k with
  | 0 => ("ImageLoader$Segment", "offset", "J", false)
  | 1 => ("ImageLoader$Segment", "address", "J", false)
  | 2 => ("ImageLoader$Segment", "start", "J", false)
  | 3 => ("ImageLoader$Segment", "filed", "J", false)
  | 4 => ("ImageLoader$Segment", "held", "J", false)
  | 5 => ("ImageLoader$Segment", "align", "J", false)
  | _ => ("ImageLoader$Segment", "flags", "I", false)
def tyX1 : Nat → FieldType := fun k => match k with
  | 0 => .long
  | 1 => .long
  | 2 => .long
  | 3 => .long
  | 4 => .long
  | 5 => .long
  | _ => .int
abbrev wsX10 : List Cond := u_ws RX1 TX1 7
theorem nmX1 : ∀ a, a < 7 → ∀ b, b < 7 → a ≠ b → (TX1 a).2.1 ≠ (TX1 b).2.1 := by decide +kernel
theorem tyX1_ok : ∀ k, k < 7 → parseFieldDescriptor (TX1 k).2.2.1 = some (tyX1 k) := by decide +kernel
abbrev cX1_init : ByteArray := prog_3_method_1_code
def yX1_init : MethodName := ⟨RX1, "<init>", "()V"⟩
abbrev cX1_take : ByteArray := prog_3_method_2_code
def yX1_take : MethodName := ⟨RX1, "take", "(LImageLoader$Tape;II)V"⟩
abbrev cX1_isAlignSound : ByteArray := prog_3_method_3_code
def yX1_isAlignSound : MethodName := ⟨RX1, "isAlignSound", "()Z"⟩
abbrev cX1_isAligned : ByteArray := prog_3_method_4_code
def yX1_isAligned : MethodName := ⟨RX1, "isAligned", "()Z"⟩
abbrev cX1_isInSpace : ByteArray := prog_3_method_5_code
def yX1_isInSpace : MethodName := ⟨RX1, "isInSpace", "()Z"⟩
abbrev cX1_holds : ByteArray := prog_3_method_6_code
def yX1_holds : MethodName := ⟨RX1, "holds", "(J)Z"⟩
abbrev cX1_firstPage : ByteArray := prog_3_method_7_code
def yX1_firstPage : MethodName := ⟨RX1, "firstPage", "()I"⟩
abbrev cX1_lastPage : ByteArray := prog_3_method_8_code
def yX1_lastPage : MethodName := ⟨RX1, "lastPage", "()I"⟩
abbrev cX1_pages : ByteArray := prog_3_method_9_code
def yX1_pages : MethodName := ⟨RX1, "pages", "()I"⟩
abbrev cX1_sharesPageWith : ByteArray := prog_3_method_10_code
def yX1_sharesPageWith : MethodName := ⟨RX1, "sharesPageWith", "(LImageLoader$Segment;)Z"⟩
abbrev cX1_lay : ByteArray := prog_3_method_11_code
def yX1_lay : MethodName := ⟨RX1, "lay", "(LImageLoader$Tape;LImageLoader$Space;)V"⟩
def RX2 : String := "ImageLoader$Space"
def TX2 : u_T := fun k => match k with
  | 0 => ("ImageLoader$Space", "bytes", "[B", true)
  | 1 => ("ImageLoader$Space", "pageRights", "[I", true)
  | 2 => ("ImageLoader$Space", "frames", "I", true)
  | _ => ("ImageLoader$Space", "mapped", "I", false)
def tyX2 : Nat → FieldType := fun k => match k with
  | 0 => .array .byte
  | 1 => .array .int
  | 2 => .int
  | _ => .int
abbrev wsX20 : List Cond := u_ws RX2 TX2 4
theorem nmX2 : ∀ a, a < 4 → ∀ b, b < 4 → a ≠ b → (TX2 a).2.1 ≠ (TX2 b).2.1 := by decide +kernel
theorem tyX2_ok : ∀ k, k < 4 → parseFieldDescriptor (TX2 k).2.2.1 = some (tyX2 k) := by decide +kernel
abbrev cX2_init : ByteArray := prog_4_method_1_code
def yX2_init : MethodName := ⟨RX2, "<init>", "(I)V"⟩
abbrev cX2_frames : ByteArray := prog_4_method_2_code
def yX2_frames : MethodName := ⟨RX2, "frames", "()I"⟩
abbrev cX2_mappedPages : ByteArray := prog_4_method_3_code
def yX2_mappedPages : MethodName := ⟨RX2, "mappedPages", "()I"⟩
abbrev cX2_freeFrames : ByteArray := prog_4_method_4_code
def yX2_freeFrames : MethodName := ⟨RX2, "freeFrames", "()I"⟩
abbrev cX2_rightsOf : ByteArray := prog_4_method_5_code
def yX2_rightsOf : MethodName := ⟨RX2, "rightsOf", "(I)I"⟩
abbrev cX2_setRights : ByteArray := prog_4_method_6_code
def yX2_setRights : MethodName := ⟨RX2, "setRights", "(II)V"⟩
abbrev cX2_anyMapped : ByteArray := prog_4_method_7_code
def yX2_anyMapped : MethodName := ⟨RX2, "anyMapped", "(II)Z"⟩
abbrev cX2_pagesWith : ByteArray := prog_4_method_8_code
def yX2_pagesWith : MethodName := ⟨RX2, "pagesWith", "(I)I"⟩
abbrev cX2_mapAll : ByteArray := prog_4_method_9_code
def yX2_mapAll : MethodName := ⟨RX2, "mapAll", "(III)V"⟩
abbrev cX2_clear : ByteArray := prog_4_method_10_code
def yX2_clear : MethodName := ⟨RX2, "clear", "(I)V"⟩
abbrev cX2_releaseAll : ByteArray := prog_4_method_11_code
def yX2_releaseAll : MethodName := ⟨RX2, "releaseAll", "(II)V"⟩
abbrev cX2_refusal : ByteArray := prog_4_method_12_code
def yX2_refusal : MethodName := ⟨RX2, "refusal", "(III)I"⟩
abbrev cX2_byteAt : ByteArray := prog_4_method_13_code
def yX2_byteAt : MethodName := ⟨RX2, "byteAt", "(I)I"⟩
abbrev cX2_setByte : ByteArray := prog_4_method_14_code
def yX2_setByte : MethodName := ⟨RX2, "setByte", "(II)V"⟩
abbrev cX2_number : ByteArray := prog_4_method_15_code
def yX2_number : MethodName := ⟨RX2, "number", "(II)J"⟩
abbrev cX2_setNumber : ByteArray := prog_4_method_16_code
def yX2_setNumber : MethodName := ⟨RX2, "setNumber", "(III)V"⟩
abbrev cX2_sumOn : ByteArray := prog_4_method_17_code
def yX2_sumOn : MethodName := ⟨RX2, "sumOn", "(II)I"⟩
def RX3 : String := "ImageLoader$Tape"
def TX3 : u_T := fun k => match k with
  | 0 => ("ImageLoader$Tape", "bytes", "[B", true)
  | _ => ("ImageLoader$Tape", "size", "I", false)
def tyX3 : Nat → FieldType := fun k => match k with
  | 0 => .array .byte
  | _ => .int
abbrev wsX30 : List Cond := u_ws RX3 TX3 2
theorem nmX3 : ∀ a, a < 2 → ∀ b, b < 2 → a ≠ b → (TX3 a).2.1 ≠ (TX3 b).2.1 := by decide +kernel
theorem tyX3_ok : ∀ k, k < 2 → parseFieldDescriptor (TX3 k).2.2.1 = some (tyX3 k) := by decide +kernel
abbrev cX3_init : ByteArray := prog_5_method_1_code
def yX3_init : MethodName := ⟨RX3, "<init>", "()V"⟩
abbrev cX3_size : ByteArray := prog_5_method_2_code
def yX3_size : MethodName := ⟨RX3, "size", "()I"⟩
abbrev cX3_hasRoomFor : ByteArray := prog_5_method_3_code
def yX3_hasRoomFor : MethodName := ⟨RX3, "hasRoomFor", "(I)Z"⟩
abbrev cX3_has : ByteArray := prog_5_method_4_code
def yX3_has : MethodName := ⟨RX3, "has", "(JJ)Z"⟩
abbrev cX3_append : ByteArray := prog_5_method_5_code
def yX3_append : MethodName := ⟨RX3, "append", "(I)V"⟩
abbrev cX3_setByte : ByteArray := prog_5_method_6_code
def yX3_setByte : MethodName := ⟨RX3, "setByte", "(II)V"⟩
abbrev cX3_byteAt : ByteArray := prog_5_method_7_code
def yX3_byteAt : MethodName := ⟨RX3, "byteAt", "(I)I"⟩
abbrev cX3_half : ByteArray := prog_5_method_8_code
def yX3_half : MethodName := ⟨RX3, "half", "(I)I"⟩
abbrev cX3_word : ByteArray := prog_5_method_9_code
def yX3_word : MethodName := ⟨RX3, "word", "(I)J"⟩
abbrev cX3_lacksLastZero : ByteArray := prog_5_method_10_code
def yX3_lacksLastZero : MethodName := ⟨RX3, "lacksLastZero", "()Z"⟩
abbrev cX3_shorten : ByteArray := prog_5_method_11_code
def yX3_shorten : MethodName := ⟨RX3, "shorten", "(I)V"⟩
def RX4 : String := "ImageLoader"
def TX4 : u_T := fun k => match k with
  | 0 => ("ImageLoader", "tape", "LImageLoader$Tape;", true)
  | 1 => ("ImageLoader", "space", "LImageLoader$Space;", true)
  | 2 => ("ImageLoader", "image", "LImageLoader$Image;", true)
  | 3 => ("ImageLoader", "faultPlace", "I", false)
  | 4 => ("ImageLoader", "latestEntry", "I", false)
  | 5 => ("ImageLoader", "latestPages", "I", false)
  | 6 => ("ImageLoader", "latestBase", "I", false)
  | _ => ("ImageLoader", "imagesLoaded", "I", false)
def tyX4 : Nat → FieldType := fun k => match k with
  | 0 => .object "ImageLoader$Tape"
  | 1 => .object "ImageLoader$Space"
  | 2 => .object "ImageLoader$Image"
  | 3 => .int
  | 4 => .int
  | 5 => .int
  | 6 => .int
  | _ => .int
abbrev wsX40 : List Cond := u_ws RX4 TX4 8
theorem nmX4 : ∀ a, a < 8 → ∀ b, b < 8 → a ≠ b → (TX4 a).2.1 ≠ (TX4 b).2.1 := by decide +kernel
theorem tyX4_ok : ∀ k, k < 8 → parseFieldDescriptor (TX4 k).2.2.1 = some (tyX4 k) := by decide +kernel
abbrev cX4_init : ByteArray := prog_1_method_1_code
def yX4_init : MethodName := ⟨RX4, "<init>", "(I)V"⟩
abbrev cX4_add : ByteArray := prog_1_method_2_code
def yX4_add : MethodName := ⟨RX4, "add", "(JI)I"⟩
abbrev cX4_zeros : ByteArray := prog_1_method_3_code
def yX4_zeros : MethodName := ⟨RX4, "zeros", "(I)I"⟩
abbrev cX4_poke : ByteArray := prog_1_method_4_code
def yX4_poke : MethodName := ⟨RX4, "poke", "(III)I"⟩
abbrev cX4_peek : ByteArray := prog_1_method_5_code
def yX4_peek : MethodName := ⟨RX4, "peek", "(I)I"⟩
abbrev cX4_cut : ByteArray := prog_1_method_6_code
def yX4_cut : MethodName := ⟨RX4, "cut", "(I)I"⟩
abbrev cX4_load : ByteArray := prog_1_method_7_code
def yX4_load : MethodName := ⟨RX4, "load", "(I)I"⟩
abbrev cX4_told : ByteArray := prog_1_method_8_code
def yX4_told : MethodName := ⟨RX4, "told", "(I)I"⟩
abbrev cX4_stack : ByteArray := prog_1_method_9_code
def yX4_stack : MethodName := ⟨RX4, "stack", "(I)I"⟩
abbrev cX4_read : ByteArray := prog_1_method_10_code
def yX4_read : MethodName := ⟨RX4, "read", "(II)J"⟩
abbrev cX4_write : ByteArray := prog_1_method_11_code
def yX4_write : MethodName := ⟨RX4, "write", "(III)I"⟩
abbrev cX4_fetch : ByteArray := prog_1_method_12_code
def yX4_fetch : MethodName := ⟨RX4, "fetch", "(I)J"⟩
abbrev cX4_protect : ByteArray := prog_1_method_13_code
def yX4_protect : MethodName := ⟨RX4, "protect", "(II)I"⟩
abbrev cX4_unmap : ByteArray := prog_1_method_14_code
def yX4_unmap : MethodName := ⟨RX4, "unmap", "(II)I"⟩
abbrev cX4_rights : ByteArray := prog_1_method_15_code
def yX4_rights : MethodName := ⟨RX4, "rights", "(I)I"⟩
abbrev cX4_count : ByteArray := prog_1_method_16_code
def yX4_count : MethodName := ⟨RX4, "count", "(I)I"⟩
abbrev cX4_sum : ByteArray := prog_1_method_17_code
def yX4_sum : MethodName := ⟨RX4, "sum", "(II)I"⟩
abbrev cX4_stackPointer : ByteArray := prog_1_method_18_code
def yX4_stackPointer : MethodName := ⟨RX4, "stackPointer", "()I"⟩
abbrev cX4_argumentBytes : ByteArray := prog_1_method_19_code
def yX4_argumentBytes : MethodName := ⟨RX4, "argumentBytes", "()I"⟩
abbrev cX4_argumentCount : ByteArray := prog_1_method_20_code
def yX4_argumentCount : MethodName := ⟨RX4, "argumentCount", "()I"⟩
abbrev cX4_layArguments : ByteArray := prog_1_method_21_code
def yX4_layArguments : MethodName := ⟨RX4, "layArguments", "(I)V"⟩
abbrev cX4_isSize : ByteArray := prog_1_method_22_code
def yX4_isSize : MethodName := ⟨RX4, "isSize", "(I)Z"⟩
abbrev cX4_isPage : ByteArray := prog_1_method_23_code
def yX4_isPage : MethodName := ⟨RX4, "isPage", "(I)Z"⟩
abbrev cX4_arePages : ByteArray := prog_1_method_24_code
def yX4_arePages : MethodName := ⟨RX4, "arePages", "(II)Z"⟩
def RX5 : String := "ImageLoaderModel"
def TX5 : u_T := fun k => match k with
  | 0 => ("ImageLoaderModel", "thrown", "I", false)
  | 1 => ("ImageLoaderModel", "frames", "I", true)
  | 2 => ("ImageLoaderModel", "size", "I", false)
  | 3 => ("ImageLoaderModel", "tape", "[I", true)
  | 4 => ("ImageLoaderModel", "mapped", "[Z", true)
  | 5 => ("ImageLoaderModel", "rights", "[I", true)
  | 6 => ("ImageLoaderModel", "memory", "[I", true)
  | 7 => ("ImageLoaderModel", "segments", "I", false)
  | 8 => ("ImageLoaderModel", "begins", "[J", true)
  | 9 => ("ImageLoaderModel", "held", "[J", true)
  | 10 => ("ImageLoaderModel", "offsets", "[I", true)
  | 11 => ("ImageLoaderModel", "filed", "[I", true)
  | 12 => ("ImageLoaderModel", "may", "[I", true)
  | 13 => ("ImageLoaderModel", "wanted", "[Z", true)
  | 14 => ("ImageLoaderModel", "wants", "I", false)
  | 15 => ("ImageLoaderModel", "base", "I", false)
  | 16 => ("ImageLoaderModel", "dynamic", "I", false)
  | 17 => ("ImageLoaderModel", "known", "[J", true)
  | 18 => ("ImageLoaderModel", "fault", "I", false)
  | 19 => ("ImageLoaderModel", "place", "I", false)
  | 20 => ("ImageLoaderModel", "entry", "I", false)
  | 21 => ("ImageLoaderModel", "pages", "I", false)
  | 22 => ("ImageLoaderModel", "counted", "I", false)
  | _ => ("ImageLoaderModel", "images", "I", false)
def tyX5 : Nat → FieldType := fun k => match k with
  | 0 => .int
  | 1 => .int
  | 2 => .int
  | 3 => .array .int
  | 4 => .array .boolean
  | 5 => .array .int
  | 6 => .array .int
  | 7 => .int
  | 8 => .array .long
  | 9 => .array .long
  | 10 => .array .int
  | 11 => .array .int
  | 12 => .array .int
  | 13 => .array .boolean
  | 14 => .int
  | 15 => .int
  | 16 => .int
  | 17 => .array .long
  | 18 => .int
  | 19 => .int
  | 20 => .int
  | 21 => .int
  | 22 => .int
  | _ => .int
abbrev wsX50 : List Cond := u_ws RX5 TX5 24
theorem nmX5 : ∀ a, a < 24 → ∀ b, b < 24 → a ≠ b → (TX5 a).2.1 ≠ (TX5 b).2.1 := by decide +kernel
theorem tyX5_ok : ∀ k, k < 24 → parseFieldDescriptor (TX5 k).2.2.1 = some (tyX5 k) := by decide +kernel
abbrev cX5_init : ByteArray := prog_7_method_1_code
def yX5_init : MethodName := ⟨RX5, "<init>", "(I)V"⟩
abbrev cX5_in : ByteArray := prog_7_method_3_code
def yX5_in : MethodName := ⟨RX5, "in", "(III)Z"⟩
abbrev cX5_add : ByteArray := prog_7_method_4_code
def yX5_add : MethodName := ⟨RX5, "add", "(JI)I"⟩
abbrev cX5_zeros : ByteArray := prog_7_method_5_code
def yX5_zeros : MethodName := ⟨RX5, "zeros", "(I)I"⟩
abbrev cX5_isWide : ByteArray := prog_7_method_6_code
def yX5_isWide : MethodName := ⟨RX5, "isWide", "(I)Z"⟩
abbrev cX5_poke : ByteArray := prog_7_method_7_code
def yX5_poke : MethodName := ⟨RX5, "poke", "(III)I"⟩
abbrev cX5_peek : ByteArray := prog_7_method_8_code
def yX5_peek : MethodName := ⟨RX5, "peek", "(I)I"⟩
abbrev cX5_cut : ByteArray := prog_7_method_9_code
def yX5_cut : MethodName := ⟨RX5, "cut", "(I)I"⟩
abbrev cX5_half : ByteArray := prog_7_method_10_code
def yX5_half : MethodName := ⟨RX5, "half", "(I)I"⟩
abbrev cX5_word : ByteArray := prog_7_method_11_code
def yX5_word : MethodName := ⟨RX5, "word", "(I)J"⟩
abbrev cX5_fail : ByteArray := prog_7_method_12_code
def yX5_fail : MethodName := ⟨RX5, "fail", "(II)Z"⟩
abbrev cX5_isHeader : ByteArray := prog_7_method_13_code
def yX5_isHeader : MethodName := ⟨RX5, "isHeader", "()Z"⟩
abbrev cX5_mappedPages : ByteArray := prog_7_method_14_code
def yX5_mappedPages : MethodName := ⟨RX5, "mappedPages", "()I"⟩
abbrev cX5_isSegment : ByteArray := prog_7_method_15_code
def yX5_isSegment : MethodName := ⟨RX5, "isSegment", "(I)Z"⟩
abbrev cX5_isDynamic : ByteArray := prog_7_method_16_code
def yX5_isDynamic : MethodName := ⟨RX5, "isDynamic", "(I)Z"⟩
abbrev cX5_areHeads : ByteArray := prog_7_method_17_code
def yX5_areHeads : MethodName := ⟨RX5, "areHeads", "()Z"⟩
abbrev cX5_arePairs : ByteArray := prog_7_method_18_code
def yX5_arePairs : MethodName := ⟨RX5, "arePairs", "()Z"⟩
abbrev cX5_lay : ByteArray := prog_7_method_19_code
def yX5_lay : MethodName := ⟨RX5, "lay", "()V"⟩
abbrev cX5_unlay : ByteArray := prog_7_method_20_code
def yX5_unlay : MethodName := ⟨RX5, "unlay", "()V"⟩
abbrev cX5_areHeld : ByteArray := prog_7_method_21_code
def yX5_areHeld : MethodName := ⟨RX5, "areHeld", "(JI)Z"⟩
abbrev cX5_wordIn : ByteArray := prog_7_method_22_code
def yX5_wordIn : MethodName := ⟨RX5, "wordIn", "(J)J"⟩
abbrev cX5_put : ByteArray := prog_7_method_23_code
def yX5_put : MethodName := ⟨RX5, "put", "(JJ)V"⟩
abbrev cX5_relocate : ByteArray := prog_7_method_24_code
def yX5_relocate : MethodName := ⟨RX5, "relocate", "(I)Z"⟩
abbrev cX5_relocations : ByteArray := prog_7_method_25_code
def yX5_relocations : MethodName := ⟨RX5, "relocations", "()Z"⟩
abbrev cX5_load : ByteArray := prog_7_method_26_code
def yX5_load : MethodName := ⟨RX5, "load", "(I)I"⟩
abbrev cX5_told : ByteArray := prog_7_method_27_code
def yX5_told : MethodName := ⟨RX5, "told", "(I)I"⟩
abbrev cX5_stack : ByteArray := prog_7_method_28_code
def yX5_stack : MethodName := ⟨RX5, "stack", "(I)I"⟩
abbrev cX5_refusal : ByteArray := prog_7_method_29_code
def yX5_refusal : MethodName := ⟨RX5, "refusal", "(III)I"⟩
abbrev cX5_have : ByteArray := prog_7_method_30_code
def yX5_have : MethodName := ⟨RX5, "have", "(III)J"⟩
abbrev cX5_read : ByteArray := prog_7_method_31_code
def yX5_read : MethodName := ⟨RX5, "read", "(II)J"⟩
abbrev cX5_write : ByteArray := prog_7_method_32_code
def yX5_write : MethodName := ⟨RX5, "write", "(III)I"⟩
abbrev cX5_fetch : ByteArray := prog_7_method_33_code
def yX5_fetch : MethodName := ⟨RX5, "fetch", "(I)J"⟩
abbrev cX5_isPage : ByteArray := prog_7_method_34_code
def yX5_isPage : MethodName := ⟨RX5, "isPage", "(I)Z"⟩
abbrev cX5_protect : ByteArray := prog_7_method_35_code
def yX5_protect : MethodName := ⟨RX5, "protect", "(II)I"⟩
abbrev cX5_unmap : ByteArray := prog_7_method_36_code
def yX5_unmap : MethodName := ⟨RX5, "unmap", "(II)I"⟩
abbrev cX5_rights : ByteArray := prog_7_method_37_code
def yX5_rights : MethodName := ⟨RX5, "rights", "(I)I"⟩
abbrev cX5_with : ByteArray := prog_7_method_38_code
def yX5_with : MethodName := ⟨RX5, "with", "(I)I"⟩
abbrev cX5_count : ByteArray := prog_7_method_39_code
def yX5_count : MethodName := ⟨RX5, "count", "(I)I"⟩
abbrev cX5_sum : ByteArray := prog_7_method_40_code
def yX5_sum : MethodName := ⟨RX5, "sum", "(II)I"⟩
def RJ13 : String := "java/lang/Long"
def TJ13 : u_T := fun k => match k with
  | _ => ("", "", "", false)
def tyJ13 : Nat → FieldType := fun k => match k with
  | _ => .int
abbrev wsJ130 : List Cond := u_ws RJ13 TJ13 0
theorem nmJ13 : ∀ a, a < 0 → ∀ b, b < 0 → a ≠ b → (TJ13 a).2.1 ≠ (TJ13 b).2.1 := by decide +kernel
theorem tyJ13_ok : ∀ k, k < 0 → parseFieldDescriptor (TJ13 k).2.2.1 = some (tyJ13 k) := by decide +kernel
abbrev cJ13_bitCount_95d88 : ByteArray := prog_8_method_50_code
def yJ13_bitCount_95d88 : MethodName := ⟨RJ13, "bitCount", "(J)I"⟩
def RJ9 : String := "java/lang/Math"
def TJ9 : u_T := fun k => match k with
  | _ => ("", "", "", false)
def tyJ9 : Nat → FieldType := fun k => match k with
  | _ => .int
abbrev wsJ90 : List Cond := u_ws RJ9 TJ9 0
theorem nmJ9 : ∀ a, a < 0 → ∀ b, b < 0 → a ≠ b → (TJ9 a).2.1 ≠ (TJ9 b).2.1 := by decide +kernel
theorem tyJ9_ok : ∀ k, k < 0 → parseFieldDescriptor (TJ9 k).2.2.1 = some (tyJ9 k) := by decide +kernel
abbrev cJ9_floorDiv_7cf53 : ByteArray := prog_9_method_47_code
def yJ9_floorDiv_7cf53 : MethodName := ⟨RJ9, "floorDiv", "(II)I"⟩
abbrev cJ9_floorMod_7cf53 : ByteArray := prog_9_method_50_code
def yJ9_floorMod_7cf53 : MethodName := ⟨RJ9, "floorMod", "(II)I"⟩
abbrev cJ9_max_7cf53 : ByteArray := prog_9_method_65_code
def yJ9_max_7cf53 : MethodName := ⟨RJ9, "max", "(II)I"⟩
abbrev cJ9_min_7cf53 : ByteArray := prog_9_method_69_code
def yJ9_min_7cf53 : MethodName := ⟨RJ9, "min", "(II)I"⟩
abbrev cJ9_min_f86c9 : ByteArray := prog_9_method_70_code
def yJ9_min_f86c9 : MethodName := ⟨RJ9, "min", "(JJ)J"⟩
def RL : String := "ImageLoaderLaw"
abbrev cL_cell : ByteArray := method_2_code
def yL_cell : MethodName := ⟨RL, "cell", "([II)I"⟩
abbrev cL_law : ByteArray := code
def yL_law : MethodName := ⟨RL, "law", "([I)Z"⟩
abbrev vwCl : List vw_C := [(RX0, TX0, 13), (RX1, TX1, 7), (RX2, TX2, 4), (RX3, TX3, 2), (RX4, TX4, 8), (RX5, TX5, 24)]
end
section
/-! pictures: a method is run over a list of cells; a reference in it is a place in that list (from 1000000 on: a static table) -/
abbrev vm_S : Type := List (Option Value) × List Value × List va_E
def vm_g {α : Type} : List α → Nat → Option α
  | [], _ => none
  | a :: _, 0 => some a
  | _ :: t, n + 1 => vm_g t n
theorem vm_g_eq {α : Type} : ∀ (l : List α) (n : Nat), vm_g l n = l[n]?
  | [], n => by simp [vm_g]
  | a :: t, 0 => by simp [vm_g]
  | a :: t, n + 1 => by simp [vm_g, vm_g_eq t n]
def vm_u {α : Type} : List α → Nat → α → List α
  | [], _, _ => []
  | _ :: t, 0, v => v :: t
  | a :: t, n + 1, v => a :: vm_u t n v
theorem vm_u_eq {α : Type} : ∀ (l : List α) (n : Nat) (v : α), vm_u l n v = l.set n v
  | [], n, v => by simp [vm_u]
  | a :: t, 0, v => by simp [vm_u]
  | a :: t, n + 1, v => by simp [vm_u, vm_u_eq t n v]
/-- a local that a store just behind it takes away -/
def vm_k : Option Value → Option Value
  | some (.long _) => none
  | some (.double _) => none
  | x => x
def vm_s1 : List (Option Value) → Nat → Value → List (Option Value)
  | [], _, _ => []
  | _ :: t, 0, v => some v :: t
  | a :: t, 1, v => vm_k a :: vm_s1 t 0 v
  | a :: t, n + 2, v => a :: vm_s1 t (n + 1) v
def vm_s2 (l : List (Option Value)) (i : Nat) (v : Value) : List (Option Value) := vm_s1 (vm_u l (i + 1) none) i v
theorem vm_s1_len : ∀ (l : List (Option Value)) (i : Nat) (v : Value), (vm_s1 l i v).length = l.length
  | [], _, _ => rfl
  | _ :: t, 0, v => rfl
  | a :: t, 1, v => by simp [vm_s1, vm_s1_len t 0 v]
  | a :: t, n + 2, v => by simp [vm_s1, vm_s1_len t (n + 1) v]
theorem vm_s2_len (l : List (Option Value)) (i : Nat) (v : Value) : (vm_s2 l i v).length = l.length := by
  rw [vm_s2, vm_s1_len, vm_u_eq, List.length_set]
theorem vm_k_some {a : Option Value} {w : Value} (h : vm_k a = some w) : a = some w ∧ ¬ w.category = 2 := by
  match a, h with
  | some (.int x), h => cases h; exact ⟨rfl, by simp [Value.category]⟩
  | some (.float x), h => cases h; exact ⟨rfl, by simp [Value.category]⟩
  | some .null, h => cases h; exact ⟨rfl, by simp [Value.category]⟩
  | some (.ref x), h => cases h; exact ⟨rfl, by simp [Value.category]⟩
  | some (.retAddr x), h => cases h; exact ⟨rfl, by simp [Value.category]⟩
  | some (.long x), h => cases h
  | some (.double x), h => cases h
  | none, h => cases h
theorem vm_s1_get : ∀ (l : List (Option Value)) (i : Nat) (v : Value) (j : Nat) (w : Value), (vm_s1 l i v)[j]? = some (some w) →
    (j = i ∧ w = v) ∨ (¬ j = i ∧ l[j]? = some (some w) ∧ ¬ (j + 1 = i ∧ w.category = 2))
  | [], i, v, j, w, h => by simp [vm_s1] at h
  | a :: t, 0, v, 0, w, h => by
    simp [vm_s1] at h
    exact Or.inl ⟨rfl, h.symm⟩
  | a :: t, 0, v, j + 1, w, h => by
    simp [vm_s1] at h
    exact Or.inr ⟨by omega, by simpa using h, by omega⟩
  | a :: t, 1, v, 0, w, h => by
    simp [vm_s1] at h
    obtain ⟨h1, h2⟩ := vm_k_some h
    exact Or.inr ⟨by omega, by simpa using h1, fun q => h2 q.2⟩
  | a :: t, 1, v, j + 1, w, h => by
    simp only [vm_s1, List.getElem?_cons_succ] at h
    rcases vm_s1_get t 0 v j w h with ⟨h1, h2⟩ | ⟨h1, h2, h3⟩
    · exact Or.inl ⟨by omega, h2⟩
    · exact Or.inr ⟨by omega, by simpa using h2, by omega⟩
  | a :: t, n + 2, v, 0, w, h => by
    simp [vm_s1] at h
    exact Or.inr ⟨by omega, by simpa using h, by omega⟩
  | a :: t, n + 2, v, j + 1, w, h => by
    simp only [vm_s1, List.getElem?_cons_succ] at h
    rcases vm_s1_get t (n + 1) v j w h with ⟨h1, h2⟩ | ⟨h1, h2, h3⟩
    · exact Or.inl ⟨by omega, h2⟩
    · exact Or.inr ⟨by omega, by simpa using h2, fun q => h3 ⟨by omega, q.2⟩⟩
theorem vm_s2_get (l : List (Option Value)) (i : Nat) (v : Value) (j : Nat) (w : Value) (h : (vm_s2 l i v)[j]? = some (some w)) :
    (j = i ∧ w = v) ∨ (¬ j = i ∧ ¬ j = i + 1 ∧ l[j]? = some (some w) ∧ ¬ (j + 1 = i ∧ w.category = 2)) := by
  rcases vm_s1_get _ _ _ _ _ h with h1 | ⟨h1, h2, h3⟩
  · exact Or.inl h1
  · rw [vm_u_eq] at h2
    by_cases hj : j = i + 1
    · subst hj
      rw [List.getElem?_set] at h2
      simp at h2
    · rw [List.getElem?_set_ne (Ne.symm hj)] at h2
      exact Or.inr ⟨h1, hj, h2, h3⟩
/-- from places to addresses -/
def vm_v (ad : Nat → Nat) : Value → Value
  | .ref i => .ref (ad i)
  | v => v
theorem vm_v_cat (ad : Nat → Nat) (v : Value) : (vm_v ad v).category = v.category := by cases v <;> rfl
def vm_e (ad tc : Nat → Nat) : va_E → va_E
  | .inl (t, n, .inl f) => .inl (tc t, n, .inl f)
  | .inl (t, n, .inr (.inl f)) => .inl (tc t, n, .inr (.inl f))
  | .inl (t, n, .inr (.inr (.inl f))) => .inl (tc t, n, .inr (.inr (.inl f)))
  | .inl (t, n, .inr (.inr (.inr (.inl f)))) => .inl (tc t, n, .inr (.inr (.inr (.inl f))))
  | .inl (t, n, .inr (.inr (.inr (.inr f)))) => .inl (tc t, n, .inr (.inr (.inr (.inr (fun j => (f j).map ad)))))
  | .inr (k, fs) => .inr (k, fs.map (vm_v ad))
def vm_w (ad tc : Nat → Nat) : Nat → List va_E → va_W
  | _, [] => []
  | i, e :: cs => (ad i, vm_e ad tc e) :: vm_w ad tc (i + 1) cs
theorem vm_w_get (ad tc : Nat → Nat) : ∀ (cs : List va_E) (i k : Nat), (vm_w ad tc i cs)[k]? = (cs[k]?).map (fun e => (ad (i + k), vm_e ad tc e))
  | [], i, k => by simp [vm_w]
  | e :: cs, i, 0 => by simp [vm_w]
  | e :: cs, i, k + 1 => by
    simp only [vm_w, List.getElem?_cons_succ]
    rw [vm_w_get ad tc cs (i + 1) k, show i + 1 + k = i + (k + 1) by omega]
theorem vm_w_at {ad tc : Nat → Nat} {cs : List va_E} {k : Nat} {e : va_E} (h : vm_g cs k = some e) : (vm_w ad tc 0 cs)[k]? = some (ad k, vm_e ad tc e) := by
  rw [vm_w_get, ← vm_g_eq, h]
  simp
theorem vm_w_set (ad tc : Nat → Nat) (e : va_E) : ∀ (cs : List va_E) (i k : Nat), (vm_w ad tc i cs).set k (ad (i + k), vm_e ad tc e) = vm_w ad tc i (vm_u cs k e)
  | [], i, k => by simp [vm_w, vm_u]
  | a :: cs, i, 0 => by simp [vm_w, vm_u]
  | a :: cs, i, k + 1 => by
    simp only [vm_w, vm_u, List.set_cons_succ]
    rw [← vm_w_set ad tc e cs (i + 1) k, show i + 1 + k = i + (k + 1) by omega]
theorem vm_w_set0 (ad tc : Nat → Nat) (e : va_E) (cs : List va_E) (k : Nat) : (vm_w ad tc 0 cs).set k (ad k, vm_e ad tc e) = vm_w ad tc 0 (vm_u cs k e) := by
  have h := vm_w_set ad tc e cs 0 k
  rwa [Nat.zero_add] at h
theorem vm_w_len (ad tc : Nat → Nat) : ∀ (cs : List va_E) (i : Nat), (vm_w ad tc i cs).length = cs.length
  | [], i => rfl
  | a :: cs, i => by simp [vm_w, vm_w_len ad tc cs (i + 1)]
/-- the locals -/
def vm_as (ad : Nat → Nat) : Nat → List (Option Value) → List (Nat × Value)
  | _, [] => []
  | i, none :: t => vm_as ad (i + 1) t
  | i, some v :: t => (i, vm_v ad v) :: vm_as ad (i + 1) t
theorem vm_as_mem (ad : Nat → Nat) : ∀ (l : List (Option Value)) (i : Nat) (q : Nat × Value), q ∈ vm_as ad i l ↔ ∃ (k : Nat) (v : Value), q.1 = i + k ∧ l[k]? = some (some v) ∧ q.2 = vm_v ad v
  | [], i, q => by simp [vm_as]
  | none :: t, i, q => by
    rw [vm_as, vm_as_mem ad t (i + 1) q]
    constructor
    · rintro ⟨k, v, h1, h2, h3⟩
      exact ⟨k + 1, v, by omega, by simpa using h2, h3⟩
    · rintro ⟨k, v, h1, h2, h3⟩
      cases k with
      | zero => simp at h2
      | succ k => exact ⟨k, v, by omega, by simpa using h2, h3⟩
  | some w :: t, i, q => by
    rw [vm_as, List.mem_cons, vm_as_mem ad t (i + 1) q]
    constructor
    · rintro (h | ⟨k, v, h1, h2, h3⟩)
      · exact ⟨0, w, by rw [h]; rfl, by simp, by rw [h]⟩
      · exact ⟨k + 1, v, by omega, by simpa using h2, h3⟩
    · rintro ⟨k, v, h1, h2, h3⟩
      cases k with
      | zero =>
        simp at h2
        subst h2
        exact Or.inl (Prod.ext (by simpa using h1) h3)
      | succ k => exact Or.inr ⟨k, v, by omega, by simpa using h2, h3⟩
def vm_l (ad : Nat → Nat) (ls : Array Slot) (lv : List (Option Value)) : Prop := lv_has ls lv.length (vm_as ad 0 lv)
theorem vm_l_at {ad : Nat → Nat} {ls : Array Slot} {lv : List (Option Value)} {i : Nat} {v : Value} (h : vm_l ad ls lv) (hv : vm_g lv i = some (some v)) : ls[i]? = some (.val (vm_v ad v)) :=
  h.2.2 (i, vm_v ad v) ((vm_as_mem ad lv 0 _).mpr ⟨i, v, by simp, by rw [← vm_g_eq]; exact hv, rfl⟩)
theorem vm_l_s1 {ad : Nat → Nat} {ls' : Array Slot} {lv : List (Option Value)} {i : Nat} {v : Value} (h : lv_has ls' lv.length ((i, vm_v ad v) :: (vm_as ad 0 lv).filter (fun q => !(q.1 == i) && !(q.1 + 1 == i && q.2.category == 2)))) : vm_l ad ls' (vm_s1 lv i v) := by
  refine ⟨by rw [vm_s1_len]; exact h.1, h.2.1, fun q hq => h.2.2 q ?_⟩
  obtain ⟨k, w, h1, h2, h3⟩ := (vm_as_mem ad _ 0 q).mp hq
  rw [Nat.zero_add] at h1
  rcases vm_s1_get _ _ _ _ _ h2 with ⟨e1, e2⟩ | ⟨e1, e2, e3⟩
  · exact List.mem_cons.mpr (Or.inl (Prod.ext (by rw [h1, e1]) (by rw [h3, e2])))
  · refine List.mem_cons.mpr (Or.inr (List.mem_filter.mpr ⟨(vm_as_mem ad lv 0 q).mpr ⟨k, w, by omega, e2, h3⟩, ?_⟩))
    rw [h1, h3, vm_v_cat]
    by_cases hk : k + 1 = i
    · have : ¬ w.category = 2 := fun z => e3 ⟨hk, z⟩
      simp [e1, this]
    · simp [e1, hk]
theorem vm_l_s2 {ad : Nat → Nat} {ls' : Array Slot} {lv : List (Option Value)} {i : Nat} {v : Value} (h : lv_has ls' lv.length ((i, vm_v ad v) :: (vm_as ad 0 lv).filter (fun q => !(q.1 == i) && (!(q.1 == i + 1) && !(q.1 + 1 == i && q.2.category == 2))))) : vm_l ad ls' (vm_s2 lv i v) := by
  refine ⟨by rw [vm_s2_len]; exact h.1, h.2.1, fun q hq => h.2.2 q ?_⟩
  obtain ⟨k, w, h1, h2, h3⟩ := (vm_as_mem ad _ 0 q).mp hq
  rw [Nat.zero_add] at h1
  rcases vm_s2_get _ _ _ _ _ h2 with ⟨e1, e2⟩ | ⟨e1, e0, e2, e3⟩
  · exact List.mem_cons.mpr (Or.inl (Prod.ext (by rw [h1, e1]) (by rw [h3, e2])))
  · refine List.mem_cons.mpr (Or.inr (List.mem_filter.mpr ⟨(vm_as_mem ad lv 0 q).mpr ⟨k, w, by omega, e2, h3⟩, ?_⟩))
    rw [h1, h3, vm_v_cat]
    by_cases hk : k + 1 = i
    · have : ¬ w.category = 2 := fun z => e3 ⟨hk, z⟩
      simp [e1, e0, this]
    · simp [e1, e0, hk]
end
section
/-! what one instruction does to a picture -/
abbrev vm_I : Type := Instr ⊕ (Value × Nat) ⊕ (Nat × Nat × Nat × Nat × Nat) ⊕ (Nat × Int32)
abbrev vm_R : Type := Option (Prop × vm_S)
def G_ty : List FieldType := [.byte, .int, .long, .boolean, .object "ImageLoader$Segment"]
def G_mag : Nat → Int32
  | 0 => 127
  | 1 => 69
  | 2 => 76
  | 3 => 70
  | _ => 1
def vm_li (n : Nat) (S : vm_S) : vm_R := match vm_g S.1 n with
  | some (some (.int x)) => some (True, S.1, .int x :: S.2.1, S.2.2)
  | _ => none
def vm_ll (n : Nat) (S : vm_S) : vm_R := match vm_g S.1 n with
  | some (some (.long x)) => some (True, S.1, .long x :: S.2.1, S.2.2)
  | _ => none
def vm_la (n : Nat) (S : vm_S) : vm_R := match vm_g S.1 n with
  | some (some (.ref x)) => some (True, S.1, .ref x :: S.2.1, S.2.2)
  | _ => none
def vm_si (n : Nat) (S : vm_S) : vm_R := match S.2.1 with
  | .int x :: st => bif Nat.blt n S.1.length then some (True, vm_s1 S.1 n (.int x), st, S.2.2) else none
  | _ => none
def vm_sa (n : Nat) (S : vm_S) : vm_R := match S.2.1 with
  | .ref x :: st => bif Nat.blt n S.1.length then some (True, vm_s1 S.1 n (.ref x), st, S.2.2) else none
  | _ => none
def vm_sl (n : Nat) (S : vm_S) : vm_R := match S.2.1 with
  | .long x :: st => bif Nat.blt (n + 1) S.1.length then some (True, vm_s2 S.1 n (.long x), st, S.2.2) else none
  | _ => none
def vm_inc (n : Nat) (k : Int32) (S : vm_S) : vm_R := match vm_g S.1 n with
  | some (some (.int x)) => bif Nat.blt n S.1.length then some (True, vm_s1 S.1 n (.int (x + k)), S.2.1, S.2.2) else none
  | _ => none
def vm_ii (f : Int32 → Int32 → Int32) (S : vm_S) : vm_R := match S.2.1 with
  | .int y :: .int x :: st => some (True, S.1, .int (f x y) :: st, S.2.2)
  | _ => none
def vm_iq (f : Int32 → Int32 → Int32) (S : vm_S) : vm_R := match S.2.1 with
  | .int y :: .int x :: st => some (¬ y = 0, S.1, .int (f x y) :: st, S.2.2)
  | _ => none
def vm_jj (f : Int64 → Int64 → Int64) (S : vm_S) : vm_R := match S.2.1 with
  | .long y :: .long x :: st => some (True, S.1, .long (f x y) :: st, S.2.2)
  | _ => none
def vm_jq (f : Int64 → Int64 → Int64) (S : vm_S) : vm_R := match S.2.1 with
  | .long y :: .long x :: st => some (¬ y = 0, S.1, .long (f x y) :: st, S.2.2)
  | _ => none
def vm_ji (f : Int64 → Int32 → Int64) (S : vm_S) : vm_R := match S.2.1 with
  | .int y :: .long x :: st => some (True, S.1, .long (f x y) :: st, S.2.2)
  | _ => none
def vm_1i (f : Int32 → Value) (S : vm_S) : vm_R := match S.2.1 with
  | .int x :: st => some (True, S.1, f x :: st, S.2.2)
  | _ => none
def vm_1j (f : Int64 → Value) (S : vm_S) : vm_R := match S.2.1 with
  | .long x :: st => some (True, S.1, f x :: st, S.2.2)
  | _ => none
def vm_lcmp (S : vm_S) : vm_R := match S.2.1 with
  | .long y :: .long x :: st => some (True, S.1, .int (lg_cmp x y) :: st, S.2.2)
  | _ => none
def vm_dup (S : vm_S) : vm_R := match S.2.1 with
  | .int x :: st => some (True, S.1, .int x :: .int x :: st, S.2.2)
  | .ref x :: st => some (True, S.1, .ref x :: .ref x :: st, S.2.2)
  | _ => none
def vm_pop (S : vm_S) : vm_R := match S.2.1 with
  | .int x :: st => some (True, S.1, st, S.2.2)
  | .ref x :: st => some (True, S.1, st, S.2.2)
  | _ => none
/-- an array of ints at a place, of a kind -/
def vm_ai (cs : List va_E) (a : Nat) : Option (Nat × Nat × (Nat → Int32) × FieldType) := match vm_g cs a with
  | some (.inl (t, n, .inl f)) => match vm_g G_ty t with
    | some ty => some (t, n, f, ty)
    | none => none
  | _ => none
def vm_aj (cs : List va_E) (a : Nat) : Option (Nat × Nat × (Nat → Int64) × FieldType) := match vm_g cs a with
  | some (.inl (t, n, .inr (.inl f))) => match vm_g G_ty t with
    | some ty => some (t, n, f, ty)
    | none => none
  | _ => none
def vm_bald (S : vm_S) : vm_R := match S.2.1 with
  | .int i :: .ref a :: st => match vm_ai S.2.2 a with
    | some (_, n, f, .byte) => some (vp_in i n, S.1, .int (f i.toNatClampNeg) :: st, S.2.2)
    | some (_, n, f, .boolean) => some (vp_in i n, S.1, .int (f i.toNatClampNeg) :: st, S.2.2)
    | _ => none
  | _ => none
def vm_iald (S : vm_S) : vm_R := match S.2.1 with
  | .int i :: .ref a :: st => bif Nat.beq a 1000000 then some (vp_in i 7, S.1, .int (G_mag i.toNatClampNeg) :: st, S.2.2) else match vm_ai S.2.2 a with
    | some (_, n, f, .int) => some (vp_in i n, S.1, .int (f i.toNatClampNeg) :: st, S.2.2)
    | _ => none
  | _ => none
def vm_lald (S : vm_S) : vm_R := match S.2.1 with
  | .int i :: .ref a :: st => match vm_aj S.2.2 a with
    | some (_, n, f, .long) => some (vp_in i n, S.1, .long (f i.toNatClampNeg) :: st, S.2.2)
    | _ => none
  | _ => none
def vm_bast (S : vm_S) : vm_R := match S.2.1 with
  | .int x :: .int i :: .ref a :: st => match vm_ai S.2.2 a with
    | some (t, n, f, .byte) => some (vp_in i n, S.1, st, vm_u S.2.2 a (.inl (t, n, .inl (upd f i.toNatClampNeg (vp_nar .byte x)))))
    | some (t, n, f, .boolean) => some (vp_in i n, S.1, st, vm_u S.2.2 a (.inl (t, n, .inl (upd f i.toNatClampNeg (vp_nar .boolean x)))))
    | _ => none
  | _ => none
def vm_iast (S : vm_S) : vm_R := match S.2.1 with
  | .int x :: .int i :: .ref a :: st => match vm_ai S.2.2 a with
    | some (t, n, f, .int) => some (vp_in i n, S.1, st, vm_u S.2.2 a (.inl (t, n, .inl (upd f i.toNatClampNeg x))))
    | _ => none
  | _ => none
def vm_last (S : vm_S) : vm_R := match S.2.1 with
  | .long x :: .int i :: .ref a :: st => match vm_aj S.2.2 a with
    | some (t, n, f, .long) => some (vp_in i n, S.1, st, vm_u S.2.2 a (.inl (t, n, .inr (.inl (vp_updL f i.toNatClampNeg x)))))
    | _ => none
  | _ => none
def vm_alen (S : vm_S) : vm_R := match S.2.1 with
  | .ref a :: st => bif Nat.beq a 1000000 then some (True, S.1, .int 7 :: st, S.2.2) else match vm_g S.2.2 a with
    | some (.inl (t, x)) => match vm_g G_ty t with
      | some _ => some (True, S.1, .int (nI x.1) :: st, S.2.2)
      | none => none
    | _ => none
  | _ => none
def vm_p (i : Instr) (S : vm_S) : vm_R := match i with
  | .iload_n n => vm_li n.val S
  | .iload n => vm_li n S
  | .lload_n n => vm_ll n.val S
  | .lload n => vm_ll n S
  | .aload_n n => vm_la n.val S
  | .aload n => vm_la n S
  | .istore_n n => vm_si n.val S
  | .istore n => vm_si n S
  | .lstore_n n => vm_sl n.val S
  | .lstore n => vm_sl n S
  | .astore_n n => vm_sa n.val S
  | .astore n => vm_sa n S
  | .iadd => vm_ii (fun x y => x + y) S
  | .isub => vm_ii (fun x y => x - y) S
  | .imul => vm_ii (fun x y => x * y) S
  | .iand => vm_ii (fun x y => x &&& y) S
  | .ior => vm_ii (fun x y => x ||| y) S
  | .ixor => vm_ii (fun x y => x ^^^ y) S
  | .ishl => vm_ii (fun x y => x <<< (y &&& 31)) S
  | .ishr => vm_ii (fun x y => x >>> (y &&& 31)) S
  | .iushr => vm_ii (fun x y => (x.toUInt32 >>> (y.toUInt32 &&& Int32.toUInt32 31)).toInt32) S
  | .idiv => vm_iq (fun x y => x / y) S
  | .irem => vm_iq (fun x y => x - x / y * y) S
  | .ineg => vm_1i (fun x => .int (-x)) S
  | .i2l => vm_1i (fun x => .long x.toInt64) S
  | .i2b => vm_1i (fun x => .int x.toInt8.toInt32) S
  | .l2i => vm_1j (fun x => .int x.toInt32) S
  | .ladd => vm_jj (fun x y => x + y) S
  | .lsub => vm_jj (fun x y => x - y) S
  | .lmul => vm_jj (fun x y => x * y) S
  | .land => vm_jj (fun x y => x &&& y) S
  | .lor => vm_jj (fun x y => x ||| y) S
  | .ldiv => vm_jq (fun x y => x / y) S
  | .lrem => vm_jq (fun x y => x - x / y * y) S
  | .lshl => vm_ji (fun x y => x <<< (y.toInt64 &&& 63)) S
  | .lshr => vm_ji (fun x y => x >>> (y.toInt64 &&& 63)) S
  | .lushr => vm_ji (fun x y => (x.toUInt64 >>> (y.toInt64.toUInt64 &&& Int64.toUInt64 63)).toInt64) S
  | .lcmp => vm_lcmp S
  | .dup => vm_dup S
  | .pop => vm_pop S
  | .baload => vm_bald S
  | .iaload => vm_iald S
  | .laload => vm_lald S
  | .bastore => vm_bast S
  | .iastore => vm_iast S
  | .lastore => vm_last S
  | .arraylength => vm_alen S
  | _ => none
def vm_len (i : Instr) : Nat := match i with
  | .iload _ => 2
  | .lload _ => 2
  | .aload _ => 2
  | .istore _ => 2
  | .lstore _ => 2
  | .astore _ => 2
  | _ => 1
def vm_gf (ci k : Nat) (S : vm_S) : vm_R := match S.2.1 with
  | .ref a :: st => match vm_g S.2.2 a with
    | some (.inr (c, fs)) => match Nat.beq c ci, vm_g fs k with
      | true, some v => some (True, S.1, v :: st, S.2.2)
      | _, _ => none
    | _ => none
  | _ => none
/-- a value that a field of that kind takes as it is -/
def vm_fit (ty : FieldType) (v : Value) : Bool := match ty, v with
  | .int, .int _ => true
  | .long, .long _ => true
  | .object _, .ref _ => true
  | .array _, .ref _ => true
  | _, _ => false
def G_ft (ci k : Nat) : FieldType := match ci with
  | 0 => tyX0 k
  | 1 => tyX1 k
  | 2 => tyX2 k
  | 3 => tyX3 k
  | 4 => tyX4 k
  | _ => tyX5 k
def vm_pf (ci k : Nat) (S : vm_S) : vm_R := match S.2.1 with
  | v :: .ref a :: st => match vm_g S.2.2 a with
    | some (.inr (c, fs)) => match Nat.beq c ci, Nat.blt k fs.length, vm_fit (G_ft ci k) v with
      | true, true, true => some (True, S.1, st, vm_u S.2.2 a (.inr (ci, vm_u fs k v)))
      | _, _, _ => none
    | _ => none
  | _ => none
def vm_x1 (i : vm_I) (S : vm_S) : vm_R := match i with
  | .inl j => vm_p j S
  | .inr (.inl (v, _)) => some (True, S.1, v :: S.2.1, S.2.2)
  | .inr (.inr (.inl (0, _, _, ci, k))) => vm_gf ci k S
  | .inr (.inr (.inl (1, _, _, ci, k))) => vm_pf ci k S
  | .inr (.inr (.inl (2, _, _, ci, k))) => vm_gf ci k S
  | .inr (.inr (.inl (3, _, _, ci, k))) => vm_pf ci k S
  | .inr (.inr (.inl (4, _, _, _, _))) => some (True, S.1, .ref 1000000 :: S.2.1, S.2.2)
  | .inr (.inr (.inl _)) => none
  | .inr (.inr (.inr (n, k))) => vm_inc n k S
end
section
/-! the words, the surroundings of a run, and one instruction over the machine -/
abbrev vm_M : Type := String × MethodName × ByteArray × Nat × Option FieldType × Nat × Nat
def G_big : List Jvm.Cond := lw_tbl.filter goodWord
def vm_at (pl : Nat) (w : Jvm.Cond) : Bool := decide (vm_g lw_tbl pl = some w) && goodWord w
theorem vm_at_in {pl : Nat} {w : Jvm.Cond} (h : vm_at pl w = true) : w ∈ G_big := by
  simp only [vm_at, Bool.and_eq_true, decide_eq_true_eq] at h
  rw [vm_g_eq] at h
  exact List.mem_filter.mpr ⟨List.mem_of_getElem? h.1, h.2⟩
def G_nest : List Jvm.Cond := [.methodLinkNest "ImageLoader$Image" 17 ⟨"ImageLoader$Segment", "<init>", "()V"⟩ "ImageLoader", .fieldLinkNest "ImageLoader$Image" 139 "ImageLoader$Segment" "offset" "J" "ImageLoader", .fieldLinkNest "ImageLoader$Image" 136 "ImageLoader$Segment" "filed" "J" "ImageLoader", .fieldLinkNest "ImageLoader$Image" 133 "ImageLoader$Segment" "held" "J" "ImageLoader", .fieldLinkNest "ImageLoader$Image" 183 "ImageLoader$Segment" "flags" "I" "ImageLoader", .methodLinkNest "ImageLoader$Space" 26 ⟨"ImageLoader", "isPage", "(I)Z"⟩ "ImageLoader", .methodLinkNest "ImageLoader$Space" 45 ⟨"ImageLoader", "isSize", "(I)Z"⟩ "ImageLoader"]
def vm_tys (tc : Nat → Nat) : List (ClassId × FieldType) := [(tc 0, .byte), (tc 1, .int), (tc 2, .long), (tc 3, .boolean), (tc 4, .object "ImageLoader$Segment")]
theorem vm_tys_at {tc : Nat → Nat} {t : Nat} {ty : FieldType} (h : vm_g G_ty t = some ty) : (vm_tys tc)[t]? = some (tc t, ty) := by
  match t, h with
  | 0, h => cases h; rfl
  | 1, h => cases h; rfl
  | 2, h => cases h; rfl
  | 3, h => cases h; rfl
  | 4, h => cases h; rfl
  | t + 5, h => simp [G_ty, vm_g] at h
def vm_T (ad : Nat → Nat) (A : Nat → Prop) (U : State) (H : Heap) : Prop := va_Z "ImageLoader$Image" "MAGIC" "[I" (.ref (ad 1000000)) A U H ∧ va_T .int (ad 1000000) 7 (fun j => .int (G_mag j)) A U H ∧ va_AO "ImageLoader$Segment" U
def vm_C (M : vm_M) (p : Program) (R : Room) (s : State) (m : MethodId) (args : Array Value) (meth : Method) (c : Code) (D : va_G) (ad tc : Nat → Nat) (A : Nat → Prop) : Prop :=
  p.tables.exec = Jvm.exec ∧ c.code = M.2.2.1 ∧ c.maxLocals = M.2.2.2.1 ∧ s.vm.findClass M.1 = some m.cls ∧ (∀ w ∈ G_big, w.before args s = true) ∧ va_K D vwCl (vm_tys tc) s ∧ (∀ q, s.heap.size ≤ q → A q) ∧
  (∀ w ∈ G_nest, va_Nw w s) ∧ meth.locks = false ∧ meth.name = M.2.1.name ∧ (M.2.2.2.2.2.1 ≤ R.frames ∧ M.2.2.2.2.2.2 ≤ R.locals) ∧ vm_T ad A s s.heap
def vm_W (p : Program) (l : Launch) (e : Env) (R : Room) (s : State) (m : MethodId) (args : Array Value) (below : List Frame) (meth : Method) (c : Code) (cells slots : Nat) (Q : State → Prop) (D : va_G) (ad tc : Nat → Nat) (A : Nat → Prop) (pc : Nat) (S : vm_S) : Prop :=
  ∀ (H : Heap) (locs : List Loc) (ls : Array Slot), vm_l ad ls S.1 → va_P D vwCl (vm_w ad tc 0 S.2.2) H → va_D A (vm_w ad tc 0 S.2.2) → va_S A s.heap H locs → W p l e R s m args below meth c H locs cells slots Q (F0 m pc ls (S.2.1.map (vm_v ad)))
set_option maxRecDepth 100000 in
theorem G_in0 : ∀ w ∈ u_ws RX0 TX0 13, w ∈ G_big := by decide +kernel
set_option maxRecDepth 100000 in
theorem G_in1 : ∀ w ∈ u_ws RX1 TX1 7, w ∈ G_big := by decide +kernel
set_option maxRecDepth 100000 in
theorem G_in2 : ∀ w ∈ u_ws RX2 TX2 4, w ∈ G_big := by decide +kernel
set_option maxRecDepth 100000 in
theorem G_in3 : ∀ w ∈ u_ws RX3 TX3 2, w ∈ G_big := by decide +kernel
set_option maxRecDepth 100000 in
theorem G_in4 : ∀ w ∈ u_ws RX4 TX4 8, w ∈ G_big := by decide +kernel
set_option maxRecDepth 100000 in
theorem G_in5 : ∀ w ∈ u_ws RX5 TX5 24, w ∈ G_big := by decide +kernel
theorem G_cl {ci : Nat} {C : String} {T : u_T} {N : Nat} (h : vm_g vwCl ci = some (C, T, N)) : vwCl[ci]? = some (C, T, N) ∧ (∀ w ∈ u_ws C T N, w ∈ G_big) ∧ (∀ k, k < N → parseFieldDescriptor (T k).2.2.1 = some (G_ft ci k)) ∧ (∀ a, a < N → ∀ b, b < N → a ≠ b → (T a).2.1 ≠ (T b).2.1) := by
  refine ⟨by rw [← vm_g_eq]; exact h, ?_⟩
  match ci, h with
  | 0, h => cases h; exact ⟨G_in0, tyX0_ok, nmX0⟩
  | 1, h => cases h; exact ⟨G_in1, tyX1_ok, nmX1⟩
  | 2, h => cases h; exact ⟨G_in2, tyX2_ok, nmX2⟩
  | 3, h => cases h; exact ⟨G_in3, tyX3_ok, nmX3⟩
  | 4, h => cases h; exact ⟨G_in4, tyX4_ok, nmX4⟩
  | 5, h => cases h; exact ⟨G_in5, tyX5_ok, nmX5⟩
  | n + 6, h => simp [vwCl, vm_g] at h
def vm_okc (M : vm_M) (raw : Instr) (len : Nat) (v : Value) (pl : Nat) : Bool := match raw, v with
  | .iconst n, .int x => decide (Int32.ofInt n = x) && Nat.beq len 1
  | .bipush n, .int x => decide ((Int8.ofInt n).toInt32 = x) && Nat.beq len 2
  | .sipush n, .int x => decide ((Int16.ofInt n).toInt32 = x) && Nat.beq len 3
  | .lconst n, .long x => decide (Int64.ofNat (n : Nat) = x) && Nat.beq len 1
  | .ldc2_w idx, .long x => vm_at pl (.constantLong M.1 idx x) && Nat.beq len 3
  | _, _ => false
def vm_okf (M : vm_M) (raw : Instr) (len op pl idx ci k : Nat) : Bool := match vm_g vwCl ci with
  | some (_, T, N) => Nat.beq len 3 && (Nat.blt k N && (match op with
    | 0 => decide (raw = .getfield idx) && vm_at pl (.fieldLink M.1 idx (T k).1 (T k).2.1 (T k).2.2.1)
    | 1 => decide (raw = .putfield idx) && (vm_at pl (.fieldLink M.1 idx (T k).1 (T k).2.1 (T k).2.2.1) && !(T k).2.2.2)
    | 2 => decide (raw = .getfield idx) && decide (vm_g G_nest pl = some (.fieldLinkNest M.1 idx (T k).1 (T k).2.1 (T k).2.2.1 "ImageLoader"))
    | 3 => decide (raw = .putfield idx) && (vm_at pl (.fieldLink M.1 idx (T k).1 (T k).2.1 (T k).2.2.1) && ((T k).2.2.2 && (decide ((T k).1 = M.1) && decide (M.2.1.name = "<init>"))))
    | 4 => decide (raw = .getstatic idx) && vm_at pl (.fieldLink M.1 idx "ImageLoader$Image" "MAGIC" "[I")
    | _ => false))
  | none => false
def vm_okI (M : vm_M) (raw : Instr) (len : Nat) (i : vm_I) : Bool := match i with
  | .inl j => decide (raw = j) && Nat.beq len (vm_len j)
  | .inr (.inl (v, pl)) => vm_okc M raw len v pl
  | .inr (.inr (.inl (op, pl, idx, ci, k))) => vm_okf M raw len op pl idx ci k
  | .inr (.inr (.inr (n, c))) => match raw with
    | .iinc n' k => Nat.beq n n' && (decide (Int32.ofInt k = c) && Nat.beq len 3)
    | _ => false
section VM3
variable {p : Program} {l : Launch} {e : Env} {R : Room} {s : State} {m : MethodId} {args : Array Value} {below : List Frame} {meth : Method} {c : Code} {cells slots : Nat} {Q : State → Prop} {D : va_G} {ad tc : Nat → Nat} {A : Nat → Prop} {M : vm_M} {pc pc' : Nat} {S S' : vm_S} {g : Prop}
theorem vm_li_ok {n : Nat} (hs : vm_li n S = some (g, S')) (row : ∀ (H : Heap) (locs : List Loc) (ls : Array Slot) (rest : List Value) (x : Int32), ls[n]? = some (.val (.int x)) → W p l e R s m args below meth c H locs cells slots Q (F0 m pc' ls (.int x :: rest)) → W p l e R s m args below meth c H locs cells slots Q (F0 m pc ls rest))
    (k : vm_W p l e R s m args below meth c cells slots Q D ad tc A pc' S') : vm_W p l e R s m args below meth c cells slots Q D ad tc A pc S := by
  unfold vm_li at hs
  split at hs
  · rename_i x hx
    cases hs
    intro H locs ls h1 h2 h3 h4
    exact row H locs ls _ x (vm_l_at h1 hx) (k H locs ls h1 h2 h3 h4)
  · cases hs
theorem vm_ll_ok {n : Nat} (hs : vm_ll n S = some (g, S')) (row : ∀ (H : Heap) (locs : List Loc) (ls : Array Slot) (rest : List Value) (x : Int64), ls[n]? = some (.val (.long x)) → W p l e R s m args below meth c H locs cells slots Q (F0 m pc' ls (.long x :: rest)) → W p l e R s m args below meth c H locs cells slots Q (F0 m pc ls rest))
    (k : vm_W p l e R s m args below meth c cells slots Q D ad tc A pc' S') : vm_W p l e R s m args below meth c cells slots Q D ad tc A pc S := by
  unfold vm_ll at hs
  split at hs
  · rename_i x hx
    cases hs
    intro H locs ls h1 h2 h3 h4
    exact row H locs ls _ x (vm_l_at h1 hx) (k H locs ls h1 h2 h3 h4)
  · cases hs
theorem vm_la_ok {n : Nat} (hs : vm_la n S = some (g, S')) (row : ∀ (H : Heap) (locs : List Loc) (ls : Array Slot) (rest : List Value) (x : Nat), ls[n]? = some (.val (.ref x)) → W p l e R s m args below meth c H locs cells slots Q (F0 m pc' ls (.ref x :: rest)) → W p l e R s m args below meth c H locs cells slots Q (F0 m pc ls rest))
    (k : vm_W p l e R s m args below meth c cells slots Q D ad tc A pc' S') : vm_W p l e R s m args below meth c cells slots Q D ad tc A pc S := by
  unfold vm_la at hs
  split at hs
  · rename_i x hx
    cases hs
    intro H locs ls h1 h2 h3 h4
    exact row H locs ls _ (ad x) (vm_l_at h1 hx) (k H locs ls h1 h2 h3 h4)
  · cases hs
theorem vm_blt {a b : Nat} {α : Type} {x y : α} (h : (bif Nat.blt a b then some x else none) = some y) : a < b ∧ x = y := by
  cases hb : Nat.blt a b with
  | false => rw [hb] at h; cases h
  | true => rw [hb] at h; exact ⟨Nat.le_of_ble_eq_true hb, Option.some.inj h⟩
theorem vm_si_ok {n : Nat} (hs : vm_si n S = some (g, S')) (row : ∀ (H : Heap) (locs : List Loc) (ls : Array Slot) (rest : List Value) (x : Int32) (nL : Nat) (lv : List (Nat × Value)), lv_has ls nL lv → n < nL → (∀ ls' : Array Slot, lv_has ls' nL ((n, Value.int x) :: lv.filter (fun q => !(q.1 == n) && !(q.1 + 1 == n && q.2.category == 2))) → W p l e R s m args below meth c H locs cells slots Q (F0 m pc' ls' rest)) → W p l e R s m args below meth c H locs cells slots Q (F0 m pc ls (.int x :: rest)))
    (k : vm_W p l e R s m args below meth c cells slots Q D ad tc A pc' S') : vm_W p l e R s m args below meth c cells slots Q D ad tc A pc S := by
  obtain ⟨lv, st, cs⟩ := S
  unfold vm_si at hs
  split at hs
  · rename_i x st' hx
    obtain ⟨hn, he⟩ := vm_blt hs
    cases he
    cases hx
    intro H locs ls h1 h2 h3 h4
    exact row H locs ls _ x _ _ h1 hn (fun ls' hl' => k H locs ls' (vm_l_s1 hl') h2 h3 h4)
  · cases hs
theorem vm_sa_ok {n : Nat} (hs : vm_sa n S = some (g, S')) (row : ∀ (H : Heap) (locs : List Loc) (ls : Array Slot) (rest : List Value) (x : Nat) (nL : Nat) (lv : List (Nat × Value)), lv_has ls nL lv → n < nL → (∀ ls' : Array Slot, lv_has ls' nL ((n, Value.ref x) :: lv.filter (fun q => !(q.1 == n) && !(q.1 + 1 == n && q.2.category == 2))) → W p l e R s m args below meth c H locs cells slots Q (F0 m pc' ls' rest)) → W p l e R s m args below meth c H locs cells slots Q (F0 m pc ls (.ref x :: rest)))
    (k : vm_W p l e R s m args below meth c cells slots Q D ad tc A pc' S') : vm_W p l e R s m args below meth c cells slots Q D ad tc A pc S := by
  obtain ⟨lv, st, cs⟩ := S
  unfold vm_sa at hs
  split at hs
  · rename_i x st' hx
    obtain ⟨hn, he⟩ := vm_blt hs
    cases he
    cases hx
    intro H locs ls h1 h2 h3 h4
    exact row H locs ls _ (ad x) _ _ h1 hn (fun ls' hl' => k H locs ls' (vm_l_s1 (v := .ref x) hl') h2 h3 h4)
  · cases hs
theorem vm_sl_ok {n : Nat} (hs : vm_sl n S = some (g, S')) (row : ∀ (H : Heap) (locs : List Loc) (ls : Array Slot) (rest : List Value) (x : Int64) (nL : Nat) (lv : List (Nat × Value)), lv_has ls nL lv → n + 1 < nL → (∀ ls' : Array Slot, lv_has ls' nL ((n, Value.long x) :: lv.filter (fun q => !(q.1 == n) && (!(q.1 == n + 1) && !(q.1 + 1 == n && q.2.category == 2)))) → W p l e R s m args below meth c H locs cells slots Q (F0 m pc' ls' rest)) → W p l e R s m args below meth c H locs cells slots Q (F0 m pc ls (.long x :: rest)))
    (k : vm_W p l e R s m args below meth c cells slots Q D ad tc A pc' S') : vm_W p l e R s m args below meth c cells slots Q D ad tc A pc S := by
  obtain ⟨lv, st, cs⟩ := S
  unfold vm_sl at hs
  split at hs
  · rename_i x st' hx
    obtain ⟨hn, he⟩ := vm_blt hs
    cases he
    cases hx
    intro H locs ls h1 h2 h3 h4
    exact row H locs ls _ x _ _ h1 hn (fun ls' hl' => k H locs ls' (vm_l_s2 hl') h2 h3 h4)
  · cases hs
theorem vm_inc_ok {n : Nat} {kk : Int32} (hs : vm_inc n kk S = some (g, S')) (row : ∀ (H : Heap) (locs : List Loc) (ls : Array Slot) (rest : List Value) (x : Int32) (nL j : Nat) (lv : List (Nat × Value)), lv_has ls nL lv → lv[j]? = some (n, .int x) → n < nL → (∀ ls' : Array Slot, lv_has ls' nL ((n, Value.int (x + kk)) :: lv.filter (fun q => !(q.1 == n) && !(q.1 + 1 == n && q.2.category == 2))) → W p l e R s m args below meth c H locs cells slots Q (F0 m pc' ls' rest)) → W p l e R s m args below meth c H locs cells slots Q (F0 m pc ls rest))
    (k : vm_W p l e R s m args below meth c cells slots Q D ad tc A pc' S') : vm_W p l e R s m args below meth c cells slots Q D ad tc A pc S := by
  obtain ⟨lv, st, cs⟩ := S
  unfold vm_inc at hs
  split at hs
  · rename_i x hx
    obtain ⟨hn, he⟩ := vm_blt hs
    cases he
    intro H locs ls h1 h2 h3 h4
    obtain ⟨j, hj⟩ := List.getElem?_of_mem ((vm_as_mem ad lv 0 (n, .int x)).mpr ⟨n, .int x, by simp, by rw [← vm_g_eq]; exact hx, rfl⟩)
    exact row H locs ls _ x _ j _ h1 hj hn (fun ls' hl' => k H locs ls' (vm_l_s1 (v := .int (x + kk)) hl') h2 h3 h4)
  · cases hs
theorem vm_ii_ok {f : Int32 → Int32 → Int32} (hs : vm_ii f S = some (g, S')) (row : ∀ (H : Heap) (locs : List Loc) (ls : Array Slot) (rest : List Value) (x y : Int32), W p l e R s m args below meth c H locs cells slots Q (F0 m pc' ls (.int (f x y) :: rest)) → W p l e R s m args below meth c H locs cells slots Q (F0 m pc ls (.int y :: .int x :: rest)))
    (k : vm_W p l e R s m args below meth c cells slots Q D ad tc A pc' S') : vm_W p l e R s m args below meth c cells slots Q D ad tc A pc S := by
  obtain ⟨lv, st, cs⟩ := S
  unfold vm_ii at hs
  split at hs
  · rename_i y x st' hx
    cases hs
    cases hx
    intro H locs ls h1 h2 h3 h4
    exact row H locs ls _ x y (k H locs ls h1 h2 h3 h4)
  · cases hs
theorem vm_iq_ok {f : Int32 → Int32 → Int32} (hs : vm_iq f S = some (g, S')) (hg : g) (row : ∀ (H : Heap) (locs : List Loc) (ls : Array Slot) (rest : List Value) (x y : Int32), ¬ y = 0 → W p l e R s m args below meth c H locs cells slots Q (F0 m pc' ls (.int (f x y) :: rest)) → W p l e R s m args below meth c H locs cells slots Q (F0 m pc ls (.int y :: .int x :: rest)))
    (k : vm_W p l e R s m args below meth c cells slots Q D ad tc A pc' S') : vm_W p l e R s m args below meth c cells slots Q D ad tc A pc S := by
  obtain ⟨lv, st, cs⟩ := S
  unfold vm_iq at hs
  split at hs
  · rename_i y x st' hx
    cases hs
    cases hx
    intro H locs ls h1 h2 h3 h4
    exact row H locs ls _ x y hg (k H locs ls h1 h2 h3 h4)
  · cases hs
theorem vm_jj_ok {f : Int64 → Int64 → Int64} (hs : vm_jj f S = some (g, S')) (row : ∀ (H : Heap) (locs : List Loc) (ls : Array Slot) (rest : List Value) (x y : Int64), W p l e R s m args below meth c H locs cells slots Q (F0 m pc' ls (.long (f x y) :: rest)) → W p l e R s m args below meth c H locs cells slots Q (F0 m pc ls (.long y :: .long x :: rest)))
    (k : vm_W p l e R s m args below meth c cells slots Q D ad tc A pc' S') : vm_W p l e R s m args below meth c cells slots Q D ad tc A pc S := by
  obtain ⟨lv, st, cs⟩ := S
  unfold vm_jj at hs
  split at hs
  · rename_i y x st' hx
    cases hs
    cases hx
    intro H locs ls h1 h2 h3 h4
    exact row H locs ls _ x y (k H locs ls h1 h2 h3 h4)
  · cases hs
theorem vm_jq_ok {f : Int64 → Int64 → Int64} (hs : vm_jq f S = some (g, S')) (hg : g) (row : ∀ (H : Heap) (locs : List Loc) (ls : Array Slot) (rest : List Value) (x y : Int64), ¬ y = 0 → W p l e R s m args below meth c H locs cells slots Q (F0 m pc' ls (.long (f x y) :: rest)) → W p l e R s m args below meth c H locs cells slots Q (F0 m pc ls (.long y :: .long x :: rest)))
    (k : vm_W p l e R s m args below meth c cells slots Q D ad tc A pc' S') : vm_W p l e R s m args below meth c cells slots Q D ad tc A pc S := by
  obtain ⟨lv, st, cs⟩ := S
  unfold vm_jq at hs
  split at hs
  · rename_i y x st' hx
    cases hs
    cases hx
    intro H locs ls h1 h2 h3 h4
    exact row H locs ls _ x y hg (k H locs ls h1 h2 h3 h4)
  · cases hs
theorem vm_ji_ok {f : Int64 → Int32 → Int64} (hs : vm_ji f S = some (g, S')) (row : ∀ (H : Heap) (locs : List Loc) (ls : Array Slot) (rest : List Value) (x : Int64) (y : Int32), W p l e R s m args below meth c H locs cells slots Q (F0 m pc' ls (.long (f x y) :: rest)) → W p l e R s m args below meth c H locs cells slots Q (F0 m pc ls (.int y :: .long x :: rest)))
    (k : vm_W p l e R s m args below meth c cells slots Q D ad tc A pc' S') : vm_W p l e R s m args below meth c cells slots Q D ad tc A pc S := by
  obtain ⟨lv, st, cs⟩ := S
  unfold vm_ji at hs
  split at hs
  · rename_i y x st' hx
    cases hs
    cases hx
    intro H locs ls h1 h2 h3 h4
    exact row H locs ls _ x y (k H locs ls h1 h2 h3 h4)
  · cases hs
theorem vm_1i_ok {f : Int32 → Value} (hf : ∀ x, vm_v ad (f x) = f x) (hs : vm_1i f S = some (g, S')) (row : ∀ (H : Heap) (locs : List Loc) (ls : Array Slot) (rest : List Value) (x : Int32), W p l e R s m args below meth c H locs cells slots Q (F0 m pc' ls (f x :: rest)) → W p l e R s m args below meth c H locs cells slots Q (F0 m pc ls (.int x :: rest)))
    (k : vm_W p l e R s m args below meth c cells slots Q D ad tc A pc' S') : vm_W p l e R s m args below meth c cells slots Q D ad tc A pc S := by
  obtain ⟨lv, st, cs⟩ := S
  unfold vm_1i at hs
  split at hs
  · rename_i x st' hx
    cases hs
    cases hx
    intro H locs ls h1 h2 h3 h4
    have k2 := k H locs ls h1 h2 h3 h4
    simp only [List.map_cons, hf] at k2
    exact row H locs ls _ x k2
  · cases hs
theorem vm_1j_ok {f : Int64 → Value} (hf : ∀ x, vm_v ad (f x) = f x) (hs : vm_1j f S = some (g, S')) (row : ∀ (H : Heap) (locs : List Loc) (ls : Array Slot) (rest : List Value) (x : Int64), W p l e R s m args below meth c H locs cells slots Q (F0 m pc' ls (f x :: rest)) → W p l e R s m args below meth c H locs cells slots Q (F0 m pc ls (.long x :: rest)))
    (k : vm_W p l e R s m args below meth c cells slots Q D ad tc A pc' S') : vm_W p l e R s m args below meth c cells slots Q D ad tc A pc S := by
  obtain ⟨lv, st, cs⟩ := S
  unfold vm_1j at hs
  split at hs
  · rename_i x st' hx
    cases hs
    cases hx
    intro H locs ls h1 h2 h3 h4
    have k2 := k H locs ls h1 h2 h3 h4
    simp only [List.map_cons, hf] at k2
    exact row H locs ls _ x k2
  · cases hs
end VM3
end
section
/-! arrays, fields; one instruction, whatever it is; a stretch of instructions -/
theorem vm_ai_inv {cs : List va_E} {a t n : Nat} {f : Nat → Int32} {ty : FieldType} (h : vm_ai cs a = some (t, n, f, ty)) : vm_g cs a = some (.inl (t, n, .inl f)) ∧ vm_g G_ty t = some ty := by
  unfold vm_ai at h
  split at h
  · rename_i t' n' f' h1
    split at h
    · rename_i ty' h2
      cases h
      exact ⟨h1, h2⟩
    · cases h
  · cases h
theorem vm_aj_inv {cs : List va_E} {a t n : Nat} {f : Nat → Int64} {ty : FieldType} (h : vm_aj cs a = some (t, n, f, ty)) : vm_g cs a = some (.inl (t, n, .inr (.inl f))) ∧ vm_g G_ty t = some ty := by
  unfold vm_aj at h
  split at h
  · rename_i t' n' f' h1
    split at h
    · rename_i ty' h2
      cases h
      exact ⟨h1, h2⟩
    · cases h
  · cases h
theorem vm_wP {D : va_G} {ad tc : Nat → Nat} {cs : List va_E} {a : Nat} {e : va_E} {H : Heap} (h : va_P D vwCl ((vm_w ad tc 0 cs).set a (ad a, vm_e ad tc e)) H) : va_P D vwCl (vm_w ad tc 0 (vm_u cs a e)) H := by
  rw [← vm_w_set0]; exact h
theorem vm_wD {A : Nat → Prop} {ad tc : Nat → Nat} {cs : List va_E} {a : Nat} {e : va_E} (h : va_D A ((vm_w ad tc 0 cs).set a (ad a, vm_e ad tc e))) : va_D A (vm_w ad tc 0 (vm_u cs a e)) := by
  rw [← vm_w_set0]; exact h
theorem vm_fs_set (ad : Nat → Nat) (fs : List Value) (k : Nat) (v : Value) : (vm_u fs k v).map (vm_v ad) = (fs.map (vm_v ad)).set k (vm_v ad v) := by
  rw [vm_u_eq, List.map_set]
theorem vm_fit_ok {ty : FieldType} {v : Value} (ad : Nat → Nat) (h : vm_fit ty v = true) : narrow ty (vm_v ad v) = vm_v ad v ∧ fits ty (vm_v ad v) = true := by
  match ty, v, h with
  | .int, .int _, _ => exact ⟨rfl, rfl⟩
  | .long, .long _, _ => exact ⟨rfl, rfl⟩
  | .object _, .ref _, _ => exact ⟨rfl, rfl⟩
  | .array _, .ref _, _ => exact ⟨rfl, rfl⟩
section VM4
variable {p : Program} {l : Launch} {e : Env} {R : Room} {s : State} {m : MethodId} {args : Array Value} {below : List Frame} {meth : Method} {c : Code} {cells slots : Nat} {Q : State → Prop} {D : va_G} {ad tc : Nat → Nat} {A : Nat → Prop} {M : vm_M} {pc pc' : Nat} {S S' : vm_S} {g : Prop}
theorem vm_lcmp_ok (C : vm_C M p R s m args meth c D ad tc A) (hd : decode M.2.2.1 pc = .ok (.lcmp, 1)) (hs : vm_lcmp S = some (g, S')) (k : vm_W p l e R s m args below meth c cells slots Q D ad tc A (pc + 1) S') : vm_W p l e R s m args below meth c cells slots Q D ad tc A pc S := by
  obtain ⟨hx, hb, hml, hown, hts, hK, hA, hN, hlk, hnm, hR, hT⟩ := C
  obtain ⟨lv, st, cs⟩ := S
  unfold vm_lcmp at hs
  split at hs
  · rename_i y x st' hst
    cases hs
    cases hst
    intro H locs ls h1 h2 h3 h4
    exact W.lcmp hx hb hd (k H locs ls h1 h2 h3 h4)
  · cases hs
theorem vm_dup_ok (C : vm_C M p R s m args meth c D ad tc A) (hd : decode M.2.2.1 pc = .ok (.dup, 1)) (hs : vm_dup S = some (g, S')) (k : vm_W p l e R s m args below meth c cells slots Q D ad tc A (pc + 1) S') : vm_W p l e R s m args below meth c cells slots Q D ad tc A pc S := by
  obtain ⟨hx, hb, hml, hown, hts, hK, hA, hN, hlk, hnm, hR, hT⟩ := C
  obtain ⟨lv, st, cs⟩ := S
  unfold vm_dup at hs
  split at hs
  · rename_i x st' hst
    cases hs
    cases hst
    intro H locs ls h1 h2 h3 h4
    exact lv_dup hx hb hd rfl (k H locs ls h1 h2 h3 h4)
  · rename_i x st' hst
    cases hs
    cases hst
    intro H locs ls h1 h2 h3 h4
    exact lv_dup hx hb hd rfl (k H locs ls h1 h2 h3 h4)
  · cases hs
theorem vm_pop_ok (C : vm_C M p R s m args meth c D ad tc A) (hd : decode M.2.2.1 pc = .ok (.pop, 1)) (hs : vm_pop S = some (g, S')) (k : vm_W p l e R s m args below meth c cells slots Q D ad tc A (pc + 1) S') : vm_W p l e R s m args below meth c cells slots Q D ad tc A pc S := by
  obtain ⟨hx, hb, hml, hown, hts, hK, hA, hN, hlk, hnm, hR, hT⟩ := C
  obtain ⟨lv, st, cs⟩ := S
  unfold vm_pop at hs
  split at hs
  · rename_i x st' hst
    cases hs
    cases hst
    intro H locs ls h1 h2 h3 h4
    exact lv_pop hx hb hd rfl (k H locs ls h1 h2 h3 h4)
  · rename_i x st' hst
    cases hs
    cases hst
    intro H locs ls h1 h2 h3 h4
    exact lv_pop hx hb hd rfl (k H locs ls h1 h2 h3 h4)
  · cases hs
theorem vm_bald_ok (C : vm_C M p R s m args meth c D ad tc A) (hd : decode M.2.2.1 pc = .ok (.baload, 1)) (hs : vm_bald S = some (g, S')) (hg : g) (k : vm_W p l e R s m args below meth c cells slots Q D ad tc A (pc + 1) S') : vm_W p l e R s m args below meth c cells slots Q D ad tc A pc S := by
  obtain ⟨hx, hb, hml, hown, hts, hK, hA, hN, hlk, hnm, hR, hT⟩ := C
  obtain ⟨lv, st, cs⟩ := S
  unfold vm_bald at hs
  split at hs
  · rename_i i a st' hst
    split at hs
    · rename_i t n f hai
      cases hs
      cases hst
      obtain ⟨e1, e2⟩ := vm_ai_inv hai
      intro H locs ls h1 h2 h3 h4
      exact va_bald hx hb hK h2 a t (vm_w_at e1) (vm_tys_at e2) hg hd (k H locs ls h1 h2 h3 h4)
    · rename_i t n f hai
      cases hs
      cases hst
      obtain ⟨e1, e2⟩ := vm_ai_inv hai
      intro H locs ls h1 h2 h3 h4
      exact va_zald hx hb hK h2 a t (vm_w_at e1) (vm_tys_at e2) hg hd (k H locs ls h1 h2 h3 h4)
    · cases hs
  · cases hs
theorem vm_iald_ok (C : vm_C M p R s m args meth c D ad tc A) (hd : decode M.2.2.1 pc = .ok (.iaload, 1)) (hs : vm_iald S = some (g, S')) (hg : g) (k : vm_W p l e R s m args below meth c cells slots Q D ad tc A (pc + 1) S') : vm_W p l e R s m args below meth c cells slots Q D ad tc A pc S := by
  obtain ⟨hx, hb, hml, hown, hts, hK, hA, hN, hlk, hnm, hR, hT⟩ := C
  obtain ⟨lv, st, cs⟩ := S
  unfold vm_iald at hs
  split at hs
  · rename_i i a st' hst
    cases hba : Nat.beq a 1000000 with
    | true =>
      rw [hba] at hs
      have ha : a = 1000000 := Nat.eq_of_beq_eq_true hba
      subst ha
      cases hs
      cases hst
      intro H locs ls h1 h2 h3 h4
      exact va_ti hx hb hT.2.1 h4 hg rfl hd (k H locs ls h1 h2 h3 h4)
    | false =>
      rw [hba] at hs
      simp only [cond_false] at hs
      split at hs
      · rename_i t n f hai
        cases hs
        cases hst
        obtain ⟨e1, e2⟩ := vm_ai_inv hai
        intro H locs ls h1 h2 h3 h4
        exact va_iald hx hb hK h2 a t (vm_w_at e1) (vm_tys_at e2) hg hd (k H locs ls h1 h2 h3 h4)
      · cases hs
  · cases hs
theorem vm_lald_ok (C : vm_C M p R s m args meth c D ad tc A) (hd : decode M.2.2.1 pc = .ok (.laload, 1)) (hs : vm_lald S = some (g, S')) (hg : g) (k : vm_W p l e R s m args below meth c cells slots Q D ad tc A (pc + 1) S') : vm_W p l e R s m args below meth c cells slots Q D ad tc A pc S := by
  obtain ⟨hx, hb, hml, hown, hts, hK, hA, hN, hlk, hnm, hR, hT⟩ := C
  obtain ⟨lv, st, cs⟩ := S
  unfold vm_lald at hs
  split at hs
  · rename_i i a st' hst
    split at hs
    · rename_i t n f hai
      cases hs
      cases hst
      obtain ⟨e1, e2⟩ := vm_aj_inv hai
      intro H locs ls h1 h2 h3 h4
      exact va_lald hx hb hK h2 a t (vm_w_at e1) (vm_tys_at e2) hg hd (k H locs ls h1 h2 h3 h4)
    · cases hs
  · cases hs
theorem vm_bast_ok (C : vm_C M p R s m args meth c D ad tc A) (hd : decode M.2.2.1 pc = .ok (.bastore, 1)) (hs : vm_bast S = some (g, S')) (hg : g) (k : vm_W p l e R s m args below meth c cells slots Q D ad tc A (pc + 1) S') : vm_W p l e R s m args below meth c cells slots Q D ad tc A pc S := by
  obtain ⟨hx, hb, hml, hown, hts, hK, hA, hN, hlk, hnm, hR, hT⟩ := C
  obtain ⟨lv, st, cs⟩ := S
  unfold vm_bast at hs
  split at hs
  · rename_i x i a st' hst
    split at hs
    · rename_i t n f hai
      cases hs
      cases hst
      obtain ⟨e1, e2⟩ := vm_ai_inv hai
      intro H locs ls h1 h2 h3 h4
      exact va_bast hx hb hK h2 h3 h4 a t (vm_w_at e1) (vm_tys_at e2) hg hd (fun H1 locs1 p1 d1 s1 => k H1 locs1 ls h1 (vm_wP p1) (vm_wD d1) s1)
    · rename_i t n f hai
      cases hs
      cases hst
      obtain ⟨e1, e2⟩ := vm_ai_inv hai
      intro H locs ls h1 h2 h3 h4
      exact va_zast hx hb hK h2 h3 h4 a t (vm_w_at e1) (vm_tys_at e2) hg hd (fun H1 locs1 p1 d1 s1 => k H1 locs1 ls h1 (vm_wP p1) (vm_wD d1) s1)
    · cases hs
  · cases hs
theorem vm_iast_ok (C : vm_C M p R s m args meth c D ad tc A) (hd : decode M.2.2.1 pc = .ok (.iastore, 1)) (hs : vm_iast S = some (g, S')) (hg : g) (k : vm_W p l e R s m args below meth c cells slots Q D ad tc A (pc + 1) S') : vm_W p l e R s m args below meth c cells slots Q D ad tc A pc S := by
  obtain ⟨hx, hb, hml, hown, hts, hK, hA, hN, hlk, hnm, hR, hT⟩ := C
  obtain ⟨lv, st, cs⟩ := S
  unfold vm_iast at hs
  split at hs
  · rename_i x i a st' hst
    split at hs
    · rename_i t n f hai
      cases hs
      cases hst
      obtain ⟨e1, e2⟩ := vm_ai_inv hai
      intro H locs ls h1 h2 h3 h4
      exact va_iast hx hb hK h2 h3 h4 a t (vm_w_at e1) (vm_tys_at e2) hg hd (fun H1 locs1 p1 d1 s1 => k H1 locs1 ls h1 (vm_wP p1) (vm_wD d1) s1)
    · cases hs
  · cases hs
theorem vm_last_ok (C : vm_C M p R s m args meth c D ad tc A) (hd : decode M.2.2.1 pc = .ok (.lastore, 1)) (hs : vm_last S = some (g, S')) (hg : g) (k : vm_W p l e R s m args below meth c cells slots Q D ad tc A (pc + 1) S') : vm_W p l e R s m args below meth c cells slots Q D ad tc A pc S := by
  obtain ⟨hx, hb, hml, hown, hts, hK, hA, hN, hlk, hnm, hR, hT⟩ := C
  obtain ⟨lv, st, cs⟩ := S
  unfold vm_last at hs
  split at hs
  · rename_i x i a st' hst
    split at hs
    · rename_i t n f hai
      cases hs
      cases hst
      obtain ⟨e1, e2⟩ := vm_aj_inv hai
      intro H locs ls h1 h2 h3 h4
      exact va_last hx hb hK h2 h3 h4 a t (vm_w_at e1) (vm_tys_at e2) hg hd (fun H1 locs1 p1 d1 s1 => k H1 locs1 ls h1 (vm_wP p1) (vm_wD d1) s1)
    · cases hs
  · cases hs
theorem vm_alen_ok (C : vm_C M p R s m args meth c D ad tc A) (hd : decode M.2.2.1 pc = .ok (.arraylength, 1)) (hs : vm_alen S = some (g, S')) (k : vm_W p l e R s m args below meth c cells slots Q D ad tc A (pc + 1) S') : vm_W p l e R s m args below meth c cells slots Q D ad tc A pc S := by
  obtain ⟨hx, hb, hml, hown, hts, hK, hA, hN, hlk, hnm, hR, hT⟩ := C
  obtain ⟨lv, st, cs⟩ := S
  unfold vm_alen at hs
  split at hs
  · rename_i a st' hst
    cases hba : Nat.beq a 1000000 with
    | true =>
      rw [hba] at hs
      have ha : a = 1000000 := Nat.eq_of_beq_eq_true hba
      subst ha
      cases hs
      cases hst
      intro H locs ls h1 h2 h3 h4
      exact va_tlen hx hb hT.2.1 h4 (v := 7) (by decide) hd (k H locs ls h1 h2 h3 h4)
    | false =>
      rw [hba] at hs
      simp only [cond_false] at hs
      split at hs
      · rename_i t x hai
        split at hs
        · rename_i ty hty
          cases hs
          cases hst
          intro H locs ls h1 h2 h3 h4
          obtain ⟨n, f | f | f | f | f⟩ := x
          · exact va_alen hx hb hK h2 a t (vm_w_at hai) (vm_tys_at hty) rfl hd (k H locs ls h1 h2 h3 h4)
          · exact va_alen hx hb hK h2 a t (vm_w_at hai) (vm_tys_at hty) rfl hd (k H locs ls h1 h2 h3 h4)
          · exact va_alen hx hb hK h2 a t (vm_w_at hai) (vm_tys_at hty) rfl hd (k H locs ls h1 h2 h3 h4)
          · exact va_alen hx hb hK h2 a t (vm_w_at hai) (vm_tys_at hty) rfl hd (k H locs ls h1 h2 h3 h4)
          · exact va_alen hx hb hK h2 a t (vm_w_at hai) (vm_tys_at hty) rfl hd (k H locs ls h1 h2 h3 h4)
        · cases hs
      · cases hs
  · cases hs
theorem vm_gf_inv {ci k : Nat} (hs : vm_gf ci k S = some (g, S')) : ∃ (a : Nat) (st : List Value) (fs : List Value) (v : Value), S.2.1 = .ref a :: st ∧ vm_g S.2.2 a = some (.inr (ci, fs)) ∧ vm_g fs k = some v ∧ S' = (S.1, v :: st, S.2.2) := by
  unfold vm_gf at hs
  split at hs
  · rename_i a st hst
    split at hs
    · rename_i c' fs hc
      split at hs
      · rename_i v hb hv
        cases hs
        have := Nat.eq_of_beq_eq_true hb
        subst this
        exact ⟨a, st, fs, v, hst, hc, hv, rfl⟩
      · cases hs
    · cases hs
  · cases hs
theorem vm_pf_inv {ci k : Nat} (hs : vm_pf ci k S = some (g, S')) : ∃ (a : Nat) (st : List Value) (fs : List Value) (v : Value), S.2.1 = v :: .ref a :: st ∧ vm_g S.2.2 a = some (.inr (ci, fs)) ∧ k < fs.length ∧ vm_fit (G_ft ci k) v = true ∧ S' = (S.1, st, vm_u S.2.2 a (.inr (ci, vm_u fs k v))) := by
  unfold vm_pf at hs
  split at hs
  · rename_i v a st hst
    split at hs
    · rename_i c' fs hc
      split at hs
      · rename_i hb hl hf
        cases hs
        have := Nat.eq_of_beq_eq_true hb
        subst this
        exact ⟨a, st, fs, v, hst, hc, Nat.le_of_ble_eq_true hl, hf, rfl⟩
      · cases hs
    · cases hs
  · cases hs
theorem vm_gf_ok {ci k idx : Nat} {Cn : String} {T : u_T} {N : Nat} (C : vm_C M p R s m args meth c D ad tc A) (hcl : vm_g vwCl ci = some (Cn, T, N)) (hk : k < N) (hl : Jvm.Cond.fieldLink M.1 idx (T k).1 (T k).2.1 (T k).2.2.1 ∈ G_big) (hd : decode M.2.2.1 pc = .ok (.getfield idx, 3)) (hs : vm_gf ci k S = some (g, S')) (kk : vm_W p l e R s m args below meth c cells slots Q D ad tc A (pc + 3) S') : vm_W p l e R s m args below meth c cells slots Q D ad tc A pc S := by
  obtain ⟨hx, hb, hml, hown, hts, hK, hA, hN, hlk, hnm, hR, hT⟩ := C
  obtain ⟨e0, e1, e2, e3⟩ := G_cl hcl
  obtain ⟨a, st, fs, v, h5, h6, h7, rfl⟩ := vm_gf_inv hs
  intro H locs ls h1 h2 h3 h4
  rw [h5]
  exact va_get hx hb hts e1 hown hK h2 a (vm_w_at h6) e0 k hk (hts _ hl) (fun _ h9 => h9) (by rw [List.getElem?_map, ← vm_g_eq, h7]; rfl) hd (kk H locs ls h1 h2 h3 h4)
theorem vm_gfN_ok {ci k idx : Nat} {Cn : String} {T : u_T} {N : Nat} (C : vm_C M p R s m args meth c D ad tc A) (hcl : vm_g vwCl ci = some (Cn, T, N)) (hk : k < N) (hl : Jvm.Cond.fieldLinkNest M.1 idx (T k).1 (T k).2.1 (T k).2.2.1 "ImageLoader" ∈ G_nest) (hd : decode M.2.2.1 pc = .ok (.getfield idx, 3)) (hs : vm_gf ci k S = some (g, S')) (kk : vm_W p l e R s m args below meth c cells slots Q D ad tc A (pc + 3) S') : vm_W p l e R s m args below meth c cells slots Q D ad tc A pc S := by
  obtain ⟨hx, hb, hml, hown, hts, hK, hA, hN, hlk, hnm, hR, hT⟩ := C
  obtain ⟨e0, e1, e2, e3⟩ := G_cl hcl
  obtain ⟨a, st, fs, v, h5, h6, h7, rfl⟩ := vm_gf_inv hs
  intro H locs ls h1 h2 h3 h4
  rw [h5]
  exact va_getN hx hb hts e1 hown hK h2 a (vm_w_at h6) e0 k hk (va_Nw.use rfl (hN _ hl)) (fun _ h9 => h9) (by rw [List.getElem?_map, ← vm_g_eq, h7]; rfl) hd (kk H locs ls h1 h2 h3 h4)
theorem vm_pf_ok {ci k idx : Nat} {Cn : String} {T : u_T} {N : Nat} (C : vm_C M p R s m args meth c D ad tc A) (hcl : vm_g vwCl ci = some (Cn, T, N)) (hk : k < N) (hl : Jvm.Cond.fieldLink M.1 idx (T k).1 (T k).2.1 (T k).2.2.1 ∈ G_big) (hfin : (T k).2.2.2 = false) (hd : decode M.2.2.1 pc = .ok (.putfield idx, 3)) (hs : vm_pf ci k S = some (g, S')) (kk : vm_W p l e R s m args below meth c cells slots Q D ad tc A (pc + 3) S') : vm_W p l e R s m args below meth c cells slots Q D ad tc A pc S := by
  obtain ⟨hx, hb, hml, hown, hts, hK, hA, hN, hlk, hnm, hR, hT⟩ := C
  obtain ⟨e0, e1, e2, e3⟩ := G_cl hcl
  obtain ⟨a, st, fs, v, h5, h6, h7, h8, rfl⟩ := vm_pf_inv hs
  obtain ⟨f1, f2⟩ := vm_fit_ok ad h8
  intro H locs ls h1 h2 h3 h4
  rw [h5]
  refine va_put hx hb hts e1 (G_ft ci) e2 e3 hown hK h2 h3 h4 a (vm_w_at h6) e0 k hk (hts _ hl) (fun _ h9 => h9) hfin (e2 k hk) f1 f2 (by rw [List.length_map]; exact h7) hd (fun H1 locs1 p1 d1 s1 => ?_)
  rw [← vm_fs_set] at p1 d1
  exact kk H1 locs1 ls h1 (vm_wP p1) (vm_wD d1) s1
theorem vm_pfF_ok {ci k idx : Nat} {Cn : String} {T : u_T} {N : Nat} (C : vm_C M p R s m args meth c D ad tc A) (hcl : vm_g vwCl ci = some (Cn, T, N)) (hk : k < N) (hl : Jvm.Cond.fieldLink M.1 idx (T k).1 (T k).2.1 (T k).2.2.1 ∈ G_big) (hfin : (T k).2.2.2 = true) (hdc : (T k).1 = M.1) (hin : M.2.1.name = "<init>") (hd : decode M.2.2.1 pc = .ok (.putfield idx, 3)) (hs : vm_pf ci k S = some (g, S')) (kk : vm_W p l e R s m args below meth c cells slots Q D ad tc A (pc + 3) S') : vm_W p l e R s m args below meth c cells slots Q D ad tc A pc S := by
  obtain ⟨hx, hb, hml, hown, hts, hK, hA, hN, hlk, hnm, hR, hT⟩ := C
  obtain ⟨e0, e1, e2, e3⟩ := G_cl hcl
  obtain ⟨a, st, fs, v, h5, h6, h7, h8, rfl⟩ := vm_pf_inv hs
  obtain ⟨f1, f2⟩ := vm_fit_ok ad h8
  intro H locs ls h1 h2 h3 h4
  rw [h5]
  refine va_putF hx hb hts e1 (G_ft ci) e2 e3 hown hK h2 h3 h4 a (vm_w_at h6) e0 k hk (hts _ hl) (fun _ h9 => h9) hfin (hnm.trans hin) hdc (e2 k hk) f1 f2 (by rw [List.length_map]; exact h7) hd (fun H1 locs1 p1 d1 s1 => ?_)
  rw [← vm_fs_set] at p1 d1
  exact kk H1 locs1 ls h1 (vm_wP p1) (vm_wD d1) s1
end VM4
end
section
/-! one instruction, whatever it is; a stretch of instructions -/
def vm_x : List vm_I → vm_S → Option (List Prop × vm_S)
  | [], S => some ([], S)
  | i :: is, S => match vm_x1 i S with
    | some (g, S1) => match vm_x is S1 with
      | some (gs, S2) => some (g :: gs, S2)
      | none => none
    | none => none
def vm_all : List Prop → Prop
  | [] => True
  | g :: gs => g ∧ vm_all gs
def vm_chk (M : vm_M) : Nat → List vm_I → Option Nat
  | pc, [] => some pc
  | pc, i :: is => match decode M.2.2.1 pc with
    | .ok (raw, len) => bif vm_okI M raw len i then vm_chk M (pc + len) is else none
    | .error _ => none
section VM5
variable {p : Program} {l : Launch} {e : Env} {R : Room} {s : State} {m : MethodId} {args : Array Value} {below : List Frame} {meth : Method} {c : Code} {cells slots : Nat} {Q : State → Prop} {D : va_G} {ad tc : Nat → Nat} {A : Nat → Prop} {M : vm_M} {pc pc' : Nat} {S S' : vm_S} {g : Prop}
set_option maxHeartbeats 2000000 in
theorem vm_plain (C : vm_C M p R s m args meth c D ad tc A) (j : Instr) (hd : decode M.2.2.1 pc = .ok (j, vm_len j)) (hs : vm_p j S = some (g, S')) (hg : g) (k : vm_W p l e R s m args below meth c cells slots Q D ad tc A (pc + vm_len j) S') : vm_W p l e R s m args below meth c cells slots Q D ad tc A pc S := by
  have C' := C
  obtain ⟨hx, hb, hml, hown, hts, hK, hA, hN, hlk, hnm, hR, hT⟩ := C'
  cases j <;> first | exact absurd (show (none : vm_R) = some (g, S') from hs) (by simp) | skip
  case iload_n n => exact vm_li_ok hs (fun _ _ _ _ _ hl k => lv_iload_n hx hb hd rfl hl k) k
  case iload n => exact vm_li_ok hs (fun _ _ _ _ _ hl k => lv_iload hx hb hd hl k) k
  case lload_n n => exact vm_ll_ok hs (fun _ _ _ _ _ hl k => lv_lload_n hx hb hd rfl hl k) k
  case lload n => exact vm_ll_ok hs (fun _ _ _ _ _ hl k => lv_lload hx hb hd hl k) k
  case aload_n n => exact vm_la_ok hs (fun _ _ _ _ _ hl k => lv_aload_n hx hb hd rfl hl k) k
  case aload n => exact vm_la_ok hs (fun _ _ _ _ _ hl k => lv_aload hx hb hd hl k) k
  case istore_n n => exact vm_si_ok hs (fun _ _ _ _ _ _ _ h hn kk => lv_istore_n hx hb hd rfl h hn rfl kk) k
  case istore n => exact vm_si_ok hs (fun _ _ _ _ _ _ _ h hn kk => lv_istore hx hb hd h hn rfl kk) k
  case lstore_n n => exact vm_sl_ok hs (fun _ _ _ _ _ _ _ h hn kk => lv_lstore_n hx hb hd rfl h hn rfl kk) k
  case lstore n => exact vm_sl_ok hs (fun _ _ _ _ _ _ _ h hn kk => lv_lstore hx hb hd h hn rfl kk) k
  case astore_n n => exact vm_sa_ok hs (fun _ _ _ _ _ _ _ h hn kk => lv_astore_n hx hb hd rfl h hn rfl kk) k
  case astore n => exact vm_sa_ok hs (fun _ _ _ _ _ _ _ h hn kk => lv_astore hx hb hd h hn rfl kk) k
  case iadd => exact vm_ii_ok hs (fun _ _ _ _ _ _ k => lv_iadd hx hb hd k) k
  case isub => exact vm_ii_ok hs (fun _ _ _ _ _ _ k => lv_isub hx hb hd k) k
  case imul => exact vm_ii_ok hs (fun _ _ _ _ _ _ k => lv_imul hx hb hd k) k
  case iand => exact vm_ii_ok hs (fun _ _ _ _ _ _ k => lv_iand hx hb hd k) k
  case ior => exact vm_ii_ok hs (fun _ _ _ _ _ _ k => lv_ior hx hb hd k) k
  case ixor => exact vm_ii_ok hs (fun _ _ _ _ _ _ k => lv_ixor hx hb hd k) k
  case ishl => exact vm_ii_ok hs (fun _ _ _ _ _ _ k => lv_ishl hx hb hd k) k
  case ishr => exact vm_ii_ok hs (fun _ _ _ _ _ _ k => lv_ishr hx hb hd k) k
  case iushr => exact vm_ii_ok hs (fun _ _ _ _ _ _ k => lv_iushr hx hb hd rfl k) k
  case idiv => exact vm_iq_ok hs hg (fun _ _ _ _ _ _ hy k => lv_idiv hx hb hd hy k) k
  case irem => exact vm_iq_ok hs hg (fun _ _ _ _ _ _ hy k => lv_irem hx hb hd hy k) k
  case ineg => exact vm_1i_ok (fun _ => rfl) hs (fun _ _ _ _ _ k => lv_ineg hx hb hd k) k
  case i2l => exact vm_1i_ok (fun _ => rfl) hs (fun _ _ _ _ _ k => lv_i2l hx hb hd rfl k) k
  case i2b => exact vm_1i_ok (fun _ => rfl) hs (fun _ _ _ _ _ k => lv_i2b hx hb hd rfl k) k
  case l2i => exact vm_1j_ok (fun _ => rfl) hs (fun _ _ _ _ _ k => lv_l2i hx hb hd rfl k) k
  case ladd => exact vm_jj_ok hs (fun _ _ _ _ _ _ k => lv_ladd hx hb hd k) k
  case lsub => exact vm_jj_ok hs (fun _ _ _ _ _ _ k => lv_lsub hx hb hd k) k
  case lmul => exact vm_jj_ok hs (fun _ _ _ _ _ _ k => lv_lmul hx hb hd k) k
  case land => exact vm_jj_ok hs (fun _ _ _ _ _ _ k => lv_land hx hb hd k) k
  case lor => exact vm_jj_ok hs (fun _ _ _ _ _ _ k => lv_lor hx hb hd k) k
  case ldiv => exact vm_jq_ok hs hg (fun _ _ _ _ _ _ hy k => lv_ldiv hx hb hd hy k) k
  case lrem => exact vm_jq_ok hs hg (fun _ _ _ _ _ _ hy k => lv_lrem hx hb hd hy k) k
  case lshl => exact vm_ji_ok hs (fun _ _ _ _ _ _ k => lv_lshl hx hb hd rfl k) k
  case lshr => exact vm_ji_ok hs (fun _ _ _ _ _ _ k => lv_lshr hx hb hd rfl k) k
  case lushr => exact vm_ji_ok hs (fun _ _ _ _ _ _ k => lv_lushr hx hb hd rfl k) k
  case lcmp => exact vm_lcmp_ok C hd hs k
  case dup => exact vm_dup_ok C hd hs k
  case pop => exact vm_pop_ok C hd hs k
  case baload => exact vm_bald_ok C hd hs hg k
  case iaload => exact vm_iald_ok C hd hs hg k
  case laload => exact vm_lald_ok C hd hs hg k
  case bastore => exact vm_bast_ok C hd hs hg k
  case iastore => exact vm_iast_ok C hd hs hg k
  case lastore => exact vm_last_ok C hd hs hg k
  case arraylength => exact vm_alen_ok C hd hs k
theorem vm_const (C : vm_C M p R s m args meth c D ad tc A) {raw : Instr} {len pl : Nat} {v : Value} (hd : decode M.2.2.1 pc = .ok (raw, len)) (hk : vm_okc M raw len v pl = true) (k : vm_W p l e R s m args below meth c cells slots Q D ad tc A (pc + len) (S.1, v :: S.2.1, S.2.2)) : vm_W p l e R s m args below meth c cells slots Q D ad tc A pc S := by
  obtain ⟨hx, hb, hml, hown, hts, hK, hA, hN, hlk, hnm, hR, hT⟩ := C
  unfold vm_okc at hk
  split at hk
  · simp only [Bool.and_eq_true, decide_eq_true_eq] at hk
    obtain ⟨h1, h2⟩ := hk
    have h2 := Nat.eq_of_beq_eq_true h2
    subst h2
    intro H locs ls g1 g2 g3 g4
    exact lv_iconst hx hb hd h1 (k H locs ls g1 g2 g3 g4)
  · simp only [Bool.and_eq_true, decide_eq_true_eq] at hk
    obtain ⟨h1, h2⟩ := hk
    have h2 := Nat.eq_of_beq_eq_true h2
    subst h2
    intro H locs ls g1 g2 g3 g4
    exact lv_bipush hx hb hd h1 (k H locs ls g1 g2 g3 g4)
  · simp only [Bool.and_eq_true, decide_eq_true_eq] at hk
    obtain ⟨h1, h2⟩ := hk
    have h2 := Nat.eq_of_beq_eq_true h2
    subst h2
    intro H locs ls g1 g2 g3 g4
    exact lv_sipush hx hb hd h1 (k H locs ls g1 g2 g3 g4)
  · simp only [Bool.and_eq_true, decide_eq_true_eq] at hk
    obtain ⟨h1, h2⟩ := hk
    have h2 := Nat.eq_of_beq_eq_true h2
    subst h2
    intro H locs ls g1 g2 g3 g4
    exact lv_lconst hx hb hd h1 (k H locs ls g1 g2 g3 g4)
  · simp only [Bool.and_eq_true] at hk
    obtain ⟨h1, h2⟩ := hk
    have h2 := Nat.eq_of_beq_eq_true h2
    subst h2
    intro H locs ls g1 g2 g3 g4
    exact lv_ldc2 hx hb hown (hts _ (vm_at_in h1)) hd (k H locs ls g1 g2 g3 g4)
  · cases hk
theorem vm_fld (C : vm_C M p R s m args meth c D ad tc A) {raw : Instr} {len op pl idx ci k : Nat} (hd : decode M.2.2.1 pc = .ok (raw, len)) (hk : vm_okf M raw len op pl idx ci k = true) (hs : vm_x1 (.inr (.inr (.inl (op, pl, idx, ci, k)))) S = some (g, S')) (kk : vm_W p l e R s m args below meth c cells slots Q D ad tc A (pc + len) S') : vm_W p l e R s m args below meth c cells slots Q D ad tc A pc S := by
  have C' := C
  obtain ⟨hx, hb, hml, hown, hts, hK, hA, hN, hlk, hnm, hR, hT⟩ := C'
  unfold vm_okf at hk
  split at hk
  · rename_i Cn T N hcl
    simp only [Bool.and_eq_true] at hk
    obtain ⟨h1, h2, h3⟩ := hk
    have h1 := Nat.eq_of_beq_eq_true h1
    have h2 : k < N := Nat.le_of_ble_eq_true h2
    subst h1
    split at h3
    · simp only [Bool.and_eq_true, decide_eq_true_eq] at h3
      obtain ⟨h4, h5⟩ := h3
      subst h4
      exact vm_gf_ok C hcl h2 (vm_at_in h5) hd hs kk
    · simp only [Bool.and_eq_true, decide_eq_true_eq, Bool.not_eq_true'] at h3
      obtain ⟨h4, h5, h6⟩ := h3
      subst h4
      exact vm_pf_ok C hcl h2 (vm_at_in h5) h6 hd hs kk
    · simp only [Bool.and_eq_true, decide_eq_true_eq] at h3
      obtain ⟨h4, h5⟩ := h3
      subst h4
      rw [vm_g_eq] at h5
      exact vm_gfN_ok C hcl h2 (List.mem_of_getElem? h5) hd hs kk
    · simp only [Bool.and_eq_true, decide_eq_true_eq] at h3
      obtain ⟨h4, h5, h6, h7, h8⟩ := h3
      subst h4
      exact vm_pfF_ok C hcl h2 (vm_at_in h5) h6 h7 h8 hd hs kk
    · simp only [Bool.and_eq_true, decide_eq_true_eq] at h3
      obtain ⟨h4, h5⟩ := h3
      subst h4
      have hs2 : some (True, S.1, Value.ref 1000000 :: S.2.1, S.2.2) = some (g, S') := hs
      cases hs2
      intro H locs ls g1 g2 g3 g4
      exact va_gets hx hb hT.1 g4 hown (hts _ (vm_at_in h5)) (fun _ h9 => h9) hd (kk H locs ls g1 g2 g3 g4)
    · cases h3
  · cases hk
theorem vm_one (C : vm_C M p R s m args meth c D ad tc A) {raw : Instr} {len : Nat} {i : vm_I} (hd : decode M.2.2.1 pc = .ok (raw, len)) (hk : vm_okI M raw len i = true) (hs : vm_x1 i S = some (g, S')) (hg : g) (k : vm_W p l e R s m args below meth c cells slots Q D ad tc A (pc + len) S') : vm_W p l e R s m args below meth c cells slots Q D ad tc A pc S := by
  match i, hk, hs with
  | .inl j, hk, hs =>
    simp only [vm_okI, Bool.and_eq_true, decide_eq_true_eq] at hk
    obtain ⟨h1, h2⟩ := hk
    have h2 := Nat.eq_of_beq_eq_true h2
    subst h1
    subst h2
    exact vm_plain C _ hd hs hg k
  | .inr (.inl (v, pl)), hk, hs =>
    have hs2 : some (True, S.1, v :: S.2.1, S.2.2) = some (g, S') := hs
    cases hs2
    exact vm_const C hd hk k
  | .inr (.inr (.inl (op, pl, idx, ci, kf))), hk, hs => exact vm_fld C hd hk hs k
  | .inr (.inr (.inr (n, cc))), hk, hs =>
    obtain ⟨hx, hb, hml, hown, hts, hK, hA, hN, hlk, hnm, hR, hT⟩ := C
    simp only [vm_okI] at hk
    split at hk
    · simp only [Bool.and_eq_true, decide_eq_true_eq] at hk
      obtain ⟨h1, h2, h3⟩ := hk
      have h1 := Nat.eq_of_beq_eq_true h1
      have h3 := Nat.eq_of_beq_eq_true h3
      subst h1
      subst h3
      subst h2
      exact vm_inc_ok hs (fun _ _ _ _ _ _ _ _ h hj hn kk => lv_iinc hx hb hd h hj rfl hn rfl kk) k
    · cases hk
theorem vm_blk (C : vm_C M p R s m args meth c D ad tc A) : ∀ (is : List vm_I) (pc : Nat) (S : vm_S) (gs : List Prop), vm_chk M pc is = some pc' → vm_x is S = some (gs, S') → vm_all gs → vm_W p l e R s m args below meth c cells slots Q D ad tc A pc' S' → vm_W p l e R s m args below meth c cells slots Q D ad tc A pc S
  | [], pc, S, gs, h1, h2, h3, k => by
    cases h1
    cases h2
    exact k
  | i :: is, pc, S, gs, h1, h2, h3, k => by
    unfold vm_chk at h1
    split at h1
    · rename_i raw len hd
      cases hok : vm_okI M raw len i with
      | false => rw [hok] at h1; cases h1
      | true =>
        rw [hok] at h1
        unfold vm_x at h2
        split at h2
        · rename_i g S1 hs
          split at h2
          · rename_i gs1 S2 hs1
            cases h2
            exact vm_one C hd hok hs h3.1 (vm_blk C is (pc + len) S1 gs1 h1 hs1 h3.2 k)
          · cases h2
        · cases h2
    · cases h1
end VM5
end
section
/-! a run from a place on, to the method's end; its rules -/
def vm_ag (n : Nat) (ad ad' : Nat → Nat) : Prop := ∀ i, i < n ∨ 1000000 ≤ i → ad' i = ad i
def vm_dec (M : vm_M) (pc : Nat) (i : Instr) (len : Nat) : Bool := match decode M.2.2.1 pc with
  | .ok (raw, len') => decide (raw = i) && Nat.beq len' len
  | .error _ => false
theorem vm_dec_ok {M : vm_M} {pc : Nat} {i : Instr} {len : Nat} (h : vm_dec M pc i len = true) : decode M.2.2.1 pc = .ok (i, len) := by
  unfold vm_dec at h
  split at h
  · rename_i raw len' hd
    simp only [Bool.and_eq_true, decide_eq_true_eq] at h
    have h2 := Nat.eq_of_beq_eq_true h.2
    rw [hd, h.1, h2]
  · cases h
def vm_rt (M : vm_M) (pc : Nat) (r : Option Value) : Prop := match r with
  | none => vm_dec M pc .return_ 1 = true ∧ M.2.2.2.2.1 = none
  | some (.int v) => vm_dec M pc .ireturn 1 = true ∧ ∃ ty, M.2.2.2.2.1 = some ty ∧ narrow ty (.int v) = .int v
  | some (.long _) => vm_dec M pc .lreturn 1 = true ∧ M.2.2.2.2.1 = some .long
  | _ => False
def Run (M : vm_M) (n bc bs pc : Nat) (S : vm_S) (post : Option Value → List va_E → Prop) : Prop :=
  ∀ (p : Program) (l : Launch) (e : Env) (R : Room) (s : State) (m : MethodId) (args : Array Value) (below : List Frame) (meth : Method) (c : Code) (cells slots : Nat) (Q : State → Prop) (D : va_G) (ad tc : Nat → Nat) (A : Nat → Prop),
    vm_C M p R s m args meth c D ad tc A → cells + bc ≤ R.cells → slots + bs ≤ R.slots →
    (∀ (r : Option Value) (cs' : List va_E) (ad' : Nat → Nat) (cells' slots' : Nat), post r cs' → vm_ag n ad ad' → (bc = 0 → ad' = ad) → cells' ≤ cells + bc → slots' ≤ slots + bs → ∀ (pc' : Nat) (lv' : List (Option Value)), vm_rt M pc' r → vm_W p l e R s m args below meth c cells' slots' Q D ad' tc A pc' (lv', r.toList, cs')) →
    vm_W p l e R s m args below meth c cells slots Q D ad tc A pc S
/-- the answer and the cells -/
def vm_is (r : Option Value) (cs : List va_E) : Option Value → List va_E → Prop := fun r' cs' => r' = r ∧ cs' = cs
section VM6
variable {M : vm_M} {n bc bs pc pc' tgt : Nat} {S S' : vm_S} {post : Option Value → List va_E → Prop} {lv : List (Option Value)} {st : List Value} {cs : List va_E}
theorem Run.blk (is : List vm_I) {gs : List Prop} (h1 : vm_chk M pc is = some pc') (h2 : vm_x is S = some (gs, S')) (h3 : vm_all gs) (k : Run M n bc bs pc' S' post) : Run M n bc bs pc S post :=
  fun _ _ _ _ _ _ _ _ _ _ _ _ _ _ _ _ _ C hc hs hq => vm_blk C is pc S gs h1 h2 h3 (k _ _ _ _ _ _ _ _ _ _ _ _ _ _ _ _ _ C hc hs hq)
theorem Run.ret {r : Option Value} (h : vm_rt M pc r) (hp : post r cs) : Run M n bc bs pc (lv, r.toList, cs) post :=
  fun _ _ _ _ _ _ _ _ _ _ cells slots _ _ ad _ _ _ _ _ hq => hq r cs ad cells slots hp (fun _ _ => rfl) (fun _ => rfl) (Nat.le_add_right _ _) (Nat.le_add_right _ _) pc lv h
theorem Run.weaken {post' : Option Value → List va_E → Prop} (k : Run M n bc bs pc S post) (h : ∀ r cs, post r cs → post' r cs) : Run M n bc bs pc S post' :=
  fun _ _ _ _ _ _ _ _ _ _ _ _ _ _ _ _ _ C hc hs hq => k _ _ _ _ _ _ _ _ _ _ _ _ _ _ _ _ _ C hc hs (fun r cs' ad' cells' slots' hp => hq r cs' ad' cells' slots' (h r cs' hp))
theorem Run.goto {off : Int} (hd : vm_dec M pc (.goto off) 3 = true) (ht : (pc : Int) + off = (tgt : Int)) (k : Run M n bc bs tgt S post) : Run M n bc bs pc S post :=
  fun _ _ _ _ _ _ _ _ _ _ _ _ _ _ _ _ _ C hc hs hq => by
    have k2 := k _ _ _ _ _ _ _ _ _ _ _ _ _ _ _ _ _ C hc hs hq
    obtain ⟨hx, hb, -⟩ := C
    intro H locs ls h1 h2 h3 h4
    exact lv_goto hx hb (vm_dec_ok hd) ht (k2 H locs ls h1 h2 h3 h4)
def vm_b (i : Instr) (st : List Value) : Option (Prop × List Value × Int) := match i, st with
  | .if_icmp .eq o, .int y :: .int x :: st => some (x = y, st, o)
  | .if_icmp .ne o, .int y :: .int x :: st => some (¬ x = y, st, o)
  | .if_icmp .lt o, .int y :: .int x :: st => some (x < y, st, o)
  | .if_icmp .ge o, .int y :: .int x :: st => some (y ≤ x, st, o)
  | .if_icmp .gt o, .int y :: .int x :: st => some (y < x, st, o)
  | .if_icmp .le o, .int y :: .int x :: st => some (x ≤ y, st, o)
  | .ifCond .eq o, .int x :: st => some (x = 0, st, o)
  | .ifCond .ne o, .int x :: st => some (¬ x = 0, st, o)
  | .ifCond .lt o, .int x :: st => some (x < 0, st, o)
  | .ifCond .ge o, .int x :: st => some (0 ≤ x, st, o)
  | .ifCond .gt o, .int x :: st => some (0 < x, st, o)
  | .ifCond .le o, .int x :: st => some (x ≤ 0, st, o)
  | _, _ => none
theorem Run.br {i : Instr} {Cd : Prop} {st' : List Value} {off : Int} (hd : vm_dec M pc i 3 = true) (hb : vm_b i st = some (Cd, st', off)) (ht : (pc : Int) + off = (tgt : Int)) (kt : Cd → Run M n bc bs tgt (lv, st', cs) post) (kf : ¬ Cd → Run M n bc bs (pc + 3) (lv, st', cs) post) : Run M n bc bs pc (lv, st, cs) post := by
  intro p l e R s m args below meth c cells slots Q D ad tc A C hc hs hq
  have hdd := vm_dec_ok hd
  have hx := C.1
  have hbc := C.2.1
  have kt2 := fun h => kt h p l e R s m args below meth c cells slots Q D ad tc A C hc hs hq
  have kf2 := fun h => kf h p l e R s m args below meth c cells slots Q D ad tc A C hc hs hq
  unfold vm_b at hb
  split at hb
  · cases hb
    intro H locs ls h1 h2 h3 h4
    exact lv_icmp_eq hx hbc hdd ht (fun h => kt2 h H locs ls h1 h2 h3 h4) (fun h => kf2 h H locs ls h1 h2 h3 h4)
  · cases hb
    intro H locs ls h1 h2 h3 h4
    exact lv_icmp_ne hx hbc hdd ht (fun h => kt2 h H locs ls h1 h2 h3 h4) (fun h => kf2 (fun z => z h) H locs ls h1 h2 h3 h4)
  · cases hb
    intro H locs ls h1 h2 h3 h4
    exact lv_icmp_lt hx hbc hdd ht (fun h => kt2 h H locs ls h1 h2 h3 h4) (fun h => kf2 h H locs ls h1 h2 h3 h4)
  · cases hb
    intro H locs ls h1 h2 h3 h4
    exact lv_icmp_ge hx hbc hdd ht (fun h => kt2 h H locs ls h1 h2 h3 h4) (fun h => kf2 h H locs ls h1 h2 h3 h4)
  · cases hb
    intro H locs ls h1 h2 h3 h4
    exact lv_icmp_gt hx hbc hdd ht (fun h => kt2 h H locs ls h1 h2 h3 h4) (fun h => kf2 h H locs ls h1 h2 h3 h4)
  · cases hb
    intro H locs ls h1 h2 h3 h4
    exact lv_icmp_le hx hbc hdd ht (fun h => kt2 h H locs ls h1 h2 h3 h4) (fun h => kf2 h H locs ls h1 h2 h3 h4)
  · cases hb
    intro H locs ls h1 h2 h3 h4
    exact lv_if_eq hx hbc hdd ht (fun h => kt2 h H locs ls h1 h2 h3 h4) (fun h => kf2 h H locs ls h1 h2 h3 h4)
  · cases hb
    intro H locs ls h1 h2 h3 h4
    exact lv_if_ne hx hbc hdd ht (fun h => kt2 h H locs ls h1 h2 h3 h4) (fun h => kf2 (fun z => z h) H locs ls h1 h2 h3 h4)
  · cases hb
    intro H locs ls h1 h2 h3 h4
    exact lv_if_lt hx hbc hdd ht (fun h => kt2 h H locs ls h1 h2 h3 h4) (fun h => kf2 h H locs ls h1 h2 h3 h4)
  · cases hb
    intro H locs ls h1 h2 h3 h4
    exact lv_if_ge hx hbc hdd ht (fun h => kt2 h H locs ls h1 h2 h3 h4) (fun h => kf2 h H locs ls h1 h2 h3 h4)
  · cases hb
    intro H locs ls h1 h2 h3 h4
    exact lv_if_gt hx hbc hdd ht (fun h => kt2 h H locs ls h1 h2 h3 h4) (fun h => kf2 h H locs ls h1 h2 h3 h4)
  · cases hb
    intro H locs ls h1 h2 h3 h4
    exact lv_if_le hx hbc hdd ht (fun h => kt2 h H locs ls h1 h2 h3 h4) (fun h => kf2 h H locs ls h1 h2 h3 h4)
  · cases hb
/-- lcmp and the branch behind it -/
def vm_bl (i : Instr) (x y : Int64) : Option (Prop × Int) := match i with
  | .ifCond .eq o => some (x = y, o)
  | .ifCond .ne o => some (¬ x = y, o)
  | .ifCond .lt o => some (x < y, o)
  | .ifCond .ge o => some (y ≤ x, o)
  | .ifCond .gt o => some (y < x, o)
  | .ifCond .le o => some (x ≤ y, o)
  | _ => none
theorem Run.brl {i : Instr} {Cd : Prop} {off : Int} {x y : Int64} (h0 : vm_dec M pc .lcmp 1 = true) (hd : vm_dec M (pc + 1) i 3 = true) (hb : vm_bl i x y = some (Cd, off)) (ht : ((pc + 1 : Nat) : Int) + off = (tgt : Int)) (kt : Cd → Run M n bc bs tgt (lv, st, cs) post) (kf : ¬ Cd → Run M n bc bs (pc + 4) (lv, st, cs) post) : Run M n bc bs pc (lv, .long y :: .long x :: st, cs) post := by
  refine Run.blk (pc' := pc + 1) (S' := (lv, .int (lg_cmp x y) :: st, cs)) (gs := [True]) [.inl .lcmp] ?_ rfl ⟨trivial, trivial⟩ ?_
  · have hdd := vm_dec_ok h0
    simp only [vm_chk, hdd, vm_okI]
    rfl
  · unfold vm_bl at hb
    split at hb
    · cases hb
      exact Run.br hd rfl ht (fun h => kt ((lg_cmp_eq x y).mp h)) (fun h => kf (fun z => h ((lg_cmp_eq x y).mpr z)))
    · cases hb
      exact Run.br hd rfl ht (fun h => kt (fun z => h ((lg_cmp_eq x y).mpr z))) (fun h => kf (fun z => h (fun w => z ((lg_cmp_eq x y).mp w))))
    · cases hb
      exact Run.br hd rfl ht (fun h => kt ((lg_cmp_lt x y).mp h)) (fun h => kf (fun z => h ((lg_cmp_lt x y).mpr z)))
    · cases hb
      exact Run.br hd rfl ht (fun h => kt ((lg_cmp_ge x y).mp h)) (fun h => kf (fun z => h ((lg_cmp_ge x y).mpr z)))
    · cases hb
      exact Run.br hd rfl ht (fun h => kt ((lg_cmp_gt x y).mp h)) (fun h => kf (fun z => h ((lg_cmp_gt x y).mpr z)))
    · cases hb
      exact Run.br hd rfl ht (fun h => kt ((lg_cmp_le x y).mp h)) (fun h => kf (fun z => h ((lg_cmp_le x y).mpr z)))
    · cases hb
theorem Run.tsOut {dflt lo hi : Int} {offs : Array Int} {len : Nat} {x : Int32} (hd : vm_dec M pc (.tableswitch dflt lo hi offs) len = true) (h : x.toInt < lo ∨ hi < x.toInt) (ht : (pc : Int) + dflt = (tgt : Int)) (k : Run M n bc bs tgt (lv, st, cs) post) : Run M n bc bs pc (lv, .int x :: st, cs) post :=
  fun _ _ _ _ _ _ _ _ _ _ _ _ _ _ _ _ _ C hc hs hq => by
    have k2 := k _ _ _ _ _ _ _ _ _ _ _ _ _ _ _ _ _ C hc hs hq
    obtain ⟨hx, hb, -⟩ := C
    intro H locs ls h1 h2 h3 h4
    exact lv_tableOut hx hb (vm_dec_ok hd) h ht (k2 H locs ls h1 h2 h3 h4)
theorem Run.tsIn {dflt lo hi : Int} {offs : Array Int} {len : Nat} {x : Int32} {off : Int} (hd : vm_dec M pc (.tableswitch dflt lo hi offs) len = true) (h1 : ¬ x.toInt < lo) (h2 : ¬ hi < x.toInt) (ho : offs[(x.toInt - lo).toNat]? = some off) (ht : (pc : Int) + off = (tgt : Int)) (k : Run M n bc bs tgt (lv, st, cs) post) : Run M n bc bs pc (lv, .int x :: st, cs) post :=
  fun _ _ _ _ _ _ _ _ _ _ _ _ _ _ _ _ _ C hc hs hq => by
    have k2 := k _ _ _ _ _ _ _ _ _ _ _ _ _ _ _ _ _ C hc hs hq
    obtain ⟨hx, hb, -⟩ := C
    intro H locs ls g1 g2 g3 g4
    exact lv_tableIn hx hb (vm_dec_ok hd) h1 h2 ho ht (k2 H locs ls g1 g2 g3 g4)
theorem Run.aald {i : Int32} {a t q N : Nat} {f : Nat → Option Nat} {Cn : String} (hd : vm_dec M pc .aaload 1 = true) (hc : vm_g cs a = some (.inl (t, N, .inr (.inr (.inr (.inr f)))))) (ht : vm_g G_ty t = some (.object Cn)) (hin : vp_in i N) (hf : f i.toNatClampNeg = some q) (k : Run M n bc bs (pc + 1) (lv, .ref q :: st, cs) post) : Run M n bc bs pc (lv, .int i :: .ref a :: st, cs) post :=
  fun _ _ _ _ _ _ _ _ _ _ _ _ _ _ _ _ _ C hcc hs hq => by
    have k2 := k _ _ _ _ _ _ _ _ _ _ _ _ _ _ _ _ _ C hcc hs hq
    obtain ⟨hx, hb, hml, hown, hts, hK, hA, hN, hlk, hnm, hR, hT⟩ := C
    intro H locs ls g1 g2 g3 g4
    refine va_aldq hx hb hK g2 a t (vm_w_at hc) (vm_tys_at ht) hin (vm_dec_ok hd) ?_
    rw [hf]
    exact k2 H locs ls g1 g2 g3 g4
theorem vm_x_gf {ci k a pl idx op : Nat} {fs : List Value} {v : Value} (ho : op = 0 ∨ op = 2) (hc : vm_g cs a = some (.inr (ci, fs))) (hv : vm_g fs k = some v) : vm_x [.inr (.inr (.inl (op, pl, idx, ci, k)))] (lv, .ref a :: st, cs) = some ([True], lv, v :: st, cs) := by
  have hb : Nat.beq ci ci = true := Nat.beq_refl ci
  rcases ho with rfl | rfl <;> simp [vm_x, vm_x1, vm_gf, hc, hv, hb]
theorem vm_x_pf {ci k a pl idx : Nat} {fs : List Value} {v : Value} (hc : vm_g cs a = some (.inr (ci, fs))) (hk : Nat.blt k fs.length = true) (hv : vm_fit (G_ft ci k) v = true) : vm_x [.inr (.inr (.inl (1, pl, idx, ci, k)))] (lv, v :: .ref a :: st, cs) = some ([True], lv, st, vm_u cs a (.inr (ci, vm_u fs k v))) := by
  have hb : Nat.beq ci ci = true := Nat.beq_refl ci
  simp [vm_x, vm_x1, vm_pf, hc, hk, hv, hb]
end VM6
end
section
/-! contracts of methods, and calls -/
def vm_ws (M : vm_M) : List Jvm.Cond := Jvm.Cond.code M.2.1 M.2.2.1 M.2.2.2.1 M.2.2.2.2.1 :: G_big
def vm_rm (M : vm_M) (bc bs : Nat) : Room := { frames := M.2.2.2.2.2.1, cells := bc, slots := bs, locals := M.2.2.2.2.2.2 }
def vm_Pc (D : va_G) (ad tc : Nat → Nat) (av : List Value) (cs : List va_E) (sz : Nat) : Array Value → State → Prop :=
  va_Pc (av.map (vm_v ad)) (fun U => U.heap.size = sz ∧ va_P D vwCl (vm_w ad tc 0 cs) U.heap ∧ va_K D vwCl (vm_tys tc) U ∧ va_D (fun _ => True) (vm_w ad tc 0 cs) ∧ (∀ w ∈ G_nest, va_Nw w U) ∧ vm_T ad (va_A (vm_w ad tc 0 cs) sz) U U.heap)
def vm_Qc (D : va_G) (ad tc : Nat → Nat) (cs : List va_E) (bc : Nat) (post : Option Value → List va_E → Prop) (sz : Nat) : Array Value → State → Outcome → State → Prop :=
  fun _ st oc t => (∃ (r : Option Value) (cs' : List va_E) (ad' : Nat → Nat), oc = .returned (r.map (vm_v ad')) ∧ post r cs' ∧ vm_ag cs.length ad ad' ∧ (bc = 0 → ad' = ad) ∧ va_P D vwCl (vm_w ad' tc 0 cs') t.heap ∧ va_K D vwCl (vm_tys tc) t ∧ va_D (va_A (vm_w ad tc 0 cs) sz) (vm_w ad' tc 0 cs')) ∧ va_F (va_A (vm_w ad tc 0 cs) sz) st t
def Ct (M : vm_M) (bc bs : Nat) (av : List Value) (cs : List va_E) (post : Option Value → List va_E → Prop) : Prop :=
  ∀ (l : Launch) (D : va_G) (ad tc : Nat → Nat) (sz : Nat), Met l M.2.1 (vm_ws M) (vm_rm M bc bs) (vm_Pc D ad tc av cs sz) (vm_Qc D ad tc cs bc post sz) bc bs (va_A (vm_w ad tc 0 cs) sz)
/-- the locals at the entry -/
def vm_e1 : List Value → List (Option Value)
  | [] => []
  | .long x :: vs => some (.long x) :: none :: vm_e1 vs
  | .double x :: vs => some (.double x) :: none :: vm_e1 vs
  | v :: vs => some v :: vm_e1 vs
def vm_en (n : Nat) (av : List Value) : List (Option Value) := vm_e1 av ++ List.replicate (n - (vm_e1 av).length) none
theorem vm_as_none (ad : Nat → Nat) : ∀ (k i : Nat), vm_as ad i (List.replicate k none) = []
  | 0, i => rfl
  | k + 1, i => by rw [List.replicate_succ, vm_as]; exact vm_as_none ad k (i + 1)
theorem vm_en_as (ad : Nat → Nat) (k : Nat) : ∀ (av : List Value) (i : Nat), vm_as ad i (vm_e1 av ++ List.replicate k none) = lv_args i (av.map (vm_v ad))
  | [], i => vm_as_none ad k i
  | .long x :: vs, i => by
    show (i, Value.long x) :: vm_as ad (i + 2) (vm_e1 vs ++ List.replicate k none) = (i, Value.long x) :: lv_args (i + 2) (vs.map (vm_v ad))
    rw [vm_en_as ad k vs (i + 2)]
  | .double x :: vs, i => by
    show (i, Value.double x) :: vm_as ad (i + 2) (vm_e1 vs ++ List.replicate k none) = (i, Value.double x) :: lv_args (i + 2) (vs.map (vm_v ad))
    rw [vm_en_as ad k vs (i + 2)]
  | .int x :: vs, i => by
    show (i, Value.int x) :: vm_as ad (i + 1) (vm_e1 vs ++ List.replicate k none) = (i, Value.int x) :: lv_args (i + 1) (vs.map (vm_v ad))
    rw [vm_en_as ad k vs (i + 1)]
  | .float x :: vs, i => by
    show (i, Value.float x) :: vm_as ad (i + 1) (vm_e1 vs ++ List.replicate k none) = (i, Value.float x) :: lv_args (i + 1) (vs.map (vm_v ad))
    rw [vm_en_as ad k vs (i + 1)]
  | .null :: vs, i => by
    show (i, Value.null) :: vm_as ad (i + 1) (vm_e1 vs ++ List.replicate k none) = (i, Value.null) :: lv_args (i + 1) (vs.map (vm_v ad))
    rw [vm_en_as ad k vs (i + 1)]
  | .ref x :: vs, i => by
    show (i, Value.ref (ad x)) :: vm_as ad (i + 1) (vm_e1 vs ++ List.replicate k none) = (i, Value.ref (ad x)) :: lv_args (i + 1) (vs.map (vm_v ad))
    rw [vm_en_as ad k vs (i + 1)]
  | .retAddr x :: vs, i => by
    show (i, Value.retAddr x) :: vm_as ad (i + 1) (vm_e1 vs ++ List.replicate k none) = (i, Value.retAddr x) :: lv_args (i + 1) (vs.map (vm_v ad))
    rw [vm_en_as ad k vs (i + 1)]
theorem vm_en_len (ad : Nat → Nat) : ∀ (av : List Value), (vm_e1 av).length = (lg_sl (av.map (vm_v ad))).length
  | [] => rfl
  | .long x :: vs => by simp [vm_e1, lg_sl, vm_v, Value.category, vm_en_len ad vs]
  | .double x :: vs => by simp [vm_e1, lg_sl, vm_v, Value.category, vm_en_len ad vs]
  | .int x :: vs => by simp [vm_e1, lg_sl, vm_v, Value.category, vm_en_len ad vs]
  | .float x :: vs => by simp [vm_e1, lg_sl, vm_v, Value.category, vm_en_len ad vs]
  | .null :: vs => by simp [vm_e1, lg_sl, vm_v, Value.category, vm_en_len ad vs]
  | .ref x :: vs => by simp [vm_e1, lg_sl, vm_v, Value.category, vm_en_len ad vs]
  | .retAddr x :: vs => by simp [vm_e1, lg_sl, vm_v, Value.category, vm_en_len ad vs]
theorem Ct.of {M : vm_M} {bc bs : Nat} {av : List Value} {cs : List va_E} {post : Option Value → List va_E → Prop} {lv : List (Option Value)} (hy : plainName M.2.1.cls = true ∧ M.2.1.cls = M.1) (hle : (vm_e1 av).length ≤ M.2.2.2.1) (hlv : vm_en M.2.2.2.1 av = lv) (k : Run M cs.length bc bs 0 (lv, [], cs) post) : Ct M bc bs av cs post := by
  intro l D ad tc sz
  refine Met.ofW (cc := M.2.2.1) (maxL := M.2.2.2.1) (ret := M.2.2.2.2.1) hy.1 rfl ?_
  intro p e s m args below meth c s₁ B hml hv
  obtain ⟨rfl, hsz, hP, hK, hD0, hN, hT⟩ := hv
  have hx := B.exec
  have hb := B.bytes
  have hr := B.returns
  have hts := atoms_spec (ws := vm_ws M) B.pre
  have hown : s.vm.findClass M.1 = some m.cls := by rw [← hy.2]; exact findClass_of_methodNamed B.named
  have hlocks := B.notSynchronized
  have hnm : meth.name = M.2.1.name := (name_of_methodNamed B.named B.method).1
  subst hsz
  have hD := hD0.self (sz := s.heap.size)
  have hl := lv_entry (av.map (vm_v ad)) (n := M.2.2.2.1) (by rw [← vm_en_len]; exact hle)
  rw [lg_entry_eq]
  generalize (lg_sl (av.map (vm_v ad)) ++ List.replicate (M.2.2.2.1 - (lg_sl (av.map (vm_v ad))).length) Slot.unset).toArray = ls at hl ⊢
  have hl2 : vm_l ad ls lv := by
    rw [← hlv]
    unfold vm_l vm_en
    rw [vm_en_as]
    have : (vm_e1 av ++ List.replicate (M.2.2.2.1 - (vm_e1 av).length) none).length = M.2.2.2.1 := by simp; omega
    rw [this]
    exact hl
  refine k p l e (vm_rm M bc bs) s m _ below meth c 0 0 _ D ad tc (va_A (vm_w ad tc 0 cs) s.heap.size) ⟨hx, hb, hml, hown, fun w hw => hts w (List.mem_cons_of_mem _ hw), hK, fun q h => Or.inr h, hN, hlocks, hnm, ⟨Nat.le_refl _, Nat.le_refl _⟩, hT⟩ (by show 0 + bc ≤ bc; omega) (by show 0 + bs ≤ bs; omega) ?_ s.heap [] ls hl2 hP hD va_S.rf
  intro r cs' ad' cells' slots' hp hag h0 hc' hs' pc' lv' hrt H locs ls h1 h2 h3 h4
  refine W.widen (k := bc) (n := bs) (by omega) (by omega) ?_
  match r, hp, hrt with
  | none, hp, hrt => exact W.vret hx hb (hr.trans hrt.2) (fun t ht hW => ⟨⟨none, cs', ad', rfl, hp, hag, h0, by rw [ht]; exact h2, va_K.moved hW.alike hK, h3⟩, h4.F ht⟩) h4.2.2 (vm_dec_ok hrt.1)
  | some (.int v), hp, hrt =>
    obtain ⟨h5, ty, h6, h7⟩ := hrt
    exact W.zret hx hb (hr.trans h6) h7 (fun t ht hW => ⟨⟨some (.int v), cs', ad', rfl, hp, hag, h0, by rw [ht]; exact h2, va_K.moved hW.alike hK, h3⟩, h4.F ht⟩) h4.2.2 (vm_dec_ok h5)
  | some (.long v), hp, hrt => exact W.lret hx hb (hr.trans hrt.2) (fun t ht hW => ⟨⟨some (.long v), cs', ad', rfl, hp, hag, h0, by rw [ht]; exact h2, va_K.moved hW.alike hK, h3⟩, h4.F ht⟩) h4.2.2 (vm_dec_ok hrt.1)
theorem vm_T.moved {ad : Nat → Nat} {A : Nat → Prop} {u U : State} {H : Heap} (hvm : u.vm.Alike U.vm) (h : vm_T ad A u H) : vm_T ad A U H := ⟨h.1.moved hvm, h.2.1.moved hvm, h.2.2.moved hvm⟩
theorem vm_nest_warm {s U : State} (hW : s.WarmedH U.vm) (h : ∀ w ∈ G_nest, va_Nw w s) : ∀ w ∈ G_nest, va_Nw w U := by
  have h0 := h _ (List.mem_of_getElem? (l := G_nest) (i := 0) rfl)
  have h1 := h _ (List.mem_of_getElem? (l := G_nest) (i := 1) rfl)
  have h2 := h _ (List.mem_of_getElem? (l := G_nest) (i := 2) rfl)
  have h3 := h _ (List.mem_of_getElem? (l := G_nest) (i := 3) rfl)
  have h4 := h _ (List.mem_of_getElem? (l := G_nest) (i := 4) rfl)
  have h5 := h _ (List.mem_of_getElem? (l := G_nest) (i := 5) rfl)
  have h6 := h _ (List.mem_of_getElem? (l := G_nest) (i := 6) rfl)
  intro w hw
  simp only [G_nest, List.mem_cons, List.not_mem_nil, or_false] at hw
  rcases hw with rfl | rfl | rfl | rfl | rfl | rfl | rfl
  · exact va_Nw.warmM hW h0
  · exact va_Nw.warmF hW h1
  · exact va_Nw.warmF hW h2
  · exact va_Nw.warmF hW h3
  · exact va_Nw.warmF hW h4
  · exact va_Nw.warmM hW h5
  · exact va_Nw.warmM hW h6
theorem vm_nest_tab : ∀ w ∈ G_nest, w.onTables = true := by decide +kernel
theorem vm_blind (D : va_G) (ad tc : Nat → Nat) (av : List Value) (cs : List va_E) (sz : Nat) : FrameBlind (vm_Pc D ad tc av cs sz) := by
  intro a U g mk q
  obtain ⟨q0, q1, qP, qK, qD, qN, qT⟩ := q
  exact ⟨q0, q1, qP, va_K.moved (u := U) (U := U.calling g mk a) (Vm.Alike.refl U.vm) qK, qD, fun w hw => va_Nw.same (u := U) (U := U.calling g mk a) (vm_nest_tab w hw) rfl (qN w hw), vm_T.moved (u := U) (U := U.calling g mk a) (Vm.Alike.refl U.vm) qT⟩
section VM7
variable {p : Program} {l : Launch} {e : Env} {R : Room} {s : State} {m : MethodId} {args : Array Value} {below : List Frame} {meth : Method} {c : Code} {cells slots : Nat} {Q : State → Prop} {D : va_G} {ad tc : Nat → Nat} {A : Nat → Prop} {M M' : vm_M} {H : Heap} {locs : List Loc} {cs : List va_E}
theorem vm_pre {av : List Value} (C : vm_C M p R s m args meth c D ad tc A) (hP : va_P D vwCl (vm_w ad tc 0 cs) H) (hD : va_D A (vm_w ad tc 0 cs)) (hS : va_S A s.heap H locs) (U : State) (hU : U.heap = H) (hW : s.WarmedH U.vm) : vm_Pc D ad tc av cs H.size (av.map (vm_v ad)).toArray U := by
  obtain ⟨hx, hb, hml, hown, hts, hK, hA, hN, hlk, hnm, hR, hT⟩ := C
  have hF : ∀ q, va_A (vm_w ad tc 0 cs) H.size q → A q := by
    intro q h
    rcases h with ⟨k, e, h⟩ | h
    · exact hD.2 k _ h
    · exact hA q (Nat.le_trans hS.1 h)
  refine ⟨rfl, by rw [hU], by rw [hU]; exact hP, va_K.moved hW.alike hK, hD.weaken (fun _ _ _ _ => trivial), vm_nest_warm hW hN, ?_⟩
  rw [hU]
  refine vm_T.moved hW.alike ⟨(hT.1.kept (fun a h1 h2 => hS.2.1 a h1 h2)).narrow hF, (hT.2.1.kept (fun a h1 h2 => hS.2.1 a h1 h2)).narrow hF, hT.2.2⟩
theorem vm_back {pc bc' bs' : Nat} {ls : Array Slot} {st0 rest : List Value} {a : Array Value} {post' : Option Value → List va_E → Prop} (C : vm_C M p R s m args meth c D ad tc A) (hD : va_D A (vm_w ad tc 0 cs)) (hS : va_S A s.heap H locs)
    (hr : va_Run p l e R s m args below meth c H locs cells slots bc' bs' (F0 m pc ls st0) rest (vm_Qc D ad tc cs bc' post' H.size a) (va_A (vm_w ad tc 0 cs) H.size))
    (kk : ∀ (r : Option Value) (cs' : List va_E) (ad' : Nat → Nat) (H1 : Heap) (locs1 : List Loc), post' r cs' → vm_ag cs.length ad ad' → (bc' = 0 → ad' = ad) → va_P D vwCl (vm_w ad' tc 0 cs') H1 → va_D A (vm_w ad' tc 0 cs') → va_S A s.heap H1 locs1 → W p l e R s m args below meth c H1 locs1 (cells + bc') (slots + bs') Q (F0 m (pc + 3) ls ((r.map (vm_v ad')).toList ++ rest))) : W p l e R s m args below meth c H locs cells slots Q (F0 m pc ls st0) := by
  obtain ⟨hx, hb, hml, hown, hts, hK, hA, hN, hlk, hnm, hR, hT⟩ := C
  have hF : ∀ q, va_A (vm_w ad tc 0 cs) H.size q → A q := by
    intro q h
    rcases h with ⟨k, e, h⟩ | h
    · exact hD.2 k _ h
    · exact hA q (Nat.le_trans hS.1 h)
  intro T hT X
  obtain ⟨v, st₀, t, T', L, h0, X', hL, e1, e2, ⟨⟨r, cs', ad', hv, hp, hag, hz0, hP1, hK1, hD1⟩, hz, hk⟩, st⟩ := hr T hT X
  cases hv
  rw [h0] at hz hk
  obtain ⟨t2, a1, b1⟩ := kk r cs' ad' T'.heap (locs ++ L) hp hag hz0 (by rw [e1]; exact hP1) (hD1.weaken (fun k q _ h => hF q.1 h))
    ⟨Nat.le_trans hS.1 (by rw [e1]; exact hz), fun q h1 h2 => by rw [e1, hk q (Nat.lt_of_lt_of_le h1 hS.1) (fun z => h2 (hF q z))]; exact hS.2.1 q h1 h2, fun q hq => by
      rcases List.mem_append.mp hq with h | h
      · exact hS.2.2 q h
      · exact hF _ (hL q h)⟩ T' rfl X'
  exact ⟨t2, st t2 a1, b1⟩
end VM7
end
section
/-! calls that make no cells -/
theorem vm_good {w : Jvm.Cond} (h : w ∈ G_big) : w ∈ G_big ∧ ((w.onTables && w.keeps) = true ∨ ∃ ty, w = .arrayClass ty) := ⟨h, good_of_word (List.mem_filter.mp h).2⟩
theorem vm_goodWs {M : vm_M} (h : Jvm.Cond.code M.2.1 M.2.2.1 M.2.2.2.1 M.2.2.2.2.1 ∈ G_big) : GoodIn G_big (vm_ws M) := by
  intro w hw
  rcases List.mem_cons.mp hw with rfl | hw
  · exact vm_good h
  · exact vm_good hw
def vm_okR (M M' : vm_M) (n : Nat) : Bool := decide (M'.2.1.cls = M'.1) && (decide (M'.2.1.cls ≠ "java/lang/invoke/MethodHandle") && (decide (M'.2.1.cls ≠ "java/lang/invoke/VarHandle") && (decide ((parseMethodDescriptor M'.2.1.desc).map (fun d => d.parameters.length) = some n) && (Nat.ble (M'.2.2.2.2.2.1 + 1) M.2.2.2.2.2.1 && Nat.ble (8 + (M'.2.2.2.1 + 11) + M'.2.2.2.2.2.2) M.2.2.2.2.2.2))))
theorem vm_okR_ok {M M' : vm_M} {n : Nat} {R : Room} (h : vm_okR M M' n = true) (hR : M.2.2.2.2.2.1 ≤ R.frames ∧ M.2.2.2.2.2.2 ≤ R.locals) : M'.2.1.cls = M'.1 ∧ (M'.2.1.cls ≠ "java/lang/invoke/MethodHandle" ∧ M'.2.1.cls ≠ "java/lang/invoke/VarHandle" ∧ (parseMethodDescriptor M'.2.1.desc).map (fun d => d.parameters.length) = some n) ∧ (M'.2.2.2.2.2.1 + 1 ≤ R.frames ∧ 8 + (M'.2.2.2.1 + 11) + M'.2.2.2.2.2.2 ≤ R.locals) := by
  simp only [vm_okR, Bool.and_eq_true, decide_eq_true_eq] at h
  obtain ⟨h1, h2, h3, h4, h5, h6⟩ := h
  exact ⟨h1, ⟨h2, h3, h4⟩, Nat.le_trans (Nat.le_of_ble_eq_true h5) hR.1, Nat.le_trans (Nat.le_of_ble_eq_true h6) hR.2⟩
/-- places of words: methodLink, instanceMethod, selects, initialized, code -/
def vm_okV (M M' : vm_M) (pc idx n : Nat) (P : Nat × Nat × Nat × Nat × Nat) : Bool :=
  vm_dec M pc (.invokevirtual idx) 3 && (vm_at P.1 (.methodLink M.1 idx M'.2.1) && (vm_at P.2.1 (.instanceMethod M'.2.1) && (vm_at P.2.2.1 (.selects M'.1 M'.2.1 M'.2.1) && (vm_at P.2.2.2.1 (.initialized M'.1) && (vm_at P.2.2.2.2 (.code M'.2.1 M'.2.2.1 M'.2.2.2.1 M'.2.2.2.2.1) && vm_okR M M' n)))))
/-- methodLink, static, initialized, code -/
def vm_okS (M M' : vm_M) (pc idx n : Nat) (P : Nat × Nat × Nat × Nat) : Bool :=
  vm_dec M pc (.invokestatic idx) 3 && (vm_at P.1 (.methodLink M.1 idx M'.2.1) && (vm_at P.2.1 (.static M'.2.1) && (vm_at P.2.2.1 (.initialized M'.2.1.cls) && (vm_at P.2.2.2 (.code M'.2.1 M'.2.2.1 M'.2.2.2.1 M'.2.2.2.2.1) && vm_okR M M' n))))
/-- methodLinkNest, static, initialized, code -/
def vm_okN (M M' : vm_M) (pc idx n : Nat) (P : Nat × Nat × Nat × Nat) : Bool :=
  vm_dec M pc (.invokestatic idx) 3 && (decide (vm_g G_nest P.1 = some (.methodLinkNest M.1 idx M'.2.1 "ImageLoader")) && (vm_at P.2.1 (.static M'.2.1) && (vm_at P.2.2.1 (.initialized M'.2.1.cls) && (vm_at P.2.2.2 (.code M'.2.1 M'.2.2.1 M'.2.2.2.1 M'.2.2.2.2.1) && vm_okR M M' n))))
theorem vm_map_st (ad : Nat → Nat) (r : Option Value) (rest : List Value) : (r.toList ++ rest).map (vm_v ad) = (r.map (vm_v ad)).toList ++ rest.map (vm_v ad) := by
  cases r <;> simp
theorem vm_sum (ad : Nat → Nat) (rest : List Value) : ((rest.map (vm_v ad)).map fun v => v.category).sum = (rest.map Value.category).sum := by
  rw [List.map_map]
  congr 1
  apply List.map_congr_left
  intro v _
  exact vm_v_cat ad v
section VM8
variable {M M' : vm_M} {n bc bs pc idx : Nat} {post post' : Option Value → List va_E → Prop} {lv : List (Option Value)} {st rest As : List Value} {cs : List va_E}
theorem Run.callV {b ci : Nat} {fs : List Value} {q : vw_C} {P : Nat × Nat × Nat × Nat × Nat} (hok : vm_okV M M' pc idx As.length P = true) (hct : Ct M' 0 0 (.ref b :: As) cs post') (hst : st = As.reverse ++ .ref b :: rest) (hrest : (rest.map Value.category).sum ≤ 8) (hlen : lv.length = M.2.2.2.1) (hcell : vm_g cs b = some (.inr (ci, fs))) (hcl : vm_g vwCl ci = some q) (hq1 : q.1 = M'.1)
    (k : ∀ r cs', post' r cs' → Run M n bc bs (pc + 3) (lv, r.toList ++ rest, cs') post) : Run M n bc bs pc (lv, st, cs) post := by
  intro p l e R s m args below meth c cells slots Q D ad tc A C hc hs hq H locs ls h1 h2 h3 h4
  have C' := C
  obtain ⟨hx, hb, hml, hown, hts, hK, hA, hN, hlk, hnm, hR, hT⟩ := C'
  simp only [vm_okV, Bool.and_eq_true] at hok
  obtain ⟨o1, o2, o3, o4, o5, o6, o7⟩ := hok
  obtain ⟨r1, r2, r3⟩ := vm_okR_ok o7 hR
  have hG : GoodIn G_big (wsV M.1 idx M'.1 M'.2.1 (vm_ws M')) := by
    intro w hw
    unfold wsV at hw
    rcases List.mem_append.mp hw with hw | hw
    · simp only [List.mem_cons, List.not_mem_nil, or_false] at hw
      rcases hw with rfl | rfl | rfl | rfl
      · exact vm_good (vm_at_in o2)
      · exact vm_good (vm_at_in o3)
      · exact vm_good (vm_at_in o4)
      · exact vm_good (vm_at_in o5)
    · exact vm_goodWs (vm_at_in o6) w hw
  have hcw : CallW R s args M.1 M'.1 idx M'.2.1 M'.2.2.1 M'.2.2.2.1 M'.2.2.2.2.1 (vm_ws M') (vm_rm M' 0 0) 0 0 As.length := cwV As.length hts hG rfl rfl rfl ⟨r1, r2⟩ r3
  have hrecv : ∃ cellB : Cell, H[ad b]? = some cellB ∧ cellB.vm.isStatics = false ∧ s.vm.findClass M'.1 = some cellB.cls := by
    rw [← hq1]
    exact va_recv hK h2 (by rw [← vm_g_eq]; exact hcl) (vm_w_at hcell)
  refine vm_back C h3 h4 (va_runV (As := As.map (vm_v ad)) (b := ad b) (rest := rest.map (vm_v ad)) ⟨hx, hb, hml, hown, hts⟩ (hct l D ad tc H.size) hcw ⟨vm_blind D ad tc _ cs _, hrecv, fun U hU hW => vm_pre (av := .ref b :: As) C h2 h3 h4 U hU hW⟩ rfl (by simp) (h1.1.trans hlen) ?_ (lv_room (by rw [vm_sum]; exact hrest)) (vm_dec_ok o1) ⟨by omega, by omega⟩) ?_
  · show st.map (vm_v ad) = _
    rw [hst]
    simp [vm_v]
  · intro r cs' ad' H1 locs1 hp hag h0 hP1 hD1 hS1
    have := h0 rfl
    subst this
    have k2 := k r cs' hp p l e R s m args below meth c cells slots Q D ad' tc A C hc hs hq H1 locs1 ls h1 hP1 hD1 hS1
    rw [vm_map_st] at k2
    exact k2
theorem Run.callS {P : Nat × Nat × Nat × Nat} (hok : vm_okS M M' pc idx As.length P = true) (hct : Ct M' 0 0 As cs post') (hst : st = As.reverse ++ rest) (hrest : (rest.map Value.category).sum ≤ 8) (hlen : lv.length = M.2.2.2.1)
    (k : ∀ r cs', post' r cs' → Run M n bc bs (pc + 3) (lv, r.toList ++ rest, cs') post) : Run M n bc bs pc (lv, st, cs) post := by
  intro p l e R s m args below meth c cells slots Q D ad tc A C hc hs hq H locs ls h1 h2 h3 h4
  have C' := C
  obtain ⟨hx, hb, hml, hown, hts, hK, hA, hN, hlk, hnm, hR, hT⟩ := C'
  simp only [vm_okS, Bool.and_eq_true] at hok
  obtain ⟨o1, o2, o3, o4, o6, o7⟩ := hok
  obtain ⟨r1, r2, r3⟩ := vm_okR_ok o7 hR
  have hG : GoodIn G_big (va_wsS M.1 idx M'.2.1 (vm_ws M')) := by
    intro w hw
    unfold va_wsS at hw
    rcases List.mem_append.mp hw with hw | hw
    · simp only [List.mem_cons, List.not_mem_nil, or_false] at hw
      rcases hw with rfl | rfl | rfl
      · exact vm_good (vm_at_in o2)
      · exact vm_good (vm_at_in o3)
      · exact vm_good (vm_at_in o4)
    · exact vm_goodWs (vm_at_in o6) w hw
  have hcw := va_cwS (R := R) (s := s) (args := args) (own := M.1) (index := idx) (y := M'.2.1) (bytes := M'.2.2.1) (maxL := M'.2.2.2.1) (ret := M'.2.2.2.2.1) (ws := vm_ws M') (rm := vm_rm M' 0 0) (mc := 0) (ms := 0) As.length hts hG rfl rfl rfl r2 r3
  refine vm_back C h3 h4 (va_runS (As := As.map (vm_v ad)) (rest := rest.map (vm_v ad)) ⟨hx, hb, hml, hown, hts⟩ (hct l D ad tc H.size) hcw ⟨vm_blind D ad tc _ cs _, fun U hU hW => vm_pre (av := As) C h2 h3 h4 U hU hW⟩ rfl (by simp) (h1.1.trans hlen) ?_ (lv_room (by rw [vm_sum]; exact hrest)) (vm_dec_ok o1) ⟨by omega, by omega⟩) ?_
  · show st.map (vm_v ad) = _
    rw [hst]
    simp
  · intro r cs' ad' H1 locs1 hp hag h0 hP1 hD1 hS1
    have := h0 rfl
    subst this
    have k2 := k r cs' hp p l e R s m args below meth c cells slots Q D ad' tc A C hc hs hq H1 locs1 ls h1 hP1 hD1 hS1
    rw [vm_map_st] at k2
    exact k2
theorem Run.callN {P : Nat × Nat × Nat × Nat} (hok : vm_okN M M' pc idx As.length P = true) (hct : Ct M' 0 0 As cs post') (hst : st = As.reverse ++ rest) (hrest : (rest.map Value.category).sum ≤ 8) (hlen : lv.length = M.2.2.2.1)
    (k : ∀ r cs', post' r cs' → Run M n bc bs (pc + 3) (lv, r.toList ++ rest, cs') post) : Run M n bc bs pc (lv, st, cs) post := by
  intro p l e R s m args below meth c cells slots Q D ad tc A C hc hs hq H locs ls h1 h2 h3 h4
  have C' := C
  obtain ⟨hx, hb, hml, hown, hts, hK, hA, hN, hlk, hnm, hR, hT⟩ := C'
  simp only [vm_okN, Bool.and_eq_true, decide_eq_true_eq] at hok
  obtain ⟨o1, o2, o3, o4, o6, o7⟩ := hok
  rw [vm_g_eq] at o2
  obtain ⟨r1, r2, r3⟩ := vm_okR_ok o7 hR
  have hcw := va_cnB (R := R) (s := s) (args := args) (own := M.1) (host := "ImageLoader") (index := idx) (y := M'.2.1) (bytes := M'.2.2.1) (maxL := M'.2.2.2.1) (ret := M'.2.2.2.2.1) (ws := vm_ws M') (rm := vm_rm M' 0 0) (mc := 0) (ms := 0) As.length hts (vm_goodWs (vm_at_in o6)) rfl rfl rfl (hN _ (List.mem_of_getElem? o2)) (hts _ (vm_at_in o4)) r2 r3
  refine vm_back C h3 h4 (va_runSN (As := As.map (vm_v ad)) (rest := rest.map (vm_v ad)) ⟨hx, hb, hml, hown, hts⟩ (hct l D ad tc H.size) ⟨hcw, hts _ (vm_at_in o3), trivial⟩ ⟨vm_blind D ad tc _ cs _, fun U hU hW => vm_pre (av := As) C h2 h3 h4 U hU hW⟩ rfl (by simp) (h1.1.trans hlen) ?_ (lv_room (by rw [vm_sum]; exact hrest)) (vm_dec_ok o1) ⟨by omega, by omega⟩) ?_
  · show st.map (vm_v ad) = _
    rw [hst]
    simp
  · intro r cs' ad' H1 locs1 hp hag h0 hP1 hD1 hS1
    have := h0 rfl
    subst this
    have k2 := k r cs' hp p l e R s m args below meth c cells slots Q D ad' tc A C hc hs hq H1 locs1 ls h1 hP1 hD1 hS1
    rw [vm_map_st] at k2
    exact k2
end VM8
end
