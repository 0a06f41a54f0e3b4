def k_S_init_0 : List vm_I := [.inl (.aload_n 0)]
theorem kc_S_init_0 : vm_chk m_S_init 0 k_S_init_0 = some 1 := by decide +kernel
theorem d_S_init_1 : vm_dec m_S_init 1 (.invokespecial 3) 3 = true := by decide +kernel
theorem d_S_init_4 : vm_dec m_S_init 4 .return_ 1 = true := by decide +kernel
def k_S_take_0 : List vm_I := [.inl (.aload_n 0), .inl (.aload_n 1), .inl (.iload_n 2), .inr (.inl (.int 4, 0)), .inl .iadd]
theorem kc_S_take_0 : vm_chk m_S_take 0 k_S_take_0 = some 5 := by decide +kernel
theorem v_S_take_5 : vm_okV m_S_take m_T_word 5 9 1 (301, 283, 284, 43, 285) = true := by decide +kernel
def k_S_take_8 : List vm_I := [.inr (.inr (.inl (1, 111, 15, 1, 0)))]
theorem kc_S_take_8 : vm_chk m_S_take 8 k_S_take_8 = some 11 := by decide +kernel
def k_S_take_11 : List vm_I := [.inl (.aload_n 0), .inl (.aload_n 1), .inl (.iload_n 2), .inr (.inl (.int 8, 0)), .inl .iadd]
theorem kc_S_take_11 : vm_chk m_S_take 11 k_S_take_11 = some 17 := by decide +kernel
theorem v_S_take_17 : vm_okV m_S_take m_T_word 17 9 1 (301, 283, 284, 43, 285) = true := by decide +kernel
def k_S_take_20 : List vm_I := [.inr (.inr (.inl (1, 113, 21, 1, 1)))]
theorem kc_S_take_20 : vm_chk m_S_take 20 k_S_take_20 = some 23 := by decide +kernel
def k_S_take_23 : List vm_I := [.inl (.aload_n 0), .inl (.aload_n 0)]
theorem kc_S_take_23 : vm_chk m_S_take 23 k_S_take_23 = some 25 := by decide +kernel
def k_S_take_25 : List vm_I := [.inr (.inr (.inl (0, 113, 21, 1, 1)))]
theorem kc_S_take_25 : vm_chk m_S_take 25 k_S_take_25 = some 28 := by decide +kernel
def k_S_take_28 : List vm_I := [.inl (.iload_n 3), .inl .i2l, .inl .ladd]
theorem kc_S_take_28 : vm_chk m_S_take 28 k_S_take_28 = some 31 := by decide +kernel
def k_S_take_31 : List vm_I := [.inr (.inr (.inl (1, 114, 24, 1, 2)))]
theorem kc_S_take_31 : vm_chk m_S_take 31 k_S_take_31 = some 34 := by decide +kernel
def k_S_take_34 : List vm_I := [.inl (.aload_n 0), .inl (.aload_n 1), .inl (.iload_n 2), .inr (.inl (.int 16, 0)), .inl .iadd]
theorem kc_S_take_34 : vm_chk m_S_take 34 k_S_take_34 = some 40 := by decide +kernel
theorem v_S_take_40 : vm_okV m_S_take m_T_word 40 9 1 (301, 283, 284, 43, 285) = true := by decide +kernel
def k_S_take_43 : List vm_I := [.inr (.inr (.inl (1, 115, 27, 1, 3)))]
theorem kc_S_take_43 : vm_chk m_S_take 43 k_S_take_43 = some 46 := by decide +kernel
def k_S_take_46 : List vm_I := [.inl (.aload_n 0), .inl (.aload_n 1), .inl (.iload_n 2), .inr (.inl (.int 20, 0)), .inl .iadd]
theorem kc_S_take_46 : vm_chk m_S_take 46 k_S_take_46 = some 52 := by decide +kernel
theorem v_S_take_52 : vm_okV m_S_take m_T_word 52 9 1 (301, 283, 284, 43, 285) = true := by decide +kernel
def k_S_take_55 : List vm_I := [.inr (.inr (.inl (1, 117, 30, 1, 4)))]
theorem kc_S_take_55 : vm_chk m_S_take 55 k_S_take_55 = some 58 := by decide +kernel
def k_S_take_58 : List vm_I := [.inl (.aload_n 0), .inl (.aload_n 1), .inl (.iload_n 2), .inr (.inl (.int 24, 0)), .inl .iadd]
theorem kc_S_take_58 : vm_chk m_S_take 58 k_S_take_58 = some 64 := by decide +kernel
theorem v_S_take_64 : vm_okV m_S_take m_T_word 64 9 1 (301, 283, 284, 43, 285) = true := by decide +kernel
def k_S_take_67 : List vm_I := [.inl .l2i, .inr (.inl (.int 7, 0)), .inl .iand]
theorem kc_S_take_67 : vm_chk m_S_take 67 k_S_take_67 = some 71 := by decide +kernel
def k_S_take_71 : List vm_I := [.inr (.inr (.inl (1, 120, 33, 1, 6)))]
theorem kc_S_take_71 : vm_chk m_S_take 71 k_S_take_71 = some 74 := by decide +kernel
def k_S_take_74 : List vm_I := [.inl (.aload_n 0), .inl (.aload_n 1), .inl (.iload_n 2), .inr (.inl (.int 28, 0)), .inl .iadd]
theorem kc_S_take_74 : vm_chk m_S_take 74 k_S_take_74 = some 80 := by decide +kernel
theorem v_S_take_80 : vm_okV m_S_take m_T_word 80 9 1 (301, 283, 284, 43, 285) = true := by decide +kernel
def k_S_take_83 : List vm_I := [.inr (.inr (.inl (1, 119, 37, 1, 5)))]
theorem kc_S_take_83 : vm_chk m_S_take 83 k_S_take_83 = some 86 := by decide +kernel
theorem d_S_take_86 : vm_dec m_S_take 86 .return_ 1 = true := by decide +kernel
def k_S_isAlignSound_0 : List vm_I := [.inl (.aload_n 0)]
theorem kc_S_isAlignSound_0 : vm_chk m_S_isAlignSound 0 k_S_isAlignSound_0 = some 1 := by decide +kernel
def k_S_isAlignSound_1 : List vm_I := [.inr (.inr (.inl (0, 119, 37, 1, 5)))]
theorem kc_S_isAlignSound_1 : vm_chk m_S_isAlignSound 1 k_S_isAlignSound_1 = some 4 := by decide +kernel
def k_S_isAlignSound_4 : List vm_I := [.inr (.inl (.long 1, 0))]
theorem kc_S_isAlignSound_4 : vm_chk m_S_isAlignSound 4 k_S_isAlignSound_4 = some 5 := by decide +kernel
theorem dl_S_isAlignSound_5 : vm_dec m_S_isAlignSound 5 .lcmp 1 = true := by decide +kernel
theorem d_S_isAlignSound_5 : vm_dec m_S_isAlignSound 6 (.ifCond .le 25) 3 = true := by decide +kernel
def k_S_isAlignSound_9 : List vm_I := [.inl (.aload_n 0)]
theorem kc_S_isAlignSound_9 : vm_chk m_S_isAlignSound 9 k_S_isAlignSound_9 = some 10 := by decide +kernel
def k_S_isAlignSound_10 : List vm_I := [.inr (.inr (.inl (0, 119, 37, 1, 5)))]
theorem kc_S_isAlignSound_10 : vm_chk m_S_isAlignSound 10 k_S_isAlignSound_10 = some 13 := by decide +kernel
def k_S_isAlignSound_13 : List vm_I := [.inr (.inl (.long 4096, 306))]
theorem kc_S_isAlignSound_13 : vm_chk m_S_isAlignSound 13 k_S_isAlignSound_13 = some 16 := by decide +kernel
theorem dl_S_isAlignSound_16 : vm_dec m_S_isAlignSound 16 .lcmp 1 = true := by decide +kernel
theorem d_S_isAlignSound_16 : vm_dec m_S_isAlignSound 17 (.ifCond .gt 18) 3 = true := by decide +kernel
def k_S_isAlignSound_20 : List vm_I := [.inl (.aload_n 0)]
theorem kc_S_isAlignSound_20 : vm_chk m_S_isAlignSound 20 k_S_isAlignSound_20 = some 21 := by decide +kernel
def k_S_isAlignSound_21 : List vm_I := [.inr (.inr (.inl (0, 119, 37, 1, 5)))]
theorem kc_S_isAlignSound_21 : vm_chk m_S_isAlignSound 21 k_S_isAlignSound_21 = some 24 := by decide +kernel
theorem v_S_isAlignSound_24 : vm_okS m_S_isAlignSound m_K_bitCount 24 42 1 (307, 308, 49, 309) = true := by decide +kernel
def k_S_isAlignSound_27 : List vm_I := [.inr (.inl (.int 1, 0))]
theorem kc_S_isAlignSound_27 : vm_chk m_S_isAlignSound 27 k_S_isAlignSound_27 = some 28 := by decide +kernel
theorem d_S_isAlignSound_28 : vm_dec m_S_isAlignSound 28 (.if_icmp .ne 7) 3 = true := by decide +kernel
def k_S_isAlignSound_31 : List vm_I := [.inr (.inl (.int 1, 0))]
theorem kc_S_isAlignSound_31 : vm_chk m_S_isAlignSound 31 k_S_isAlignSound_31 = some 32 := by decide +kernel
theorem d_S_isAlignSound_32 : vm_dec m_S_isAlignSound 32 (.goto 4) 3 = true := by decide +kernel
def k_S_isAlignSound_35 : List vm_I := [.inr (.inl (.int 0, 0))]
theorem kc_S_isAlignSound_35 : vm_chk m_S_isAlignSound 35 k_S_isAlignSound_35 = some 36 := by decide +kernel
theorem d_S_isAlignSound_36 : vm_dec m_S_isAlignSound 36 .ireturn 1 = true := by decide +kernel
def k_S_isAligned_0 : List vm_I := [.inl (.aload_n 0)]
theorem kc_S_isAligned_0 : vm_chk m_S_isAligned 0 k_S_isAligned_0 = some 1 := by decide +kernel
def k_S_isAligned_1 : List vm_I := [.inr (.inr (.inl (0, 119, 37, 1, 5)))]
theorem kc_S_isAligned_1 : vm_chk m_S_isAligned 1 k_S_isAligned_1 = some 4 := by decide +kernel
def k_S_isAligned_4 : List vm_I := [.inr (.inl (.long 1, 0))]
theorem kc_S_isAligned_4 : vm_chk m_S_isAligned 4 k_S_isAligned_4 = some 5 := by decide +kernel
theorem dl_S_isAligned_5 : vm_dec m_S_isAligned 5 .lcmp 1 = true := by decide +kernel
theorem d_S_isAligned_5 : vm_dec m_S_isAligned 6 (.ifCond .le 25) 3 = true := by decide +kernel
def k_S_isAligned_9 : List vm_I := [.inl (.aload_n 0)]
theorem kc_S_isAligned_9 : vm_chk m_S_isAligned 9 k_S_isAligned_9 = some 10 := by decide +kernel
def k_S_isAligned_10 : List vm_I := [.inr (.inr (.inl (0, 113, 21, 1, 1)))]
theorem kc_S_isAligned_10 : vm_chk m_S_isAligned 10 k_S_isAligned_10 = some 13 := by decide +kernel
def k_S_isAligned_13 : List vm_I := [.inl (.aload_n 0)]
theorem kc_S_isAligned_13 : vm_chk m_S_isAligned 13 k_S_isAligned_13 = some 14 := by decide +kernel
def k_S_isAligned_14 : List vm_I := [.inr (.inr (.inl (0, 119, 37, 1, 5)))]
theorem kc_S_isAligned_14 : vm_chk m_S_isAligned 14 k_S_isAligned_14 = some 17 := by decide +kernel
def k_S_isAligned_17 : List vm_I := [.inl .lrem, .inl (.aload_n 0)]
theorem kc_S_isAligned_17 : vm_chk m_S_isAligned 17 k_S_isAligned_17 = some 19 := by decide +kernel
def k_S_isAligned_19 : List vm_I := [.inr (.inr (.inl (0, 111, 15, 1, 0)))]
theorem kc_S_isAligned_19 : vm_chk m_S_isAligned 19 k_S_isAligned_19 = some 22 := by decide +kernel
def k_S_isAligned_22 : List vm_I := [.inl (.aload_n 0)]
theorem kc_S_isAligned_22 : vm_chk m_S_isAligned 22 k_S_isAligned_22 = some 23 := by decide +kernel
def k_S_isAligned_23 : List vm_I := [.inr (.inr (.inl (0, 119, 37, 1, 5)))]
theorem kc_S_isAligned_23 : vm_chk m_S_isAligned 23 k_S_isAligned_23 = some 26 := by decide +kernel
def k_S_isAligned_26 : List vm_I := [.inl .lrem]
theorem kc_S_isAligned_26 : vm_chk m_S_isAligned 26 k_S_isAligned_26 = some 27 := by decide +kernel
theorem dl_S_isAligned_27 : vm_dec m_S_isAligned 27 .lcmp 1 = true := by decide +kernel
theorem d_S_isAligned_27 : vm_dec m_S_isAligned 28 (.ifCond .ne 7) 3 = true := by decide +kernel
def k_S_isAligned_31 : List vm_I := [.inr (.inl (.int 1, 0))]
theorem kc_S_isAligned_31 : vm_chk m_S_isAligned 31 k_S_isAligned_31 = some 32 := by decide +kernel
theorem d_S_isAligned_32 : vm_dec m_S_isAligned 32 (.goto 4) 3 = true := by decide +kernel
def k_S_isAligned_35 : List vm_I := [.inr (.inl (.int 0, 0))]
theorem kc_S_isAligned_35 : vm_chk m_S_isAligned 35 k_S_isAligned_35 = some 36 := by decide +kernel
theorem d_S_isAligned_36 : vm_dec m_S_isAligned 36 .ireturn 1 = true := by decide +kernel
def k_S_isInSpace_0 : List vm_I := [.inl (.aload_n 0)]
theorem kc_S_isInSpace_0 : vm_chk m_S_isInSpace 0 k_S_isInSpace_0 = some 1 := by decide +kernel
def k_S_isInSpace_1 : List vm_I := [.inr (.inr (.inl (0, 117, 30, 1, 4)))]
theorem kc_S_isInSpace_1 : vm_chk m_S_isInSpace 1 k_S_isInSpace_1 = some 4 := by decide +kernel
def k_S_isInSpace_4 : List vm_I := [.inr (.inl (.long 0, 0))]
theorem kc_S_isInSpace_4 : vm_chk m_S_isInSpace 4 k_S_isInSpace_4 = some 5 := by decide +kernel
theorem dl_S_isInSpace_5 : vm_dec m_S_isInSpace 5 .lcmp 1 = true := by decide +kernel
theorem d_S_isInSpace_5 : vm_dec m_S_isInSpace 6 (.ifCond .eq 19) 3 = true := by decide +kernel
def k_S_isInSpace_9 : List vm_I := [.inl (.aload_n 0)]
theorem kc_S_isInSpace_9 : vm_chk m_S_isInSpace 9 k_S_isInSpace_9 = some 10 := by decide +kernel
def k_S_isInSpace_10 : List vm_I := [.inr (.inr (.inl (0, 114, 24, 1, 2)))]
theorem kc_S_isInSpace_10 : vm_chk m_S_isInSpace 10 k_S_isInSpace_10 = some 13 := by decide +kernel
def k_S_isInSpace_13 : List vm_I := [.inl (.aload_n 0)]
theorem kc_S_isInSpace_13 : vm_chk m_S_isInSpace 13 k_S_isInSpace_13 = some 14 := by decide +kernel
def k_S_isInSpace_14 : List vm_I := [.inr (.inr (.inl (0, 117, 30, 1, 4)))]
theorem kc_S_isInSpace_14 : vm_chk m_S_isInSpace 14 k_S_isInSpace_14 = some 17 := by decide +kernel
def k_S_isInSpace_17 : List vm_I := [.inl .ladd, .inr (.inl (.long 16384, 321))]
theorem kc_S_isInSpace_17 : vm_chk m_S_isInSpace 17 k_S_isInSpace_17 = some 21 := by decide +kernel
theorem dl_S_isInSpace_21 : vm_dec m_S_isInSpace 21 .lcmp 1 = true := by decide +kernel
theorem d_S_isInSpace_21 : vm_dec m_S_isInSpace 22 (.ifCond .gt 7) 3 = true := by decide +kernel
def k_S_isInSpace_25 : List vm_I := [.inr (.inl (.int 1, 0))]
theorem kc_S_isInSpace_25 : vm_chk m_S_isInSpace 25 k_S_isInSpace_25 = some 26 := by decide +kernel
theorem d_S_isInSpace_26 : vm_dec m_S_isInSpace 26 (.goto 4) 3 = true := by decide +kernel
def k_S_isInSpace_29 : List vm_I := [.inr (.inl (.int 0, 0))]
theorem kc_S_isInSpace_29 : vm_chk m_S_isInSpace 29 k_S_isInSpace_29 = some 30 := by decide +kernel
theorem d_S_isInSpace_30 : vm_dec m_S_isInSpace 30 .ireturn 1 = true := by decide +kernel
def k_S_holds_0 : List vm_I := [.inl (.lload_n 1), .inl (.aload_n 0)]
theorem kc_S_holds_0 : vm_chk m_S_holds 0 k_S_holds_0 = some 2 := by decide +kernel
def k_S_holds_2 : List vm_I := [.inr (.inr (.inl (0, 114, 24, 1, 2)))]
theorem kc_S_holds_2 : vm_chk m_S_holds 2 k_S_holds_2 = some 5 := by decide +kernel
theorem dl_S_holds_5 : vm_dec m_S_holds 5 .lcmp 1 = true := by decide +kernel
theorem d_S_holds_5 : vm_dec m_S_holds 6 (.ifCond .lt 21) 3 = true := by decide +kernel
def k_S_holds_9 : List vm_I := [.inl (.lload_n 1), .inl (.aload_n 0)]
theorem kc_S_holds_9 : vm_chk m_S_holds 9 k_S_holds_9 = some 11 := by decide +kernel
def k_S_holds_11 : List vm_I := [.inr (.inr (.inl (0, 114, 24, 1, 2)))]
theorem kc_S_holds_11 : vm_chk m_S_holds 11 k_S_holds_11 = some 14 := by decide +kernel
def k_S_holds_14 : List vm_I := [.inl (.aload_n 0)]
theorem kc_S_holds_14 : vm_chk m_S_holds 14 k_S_holds_14 = some 15 := by decide +kernel
def k_S_holds_15 : List vm_I := [.inr (.inr (.inl (0, 117, 30, 1, 4)))]
theorem kc_S_holds_15 : vm_chk m_S_holds 15 k_S_holds_15 = some 18 := by decide +kernel
def k_S_holds_18 : List vm_I := [.inl .ladd]
theorem kc_S_holds_18 : vm_chk m_S_holds 18 k_S_holds_18 = some 19 := by decide +kernel
theorem dl_S_holds_19 : vm_dec m_S_holds 19 .lcmp 1 = true := by decide +kernel
theorem d_S_holds_19 : vm_dec m_S_holds 20 (.ifCond .ge 7) 3 = true := by decide +kernel
def k_S_holds_23 : List vm_I := [.inr (.inl (.int 1, 0))]
theorem kc_S_holds_23 : vm_chk m_S_holds 23 k_S_holds_23 = some 24 := by decide +kernel
theorem d_S_holds_24 : vm_dec m_S_holds 24 (.goto 4) 3 = true := by decide +kernel
def k_S_holds_27 : List vm_I := [.inr (.inl (.int 0, 0))]
theorem kc_S_holds_27 : vm_chk m_S_holds 27 k_S_holds_27 = some 28 := by decide +kernel
theorem d_S_holds_28 : vm_dec m_S_holds 28 .ireturn 1 = true := by decide +kernel
def k_S_firstPage_0 : List vm_I := [.inl (.aload_n 0)]
theorem kc_S_firstPage_0 : vm_chk m_S_firstPage 0 k_S_firstPage_0 = some 1 := by decide +kernel
def k_S_firstPage_1 : List vm_I := [.inr (.inr (.inl (0, 117, 30, 1, 4)))]
theorem kc_S_firstPage_1 : vm_chk m_S_firstPage 1 k_S_firstPage_1 = some 4 := by decide +kernel
def k_S_firstPage_4 : List vm_I := [.inr (.inl (.long 0, 0))]
theorem kc_S_firstPage_4 : vm_chk m_S_firstPage 4 k_S_firstPage_4 = some 5 := by decide +kernel
theorem dl_S_firstPage_5 : vm_dec m_S_firstPage 5 .lcmp 1 = true := by decide +kernel
theorem d_S_firstPage_5 : vm_dec m_S_firstPage 6 (.ifCond .ne 7) 3 = true := by decide +kernel
def k_S_firstPage_9 : List vm_I := [.inr (.inl (.int 0, 0))]
theorem kc_S_firstPage_9 : vm_chk m_S_firstPage 9 k_S_firstPage_9 = some 10 := by decide +kernel
theorem d_S_firstPage_10 : vm_dec m_S_firstPage 10 (.goto 12) 3 = true := by decide +kernel
def k_S_firstPage_13 : List vm_I := [.inl (.aload_n 0)]
theorem kc_S_firstPage_13 : vm_chk m_S_firstPage 13 k_S_firstPage_13 = some 14 := by decide +kernel
def k_S_firstPage_14 : List vm_I := [.inr (.inr (.inl (0, 114, 24, 1, 2)))]
theorem kc_S_firstPage_14 : vm_chk m_S_firstPage 14 k_S_firstPage_14 = some 17 := by decide +kernel
def k_S_firstPage_17 : List vm_I := [.inr (.inl (.long 256, 326)), .inl .ldiv, .inl .l2i]
theorem kc_S_firstPage_17 : vm_chk m_S_firstPage 17 k_S_firstPage_17 = some 22 := by decide +kernel
theorem d_S_firstPage_22 : vm_dec m_S_firstPage 22 .ireturn 1 = true := by decide +kernel
def k_S_lastPage_0 : List vm_I := [.inl (.aload_n 0)]
theorem kc_S_lastPage_0 : vm_chk m_S_lastPage 0 k_S_lastPage_0 = some 1 := by decide +kernel
def k_S_lastPage_1 : List vm_I := [.inr (.inr (.inl (0, 117, 30, 1, 4)))]
theorem kc_S_lastPage_1 : vm_chk m_S_lastPage 1 k_S_lastPage_1 = some 4 := by decide +kernel
def k_S_lastPage_4 : List vm_I := [.inr (.inl (.long 0, 0))]
theorem kc_S_lastPage_4 : vm_chk m_S_lastPage 4 k_S_lastPage_4 = some 5 := by decide +kernel
theorem dl_S_lastPage_5 : vm_dec m_S_lastPage 5 .lcmp 1 = true := by decide +kernel
theorem d_S_lastPage_5 : vm_dec m_S_lastPage 6 (.ifCond .ne 7) 3 = true := by decide +kernel
def k_S_lastPage_9 : List vm_I := [.inr (.inl (.int (-1), 0))]
theorem kc_S_lastPage_9 : vm_chk m_S_lastPage 9 k_S_lastPage_9 = some 10 := by decide +kernel
theorem d_S_lastPage_10 : vm_dec m_S_lastPage 10 (.goto 19) 3 = true := by decide +kernel
def k_S_lastPage_13 : List vm_I := [.inl (.aload_n 0)]
theorem kc_S_lastPage_13 : vm_chk m_S_lastPage 13 k_S_lastPage_13 = some 14 := by decide +kernel
def k_S_lastPage_14 : List vm_I := [.inr (.inr (.inl (0, 114, 24, 1, 2)))]
theorem kc_S_lastPage_14 : vm_chk m_S_lastPage 14 k_S_lastPage_14 = some 17 := by decide +kernel
def k_S_lastPage_17 : List vm_I := [.inl (.aload_n 0)]
theorem kc_S_lastPage_17 : vm_chk m_S_lastPage 17 k_S_lastPage_17 = some 18 := by decide +kernel
def k_S_lastPage_18 : List vm_I := [.inr (.inr (.inl (0, 117, 30, 1, 4)))]
theorem kc_S_lastPage_18 : vm_chk m_S_lastPage 18 k_S_lastPage_18 = some 21 := by decide +kernel
def k_S_lastPage_21 : List vm_I := [.inl .ladd, .inr (.inl (.long 1, 0)), .inl .lsub, .inr (.inl (.long 256, 326)), .inl .ldiv, .inl .l2i]
theorem kc_S_lastPage_21 : vm_chk m_S_lastPage 21 k_S_lastPage_21 = some 29 := by decide +kernel
theorem d_S_lastPage_29 : vm_dec m_S_lastPage 29 .ireturn 1 = true := by decide +kernel
def k_S_pages_0 : List vm_I := [.inl (.aload_n 0)]
theorem kc_S_pages_0 : vm_chk m_S_pages 0 k_S_pages_0 = some 1 := by decide +kernel
theorem v_S_pages_1 : vm_okV m_S_pages m_S_lastPage 1 52 0 (351, 328, 329, 47, 330) = true := by decide +kernel
def k_S_pages_4 : List vm_I := [.inl (.aload_n 0)]
theorem kc_S_pages_4 : vm_chk m_S_pages 4 k_S_pages_4 = some 5 := by decide +kernel
theorem v_S_pages_5 : vm_okV m_S_pages m_S_firstPage 5 56 0 (350, 323, 324, 47, 325) = true := by decide +kernel
def k_S_pages_8 : List vm_I := [.inl .isub, .inr (.inl (.int 1, 0)), .inl .iadd]
theorem kc_S_pages_8 : vm_chk m_S_pages 8 k_S_pages_8 = some 11 := by decide +kernel
theorem d_S_pages_11 : vm_dec m_S_pages 11 .ireturn 1 = true := by decide +kernel
def k_S_sharesPageWith_0 : List vm_I := [.inl (.aload_n 0)]
theorem kc_S_sharesPageWith_0 : vm_chk m_S_sharesPageWith 0 k_S_sharesPageWith_0 = some 1 := by decide +kernel
theorem v_S_sharesPageWith_1 : vm_okV m_S_sharesPageWith m_S_firstPage 1 56 0 (350, 323, 324, 47, 325) = true := by decide +kernel
def k_S_sharesPageWith_4 : List vm_I := [.inl (.aload_n 1)]
theorem kc_S_sharesPageWith_4 : vm_chk m_S_sharesPageWith 4 k_S_sharesPageWith_4 = some 5 := by decide +kernel
theorem v_S_sharesPageWith_5 : vm_okV m_S_sharesPageWith m_S_lastPage 5 52 0 (351, 328, 329, 47, 330) = true := by decide +kernel
theorem d_S_sharesPageWith_8 : vm_dec m_S_sharesPageWith 8 (.if_icmp .gt 18) 3 = true := by decide +kernel
def k_S_sharesPageWith_11 : List vm_I := [.inl (.aload_n 1)]
theorem kc_S_sharesPageWith_11 : vm_chk m_S_sharesPageWith 11 k_S_sharesPageWith_11 = some 12 := by decide +kernel
theorem v_S_sharesPageWith_12 : vm_okV m_S_sharesPageWith m_S_firstPage 12 56 0 (350, 323, 324, 47, 325) = true := by decide +kernel
def k_S_sharesPageWith_15 : List vm_I := [.inl (.aload_n 0)]
theorem kc_S_sharesPageWith_15 : vm_chk m_S_sharesPageWith 15 k_S_sharesPageWith_15 = some 16 := by decide +kernel
theorem v_S_sharesPageWith_16 : vm_okV m_S_sharesPageWith m_S_lastPage 16 52 0 (351, 328, 329, 47, 330) = true := by decide +kernel
theorem d_S_sharesPageWith_19 : vm_dec m_S_sharesPageWith 19 (.if_icmp .gt 7) 3 = true := by decide +kernel
def k_S_sharesPageWith_22 : List vm_I := [.inr (.inl (.int 1, 0))]
theorem kc_S_sharesPageWith_22 : vm_chk m_S_sharesPageWith 22 k_S_sharesPageWith_22 = some 23 := by decide +kernel
theorem d_S_sharesPageWith_23 : vm_dec m_S_sharesPageWith 23 (.goto 4) 3 = true := by decide +kernel
def k_S_sharesPageWith_26 : List vm_I := [.inr (.inl (.int 0, 0))]
theorem kc_S_sharesPageWith_26 : vm_chk m_S_sharesPageWith 26 k_S_sharesPageWith_26 = some 27 := by decide +kernel
theorem d_S_sharesPageWith_27 : vm_dec m_S_sharesPageWith 27 .ireturn 1 = true := by decide +kernel
def k_S_lay_0 : List vm_I := [.inl (.aload_n 2), .inl (.aload_n 0)]
theorem kc_S_lay_0 : vm_chk m_S_lay 0 k_S_lay_0 = some 2 := by decide +kernel
theorem v_S_lay_2 : vm_okV m_S_lay m_S_firstPage 2 56 0 (350, 323, 324, 47, 325) = true := by decide +kernel
def k_S_lay_5 : List vm_I := [.inl (.aload_n 0)]
theorem kc_S_lay_5 : vm_chk m_S_lay 5 k_S_lay_5 = some 6 := by decide +kernel
theorem v_S_lay_6 : vm_okV m_S_lay m_S_lastPage 6 52 0 (351, 328, 329, 47, 330) = true := by decide +kernel
def k_S_lay_9 : List vm_I := [.inl (.aload_n 0)]
theorem kc_S_lay_9 : vm_chk m_S_lay 9 k_S_lay_9 = some 10 := by decide +kernel
def k_S_lay_10 : List vm_I := [.inr (.inr (.inl (0, 120, 33, 1, 6)))]
theorem kc_S_lay_10 : vm_chk m_S_lay 10 k_S_lay_10 = some 13 := by decide +kernel
theorem v_S_lay_13 : vm_okV m_S_lay m_P_mapAll 13 59 3 (400, 401, 402, 44, 403) = true := by decide +kernel
def k_S_lay_16 : List vm_I := [.inl (.aload_n 0)]
theorem kc_S_lay_16 : vm_chk m_S_lay 16 k_S_lay_16 = some 17 := by decide +kernel
def k_S_lay_17 : List vm_I := [.inr (.inr (.inl (0, 115, 27, 1, 3)))]
theorem kc_S_lay_17 : vm_chk m_S_lay 17 k_S_lay_17 = some 20 := by decide +kernel
def k_S_lay_20 : List vm_I := [.inr (.inl (.long 900, 416))]
theorem kc_S_lay_20 : vm_chk m_S_lay 20 k_S_lay_20 = some 23 := by decide +kernel
theorem v_S_lay_23 : vm_okS m_S_lay m_J_minJ 23 67 2 (417, 418, 45, 419) = true := by decide +kernel
def k_S_lay_26 : List vm_I := [.inl .l2i, .inl (.istore_n 3), .inr (.inl (.int 0, 0)), .inl (.istore 4)]
theorem kc_S_lay_26 : vm_chk m_S_lay 26 k_S_lay_26 = some 31 := by decide +kernel
def k_S_lay_31 : List vm_I := [.inl (.iload 4), .inl (.iload_n 3)]
theorem kc_S_lay_31 : vm_chk m_S_lay 31 k_S_lay_31 = some 34 := by decide +kernel
theorem d_S_lay_34 : vm_dec m_S_lay 34 (.if_icmp .ge 33) 3 = true := by decide +kernel
def k_S_lay_37 : List vm_I := [.inl (.aload_n 2), .inl (.aload_n 0)]
theorem kc_S_lay_37 : vm_chk m_S_lay 37 k_S_lay_37 = some 39 := by decide +kernel
def k_S_lay_39 : List vm_I := [.inr (.inr (.inl (0, 114, 24, 1, 2)))]
theorem kc_S_lay_39 : vm_chk m_S_lay 39 k_S_lay_39 = some 42 := by decide +kernel
def k_S_lay_42 : List vm_I := [.inl .l2i, .inl (.iload 4), .inl .iadd, .inl (.aload_n 1), .inl (.aload_n 0)]
theorem kc_S_lay_42 : vm_chk m_S_lay 42 k_S_lay_42 = some 48 := by decide +kernel
def k_S_lay_48 : List vm_I := [.inr (.inr (.inl (0, 111, 15, 1, 0)))]
theorem kc_S_lay_48 : vm_chk m_S_lay 48 k_S_lay_48 = some 51 := by decide +kernel
def k_S_lay_51 : List vm_I := [.inl .l2i, .inl (.iload 4), .inl .iadd]
theorem kc_S_lay_51 : vm_chk m_S_lay 51 k_S_lay_51 = some 55 := by decide +kernel
theorem v_S_lay_55 : vm_okV m_S_lay m_T_byteAt 55 73 1 (420, 246, 247, 43, 248) = true := by decide +kernel
theorem v_S_lay_58 : vm_okV m_S_lay m_P_setByte 58 77 2 (421, 413, 414, 44, 415) = true := by decide +kernel
def k_S_lay_61 : List vm_I := [.inr (.inr (.inr (4, 1)))]
theorem kc_S_lay_61 : vm_chk m_S_lay 61 k_S_lay_61 = some 64 := by decide +kernel
theorem d_S_lay_64 : vm_dec m_S_lay 64 (.goto (-33)) 3 = true := by decide +kernel
theorem d_S_lay_67 : vm_dec m_S_lay 67 .return_ 1 = true := by decide +kernel
def k_T_init_0 : List vm_I := [.inl (.aload_n 0)]
theorem kc_T_init_0 : vm_chk m_T_init 0 k_T_init_0 = some 1 := by decide +kernel
theorem d_T_init_1 : vm_dec m_T_init 1 (.invokespecial 3) 3 = true := by decide +kernel
def k_T_init_4 : List vm_I := [.inl (.aload_n 0), .inr (.inl (.int 900, 0))]
theorem kc_T_init_4 : vm_chk m_T_init 4 k_T_init_4 = some 8 := by decide +kernel
-- T_init_8 [8, 'newarray', 'byte', '']
def k_T_init_10 : List vm_I := [.inr (.inr (.inl (3, 64, 9, 3, 0))), .inl (.aload_n 0), .inr (.inl (.int 0, 0)), .inr (.inr (.inl (1, 65, 15, 3, 1)))]
theorem kc_T_init_10 : vm_chk m_T_init 10 k_T_init_10 = some 18 := by decide +kernel
theorem d_T_init_18 : vm_dec m_T_init 18 .return_ 1 = true := by decide +kernel
def k_T_size_0 : List vm_I := [.inl (.aload_n 0), .inr (.inr (.inl (0, 65, 15, 3, 1)))]
theorem kc_T_size_0 : vm_chk m_T_size 0 k_T_size_0 = some 4 := by decide +kernel
theorem d_T_size_4 : vm_dec m_T_size 4 .ireturn 1 = true := by decide +kernel
def k_T_hasRoomFor_0 : List vm_I := [.inl (.iload_n 1), .inr (.inl (.int 900, 0)), .inl (.aload_n 0), .inr (.inr (.inl (0, 65, 15, 3, 1))), .inl .isub]
theorem kc_T_hasRoomFor_0 : vm_chk m_T_hasRoomFor 0 k_T_hasRoomFor_0 = some 9 := by decide +kernel
theorem d_T_hasRoomFor_9 : vm_dec m_T_hasRoomFor 9 (.if_icmp .gt 7) 3 = true := by decide +kernel
def k_T_hasRoomFor_12 : List vm_I := [.inr (.inl (.int 1, 0))]
theorem kc_T_hasRoomFor_12 : vm_chk m_T_hasRoomFor 12 k_T_hasRoomFor_12 = some 13 := by decide +kernel
theorem d_T_hasRoomFor_13 : vm_dec m_T_hasRoomFor 13 (.goto 4) 3 = true := by decide +kernel
def k_T_hasRoomFor_16 : List vm_I := [.inr (.inl (.int 0, 0))]
theorem kc_T_hasRoomFor_16 : vm_chk m_T_hasRoomFor 16 k_T_hasRoomFor_16 = some 17 := by decide +kernel
theorem d_T_hasRoomFor_17 : vm_dec m_T_hasRoomFor 17 .ireturn 1 = true := by decide +kernel
def k_T_has_0 : List vm_I := [.inl (.lload_n 1), .inr (.inl (.long 0, 0))]
theorem kc_T_has_0 : vm_chk m_T_has 0 k_T_has_0 = some 2 := by decide +kernel
theorem dl_T_has_2 : vm_dec m_T_has 2 .lcmp 1 = true := by decide +kernel
theorem d_T_has_2 : vm_dec m_T_has 3 (.ifCond .lt 25) 3 = true := by decide +kernel
def k_T_has_6 : List vm_I := [.inl (.lload_n 3), .inr (.inl (.long 0, 0))]
theorem kc_T_has_6 : vm_chk m_T_has 6 k_T_has_6 = some 8 := by decide +kernel
theorem dl_T_has_8 : vm_dec m_T_has 8 .lcmp 1 = true := by decide +kernel
theorem d_T_has_8 : vm_dec m_T_has 9 (.ifCond .lt 19) 3 = true := by decide +kernel
def k_T_has_12 : List vm_I := [.inl (.lload_n 1), .inl (.lload_n 3), .inl .ladd, .inl (.aload_n 0), .inr (.inr (.inl (0, 65, 15, 3, 1))), .inl .i2l]
theorem kc_T_has_12 : vm_chk m_T_has 12 k_T_has_12 = some 20 := by decide +kernel
theorem dl_T_has_20 : vm_dec m_T_has 20 .lcmp 1 = true := by decide +kernel
theorem d_T_has_20 : vm_dec m_T_has 21 (.ifCond .gt 7) 3 = true := by decide +kernel
def k_T_has_24 : List vm_I := [.inr (.inl (.int 1, 0))]
theorem kc_T_has_24 : vm_chk m_T_has 24 k_T_has_24 = some 25 := by decide +kernel
theorem d_T_has_25 : vm_dec m_T_has 25 (.goto 4) 3 = true := by decide +kernel
def k_T_has_28 : List vm_I := [.inr (.inl (.int 0, 0))]
theorem kc_T_has_28 : vm_chk m_T_has 28 k_T_has_28 = some 29 := by decide +kernel
theorem d_T_has_29 : vm_dec m_T_has 29 .ireturn 1 = true := by decide +kernel
def k_T_append_0 : List vm_I := [.inl (.aload_n 0), .inr (.inr (.inl (0, 65, 15, 3, 1))), .inl (.aload_n 0), .inr (.inr (.inl (0, 64, 9, 3, 0))), .inl .arraylength]
theorem kc_T_append_0 : vm_chk m_T_append 0 k_T_append_0 = some 9 := by decide +kernel
theorem d_T_append_9 : vm_dec m_T_append 9 (.if_icmp .ge 24) 3 = true := by decide +kernel
def k_T_append_12 : List vm_I := [.inl (.aload_n 0), .inr (.inr (.inl (0, 64, 9, 3, 0))), .inl (.aload_n 0), .inr (.inr (.inl (0, 65, 15, 3, 1))), .inl (.iload_n 1), .inl .i2b, .inl .bastore, .inl (.aload_n 0), .inl .dup, .inr (.inr (.inl (0, 65, 15, 3, 1))), .inr (.inl (.int 1, 0)), .inl .iadd, .inr (.inr (.inl (1, 65, 15, 3, 1)))]
theorem kc_T_append_12 : vm_chk m_T_append 12 k_T_append_12 = some 33 := by decide +kernel
theorem d_T_append_33 : vm_dec m_T_append 33 .return_ 1 = true := by decide +kernel
def k_T_setByte_0 : List vm_I := [.inl (.iload_n 1)]
theorem kc_T_setByte_0 : vm_chk m_T_setByte 0 k_T_setByte_0 = some 1 := by decide +kernel
theorem d_T_setByte_1 : vm_dec m_T_setByte 1 (.ifCond .lt 19) 3 = true := by decide +kernel
def k_T_setByte_4 : List vm_I := [.inl (.iload_n 1), .inl (.aload_n 0), .inr (.inr (.inl (0, 65, 15, 3, 1)))]
theorem kc_T_setByte_4 : vm_chk m_T_setByte 4 k_T_setByte_4 = some 9 := by decide +kernel
theorem d_T_setByte_9 : vm_dec m_T_setByte 9 (.if_icmp .ge 11) 3 = true := by decide +kernel
def k_T_setByte_12 : List vm_I := [.inl (.aload_n 0), .inr (.inr (.inl (0, 64, 9, 3, 0))), .inl (.iload_n 1), .inl (.iload_n 2), .inl .i2b, .inl .bastore]
theorem kc_T_setByte_12 : vm_chk m_T_setByte 12 k_T_setByte_12 = some 20 := by decide +kernel
theorem d_T_setByte_20 : vm_dec m_T_setByte 20 .return_ 1 = true := by decide +kernel
def k_T_byteAt_0 : List vm_I := [.inl (.iload_n 1)]
theorem kc_T_byteAt_0 : vm_chk m_T_byteAt 0 k_T_byteAt_0 = some 1 := by decide +kernel
theorem d_T_byteAt_1 : vm_dec m_T_byteAt 1 (.ifCond .lt 24) 3 = true := by decide +kernel
def k_T_byteAt_4 : List vm_I := [.inl (.iload_n 1), .inl (.aload_n 0), .inr (.inr (.inl (0, 65, 15, 3, 1)))]
theorem kc_T_byteAt_4 : vm_chk m_T_byteAt 4 k_T_byteAt_4 = some 9 := by decide +kernel
theorem d_T_byteAt_9 : vm_dec m_T_byteAt 9 (.if_icmp .ge 16) 3 = true := by decide +kernel
def k_T_byteAt_12 : List vm_I := [.inl (.aload_n 0), .inr (.inr (.inl (0, 64, 9, 3, 0))), .inl (.iload_n 1), .inl .baload, .inr (.inl (.int 255, 0)), .inl .iand]
theorem kc_T_byteAt_12 : vm_chk m_T_byteAt 12 k_T_byteAt_12 = some 22 := by decide +kernel
theorem d_T_byteAt_22 : vm_dec m_T_byteAt 22 (.goto 4) 3 = true := by decide +kernel
def k_T_byteAt_25 : List vm_I := [.inr (.inl (.int 0, 0))]
theorem kc_T_byteAt_25 : vm_chk m_T_byteAt 25 k_T_byteAt_25 = some 26 := by decide +kernel
theorem d_T_byteAt_26 : vm_dec m_T_byteAt 26 .ireturn 1 = true := by decide +kernel
def k_T_half_0 : List vm_I := [.inl (.aload_n 0), .inl (.iload_n 1)]
theorem kc_T_half_0 : vm_chk m_T_half 0 k_T_half_0 = some 2 := by decide +kernel
theorem v_T_half_2 : vm_okV m_T_half m_T_byteAt 2 19 1 (281, 246, 247, 43, 248) = true := by decide +kernel
def k_T_half_5 : List vm_I := [.inl (.aload_n 0), .inl (.iload_n 1), .inr (.inl (.int 1, 0)), .inl .iadd]
theorem kc_T_half_5 : vm_chk m_T_half 5 k_T_half_5 = some 9 := by decide +kernel
theorem v_T_half_9 : vm_okV m_T_half m_T_byteAt 9 19 1 (281, 246, 247, 43, 248) = true := by decide +kernel
def k_T_half_12 : List vm_I := [.inr (.inl (.int 8, 0)), .inl .ishl, .inl .ior]
theorem kc_T_half_12 : vm_chk m_T_half 12 k_T_half_12 = some 16 := by decide +kernel
theorem d_T_half_16 : vm_dec m_T_half 16 .ireturn 1 = true := by decide +kernel
def k_T_word_0 : List vm_I := [.inl (.aload_n 0), .inl (.iload_n 1)]
theorem kc_T_word_0 : vm_chk m_T_word 0 k_T_word_0 = some 2 := by decide +kernel
theorem v_T_word_2 : vm_okV m_T_word m_T_byteAt 2 19 1 (281, 246, 247, 43, 248) = true := by decide +kernel
def k_T_word_5 : List vm_I := [.inl (.aload_n 0), .inl (.iload_n 1), .inr (.inl (.int 1, 0)), .inl .iadd]
theorem kc_T_word_5 : vm_chk m_T_word 5 k_T_word_5 = some 9 := by decide +kernel
theorem v_T_word_9 : vm_okV m_T_word m_T_byteAt 9 19 1 (281, 246, 247, 43, 248) = true := by decide +kernel
def k_T_word_12 : List vm_I := [.inr (.inl (.int 8, 0)), .inl .ishl, .inl .ior, .inl (.aload_n 0), .inl (.iload_n 1), .inr (.inl (.int 2, 0)), .inl .iadd]
theorem kc_T_word_12 : vm_chk m_T_word 12 k_T_word_12 = some 20 := by decide +kernel
theorem v_T_word_20 : vm_okV m_T_word m_T_byteAt 20 19 1 (281, 246, 247, 43, 248) = true := by decide +kernel
def k_T_word_23 : List vm_I := [.inr (.inl (.int 16, 0)), .inl .ishl, .inl .ior, .inl (.aload_n 0), .inl (.iload_n 1), .inr (.inl (.int 3, 0)), .inl .iadd]
theorem kc_T_word_23 : vm_chk m_T_word 23 k_T_word_23 = some 31 := by decide +kernel
theorem v_T_word_31 : vm_okV m_T_word m_T_byteAt 31 19 1 (281, 246, 247, 43, 248) = true := by decide +kernel
def k_T_word_34 : List vm_I := [.inr (.inl (.int 24, 0)), .inl .ishl, .inl .ior, .inl (.istore_n 2), .inl (.iload_n 2), .inl .i2l, .inr (.inl (.long 4294967295, 286)), .inl .land]
theorem kc_T_word_34 : vm_chk m_T_word 34 k_T_word_34 = some 45 := by decide +kernel
theorem d_T_word_45 : vm_dec m_T_word 45 .lreturn 1 = true := by decide +kernel
def k_T_lacksLastZero_0 : List vm_I := [.inl (.aload_n 0), .inr (.inr (.inl (0, 65, 15, 3, 1)))]
theorem kc_T_lacksLastZero_0 : vm_chk m_T_lacksLastZero 0 k_T_lacksLastZero_0 = some 4 := by decide +kernel
theorem d_T_lacksLastZero_4 : vm_dec m_T_lacksLastZero 4 (.ifCond .le 20) 3 = true := by decide +kernel
def k_T_lacksLastZero_7 : List vm_I := [.inl (.aload_n 0), .inl (.aload_n 0), .inr (.inr (.inl (0, 65, 15, 3, 1))), .inr (.inl (.int 1, 0)), .inl .isub]
theorem kc_T_lacksLastZero_7 : vm_chk m_T_lacksLastZero 7 k_T_lacksLastZero_7 = some 14 := by decide +kernel
theorem v_T_lacksLastZero_14 : vm_okV m_T_lacksLastZero m_T_byteAt 14 19 1 (281, 246, 247, 43, 248) = true := by decide +kernel
theorem d_T_lacksLastZero_17 : vm_dec m_T_lacksLastZero 17 (.ifCond .eq 7) 3 = true := by decide +kernel
def k_T_lacksLastZero_20 : List vm_I := [.inr (.inl (.int 1, 0))]
theorem kc_T_lacksLastZero_20 : vm_chk m_T_lacksLastZero 20 k_T_lacksLastZero_20 = some 21 := by decide +kernel
theorem d_T_lacksLastZero_21 : vm_dec m_T_lacksLastZero 21 (.goto 4) 3 = true := by decide +kernel
def k_T_lacksLastZero_24 : List vm_I := [.inr (.inl (.int 0, 0))]
theorem kc_T_lacksLastZero_24 : vm_chk m_T_lacksLastZero 24 k_T_lacksLastZero_24 = some 25 := by decide +kernel
theorem d_T_lacksLastZero_25 : vm_dec m_T_lacksLastZero 25 .ireturn 1 = true := by decide +kernel
def k_T_shorten_0 : List vm_I := [.inl (.iload_n 1)]
theorem kc_T_shorten_0 : vm_chk m_T_shorten 0 k_T_shorten_0 = some 1 := by decide +kernel
theorem d_T_shorten_1 : vm_dec m_T_shorten 1 (.ifCond .lt 16) 3 = true := by decide +kernel
def k_T_shorten_4 : List vm_I := [.inl (.iload_n 1), .inl (.aload_n 0), .inr (.inr (.inl (0, 65, 15, 3, 1)))]
theorem kc_T_shorten_4 : vm_chk m_T_shorten 4 k_T_shorten_4 = some 9 := by decide +kernel
theorem d_T_shorten_9 : vm_dec m_T_shorten 9 (.if_icmp .ge 8) 3 = true := by decide +kernel
def k_T_shorten_12 : List vm_I := [.inl (.aload_n 0), .inl (.iload_n 1), .inr (.inr (.inl (1, 65, 15, 3, 1)))]
theorem kc_T_shorten_12 : vm_chk m_T_shorten 12 k_T_shorten_12 = some 17 := by decide +kernel
theorem d_T_shorten_17 : vm_dec m_T_shorten 17 .return_ 1 = true := by decide +kernel
def k_K_bitCount_0 : List vm_I := [.inl (.lload_n 0), .inl (.lload_n 0), .inr (.inl (.int 1, 0)), .inl .lushr, .inr (.inl (.long 6148914691236517205, 310)), .inl .land, .inl .lsub, .inl (.lstore_n 0), .inl (.lload_n 0), .inr (.inl (.long 3689348814741910323, 311)), .inl .land, .inl (.lload_n 0), .inr (.inl (.int 2, 0)), .inl .lushr, .inr (.inl (.long 3689348814741910323, 311)), .inl .land, .inl .ladd, .inl (.lstore_n 0), .inl (.lload_n 0), .inl (.lload_n 0), .inr (.inl (.int 4, 0)), .inl .lushr, .inl .ladd, .inr (.inl (.long 1085102592571150095, 312)), .inl .land, .inl (.lstore_n 0), .inl (.lload_n 0), .inl (.lload_n 0), .inr (.inl (.int 8, 0)), .inl .lushr, .inl .ladd, .inl (.lstore_n 0), .inl (.lload_n 0), .inl (.lload_n 0), .inr (.inl (.int 16, 0)), .inl .lushr, .inl .ladd, .inl (.lstore_n 0), .inl (.lload_n 0), .inl (.lload_n 0), .inr (.inl (.int 32, 0)), .inl .lushr, .inl .ladd, .inl (.lstore_n 0), .inl (.lload_n 0), .inl .l2i, .inr (.inl (.int 127, 0)), .inl .iand]
theorem kc_K_bitCount_0 : vm_chk m_K_bitCount 0 k_K_bitCount_0 = some 60 := by decide +kernel
theorem d_K_bitCount_60 : vm_dec m_K_bitCount 60 .ireturn 1 = true := by decide +kernel
def k_J_floorDiv_0 : List vm_I := [.inl (.iload_n 0), .inl (.iload_n 1), .inl .idiv, .inl (.istore_n 2), .inl (.iload_n 0), .inl (.iload_n 1), .inl .ixor]
theorem kc_J_floorDiv_0 : vm_chk m_J_floorDiv 0 k_J_floorDiv_0 = some 7 := by decide +kernel
theorem d_J_floorDiv_7 : vm_dec m_J_floorDiv 7 (.ifCond .ge 14) 3 = true := by decide +kernel
def k_J_floorDiv_10 : List vm_I := [.inl (.iload_n 2), .inl (.iload_n 1), .inl .imul, .inl (.iload_n 0)]
theorem kc_J_floorDiv_10 : vm_chk m_J_floorDiv 10 k_J_floorDiv_10 = some 14 := by decide +kernel
theorem d_J_floorDiv_14 : vm_dec m_J_floorDiv 14 (.if_icmp .eq 7) 3 = true := by decide +kernel
def k_J_floorDiv_17 : List vm_I := [.inl (.iload_n 2), .inr (.inl (.int 1, 0)), .inl .isub]
theorem kc_J_floorDiv_17 : vm_chk m_J_floorDiv 17 k_J_floorDiv_17 = some 20 := by decide +kernel
theorem d_J_floorDiv_20 : vm_dec m_J_floorDiv 20 .ireturn 1 = true := by decide +kernel
def k_J_floorDiv_21 : List vm_I := [.inl (.iload_n 2)]
theorem kc_J_floorDiv_21 : vm_chk m_J_floorDiv 21 k_J_floorDiv_21 = some 22 := by decide +kernel
theorem d_J_floorDiv_22 : vm_dec m_J_floorDiv 22 .ireturn 1 = true := by decide +kernel
def k_J_floorMod_0 : List vm_I := [.inl (.iload_n 0), .inl (.iload_n 1), .inl .irem, .inl (.istore_n 2), .inl (.iload_n 0), .inl (.iload_n 1), .inl .ixor]
theorem kc_J_floorMod_0 : vm_chk m_J_floorMod 0 k_J_floorMod_0 = some 7 := by decide +kernel
theorem d_J_floorMod_7 : vm_dec m_J_floorMod 7 (.ifCond .ge 11) 3 = true := by decide +kernel
def k_J_floorMod_10 : List vm_I := [.inl (.iload_n 2)]
theorem kc_J_floorMod_10 : vm_chk m_J_floorMod 10 k_J_floorMod_10 = some 11 := by decide +kernel
theorem d_J_floorMod_11 : vm_dec m_J_floorMod 11 (.ifCond .eq 7) 3 = true := by decide +kernel
def k_J_floorMod_14 : List vm_I := [.inl (.iload_n 2), .inl (.iload_n 1), .inl .iadd]
theorem kc_J_floorMod_14 : vm_chk m_J_floorMod 14 k_J_floorMod_14 = some 17 := by decide +kernel
theorem d_J_floorMod_17 : vm_dec m_J_floorMod 17 .ireturn 1 = true := by decide +kernel
def k_J_floorMod_18 : List vm_I := [.inl (.iload_n 2)]
theorem kc_J_floorMod_18 : vm_chk m_J_floorMod 18 k_J_floorMod_18 = some 19 := by decide +kernel
theorem d_J_floorMod_19 : vm_dec m_J_floorMod 19 .ireturn 1 = true := by decide +kernel
def k_J_max_0 : List vm_I := [.inl (.iload_n 0), .inl (.iload_n 1)]
theorem kc_J_max_0 : vm_chk m_J_max 0 k_J_max_0 = some 2 := by decide +kernel
theorem d_J_max_2 : vm_dec m_J_max 2 (.if_icmp .lt 7) 3 = true := by decide +kernel
def k_J_max_5 : List vm_I := [.inl (.iload_n 0)]
theorem kc_J_max_5 : vm_chk m_J_max 5 k_J_max_5 = some 6 := by decide +kernel
theorem d_J_max_6 : vm_dec m_J_max 6 (.goto 4) 3 = true := by decide +kernel
def k_J_max_9 : List vm_I := [.inl (.iload_n 1)]
theorem kc_J_max_9 : vm_chk m_J_max 9 k_J_max_9 = some 10 := by decide +kernel
theorem d_J_max_10 : vm_dec m_J_max 10 .ireturn 1 = true := by decide +kernel
def k_J_min_0 : List vm_I := [.inl (.iload_n 0), .inl (.iload_n 1)]
theorem kc_J_min_0 : vm_chk m_J_min 0 k_J_min_0 = some 2 := by decide +kernel
theorem d_J_min_2 : vm_dec m_J_min 2 (.if_icmp .gt 7) 3 = true := by decide +kernel
def k_J_min_5 : List vm_I := [.inl (.iload_n 0)]
theorem kc_J_min_5 : vm_chk m_J_min 5 k_J_min_5 = some 6 := by decide +kernel
theorem d_J_min_6 : vm_dec m_J_min 6 (.goto 4) 3 = true := by decide +kernel
def k_J_min_9 : List vm_I := [.inl (.iload_n 1)]
theorem kc_J_min_9 : vm_chk m_J_min 9 k_J_min_9 = some 10 := by decide +kernel
theorem d_J_min_10 : vm_dec m_J_min 10 .ireturn 1 = true := by decide +kernel
def k_J_minJ_0 : List vm_I := [.inl (.lload_n 0), .inl (.lload_n 2)]
theorem kc_J_minJ_0 : vm_chk m_J_minJ 0 k_J_minJ_0 = some 2 := by decide +kernel
theorem dl_J_minJ_2 : vm_dec m_J_minJ 2 .lcmp 1 = true := by decide +kernel
theorem d_J_minJ_2 : vm_dec m_J_minJ 3 (.ifCond .gt 7) 3 = true := by decide +kernel
def k_J_minJ_6 : List vm_I := [.inl (.lload_n 0)]
theorem kc_J_minJ_6 : vm_chk m_J_minJ 6 k_J_minJ_6 = some 7 := by decide +kernel
theorem d_J_minJ_7 : vm_dec m_J_minJ 7 (.goto 4) 3 = true := by decide +kernel
def k_J_minJ_10 : List vm_I := [.inl (.lload_n 2)]
theorem kc_J_minJ_10 : vm_chk m_J_minJ 10 k_J_minJ_10 = some 11 := by decide +kernel
theorem d_J_minJ_11 : vm_dec m_J_minJ 11 .lreturn 1 = true := by decide +kernel
