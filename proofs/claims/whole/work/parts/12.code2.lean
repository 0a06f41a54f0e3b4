def k_I_init_0 : List vm_I := [.inl (.aload_n 0)]
theorem kc_I_init_0 : vm_chk m_I_init 0 k_I_init_0 = some 1 := by decide +kernel
theorem d_I_init_1 : vm_dec m_I_init 1 (.invokespecial 3) 3 = true := by decide +kernel
def k_I_init_4 : List vm_I := [.inl (.aload_n 0), .inr (.inl (.int 8, 0))]
theorem kc_I_init_4 : vm_chk m_I_init 4 k_I_init_4 = some 7 := by decide +kernel
-- I_init_7 [7, 'anewarray', '#11', 'class ImageLoader$Segment']
def k_I_init_10 : List vm_I := [.inr (.inr (.inl (3, 141, 13, 0, 0))), .inr (.inl (.int 0, 0)), .inl (.istore_n 1)]
theorem kc_I_init_10 : vm_chk m_I_init 10 k_I_init_10 = some 15 := by decide +kernel
def k_I_init_15 : List vm_I := [.inl (.iload_n 1), .inr (.inl (.int 8, 0))]
theorem kc_I_init_15 : vm_chk m_I_init 15 k_I_init_15 = some 18 := by decide +kernel
theorem d_I_init_18 : vm_dec m_I_init 18 (.if_icmp .ge 22) 3 = true := by decide +kernel
def k_I_init_21 : List vm_I := [.inl (.aload_n 0), .inr (.inr (.inl (0, 141, 13, 0, 0))), .inl (.iload_n 1)]
theorem kc_I_init_21 : vm_chk m_I_init 21 k_I_init_21 = some 26 := by decide +kernel
-- I_init_26 [26, 'new', '#11', 'class ImageLoader$Segment']
def k_I_init_29 : List vm_I := [.inl .dup]
theorem kc_I_init_29 : vm_chk m_I_init 29 k_I_init_29 = some 30 := by decide +kernel
-- theorem v_I_init_30 : vm_okIN m_I_init m_S_init 30 17 0 (0, 108, 47, 109) = true := by decide +kernel
theorem d_I_init_33 : vm_dec m_I_init 33 .aastore 1 = true := by decide +kernel
def k_I_init_34 : List vm_I := [.inr (.inr (.inr (1, 1)))]
theorem kc_I_init_34 : vm_chk m_I_init 34 k_I_init_34 = some 37 := by decide +kernel
theorem d_I_init_37 : vm_dec m_I_init 37 (.goto (-22)) 3 = true := by decide +kernel
def k_I_init_40 : List vm_I := [.inl (.aload_n 0)]
theorem kc_I_init_40 : vm_chk m_I_init 40 k_I_init_40 = some 41 := by decide +kernel
theorem v_I_init_41 : vm_okV m_I_init m_I_forget 41 18 0 (137, 139, 0, 46, 140) = true := by decide +kernel
theorem d_I_init_44 : vm_dec m_I_init 44 .return_ 1 = true := by decide +kernel
def k_I_faultPlace_0 : List vm_I := [.inl (.aload_n 0), .inr (.inr (.inl (0, 143, 21, 0, 2)))]
theorem kc_I_faultPlace_0 : vm_chk m_I_faultPlace 0 k_I_faultPlace_0 = some 4 := by decide +kernel
theorem d_I_faultPlace_4 : vm_dec m_I_faultPlace 4 .ireturn 1 = true := by decide +kernel
def k_I_base_0 : List vm_I := [.inl (.aload_n 0), .inr (.inr (.inl (0, 144, 25, 0, 3)))]
theorem kc_I_base_0 : vm_chk m_I_base 0 k_I_base_0 = some 4 := by decide +kernel
theorem d_I_base_4 : vm_dec m_I_base 4 .ireturn 1 = true := by decide +kernel
def k_I_entry_0 : List vm_I := [.inl (.aload_n 0), .inr (.inr (.inl (0, 145, 28, 0, 4)))]
theorem kc_I_entry_0 : vm_chk m_I_entry 0 k_I_entry_0 = some 4 := by decide +kernel
theorem d_I_entry_4 : vm_dec m_I_entry 4 .ireturn 1 = true := by decide +kernel
def k_I_pagesWanted_0 : List vm_I := [.inl (.aload_n 0), .inr (.inr (.inl (0, 146, 31, 0, 5)))]
theorem kc_I_pagesWanted_0 : vm_chk m_I_pagesWanted 0 k_I_pagesWanted_0 = some 4 := by decide +kernel
theorem d_I_pagesWanted_4 : vm_dec m_I_pagesWanted 4 .ireturn 1 = true := by decide +kernel
def k_I_relocationCount_0 : List vm_I := [.inl (.aload_n 0), .inr (.inr (.inl (0, 153, 34, 0, 12)))]
theorem kc_I_relocationCount_0 : vm_chk m_I_relocationCount 0 k_I_relocationCount_0 = some 4 := by decide +kernel
theorem d_I_relocationCount_4 : vm_dec m_I_relocationCount 4 .ireturn 1 = true := by decide +kernel
def k_I_bring_0 : List vm_I := [.inl (.aload_n 0)]
theorem kc_I_bring_0 : vm_chk m_I_bring 0 k_I_bring_0 = some 1 := by decide +kernel
theorem v_I_bring_1 : vm_okV m_I_bring m_I_forget 1 18 0 (137, 139, 0, 46, 140) = true := by decide +kernel
def k_I_bring_4 : List vm_I := [.inl (.aload_n 0), .inl (.aload_n 1)]
theorem kc_I_bring_4 : vm_chk m_I_bring 4 k_I_bring_4 = some 6 := by decide +kernel
theorem v_I_bring_6 : vm_okV m_I_bring m_I_headerFault 6 37 1 (265, 267, 1, 46, 268) = true := by decide +kernel
def k_I_bring_9 : List vm_I := [.inl (.istore 4), .inl (.iload 4)]
theorem kc_I_bring_9 : vm_chk m_I_bring 9 k_I_bring_9 = some 13 := by decide +kernel
theorem d_I_bring_13 : vm_dec m_I_bring 13 (.ifCond .eq 6) 3 = true := by decide +kernel
def k_I_bring_16 : List vm_I := [.inl (.iload 4)]
theorem kc_I_bring_16 : vm_chk m_I_bring 16 k_I_bring_16 = some 18 := by decide +kernel
theorem d_I_bring_18 : vm_dec m_I_bring 18 .ireturn 1 = true := by decide +kernel
def k_I_bring_19 : List vm_I := [.inl (.aload_n 0), .inl (.aload_n 1), .inr (.inl (.int 16, 0))]
theorem kc_I_bring_19 : vm_chk m_I_bring 19 k_I_bring_19 = some 23 := by decide +kernel
theorem v_I_bring_23 : vm_okV m_I_bring m_T_half 23 41 1 (277, 278, 279, 43, 280) = true := by decide +kernel
def k_I_bring_26 : List vm_I := [.inr (.inl (.int 2, 0))]
theorem kc_I_bring_26 : vm_chk m_I_bring 26 k_I_bring_26 = some 27 := by decide +kernel
theorem d_I_bring_27 : vm_dec m_I_bring 27 (.if_icmp .ne 7) 3 = true := by decide +kernel
def k_I_bring_30 : List vm_I := [.inr (.inl (.int 0, 0))]
theorem kc_I_bring_30 : vm_chk m_I_bring 30 k_I_bring_30 = some 31 := by decide +kernel
theorem d_I_bring_31 : vm_dec m_I_bring 31 (.goto 4) 3 = true := by decide +kernel
def k_I_bring_34 : List vm_I := [.inl (.iload_n 3)]
theorem kc_I_bring_34 : vm_chk m_I_bring 34 k_I_bring_34 = some 35 := by decide +kernel
def k_I_bring_35 : List vm_I := [.inr (.inr (.inl (1, 144, 25, 0, 3))), .inl (.aload_n 0), .inl (.aload_n 1), .inl (.aload_n 2)]
theorem kc_I_bring_35 : vm_chk m_I_bring 35 k_I_bring_35 = some 41 := by decide +kernel
theorem v_I_bring_41 : vm_okV m_I_bring m_I_headsFault 41 47 2 (288, 290, 3, 46, 291) = true := by decide +kernel
def k_I_bring_44 : List vm_I := [.inl (.istore 4), .inl (.iload 4)]
theorem kc_I_bring_44 : vm_chk m_I_bring 44 k_I_bring_44 = some 48 := by decide +kernel
theorem d_I_bring_48 : vm_dec m_I_bring 48 (.ifCond .ne 10) 3 = true := by decide +kernel
def k_I_bring_51 : List vm_I := [.inl (.aload_n 0), .inl (.aload_n 1)]
theorem kc_I_bring_51 : vm_chk m_I_bring 51 k_I_bring_51 = some 53 := by decide +kernel
theorem v_I_bring_53 : vm_okV m_I_bring m_I_entryFault 53 51 1 (366, 368, 7, 46, 369) = true := by decide +kernel
def k_I_bring_56 : List vm_I := [.inl (.istore 4)]
theorem kc_I_bring_56 : vm_chk m_I_bring 56 k_I_bring_56 = some 58 := by decide +kernel
def k_I_bring_58 : List vm_I := [.inl (.iload 4)]
theorem kc_I_bring_58 : vm_chk m_I_bring 58 k_I_bring_58 = some 60 := by decide +kernel
theorem d_I_bring_60 : vm_dec m_I_bring 60 (.ifCond .ne 10) 3 = true := by decide +kernel
def k_I_bring_63 : List vm_I := [.inl (.aload_n 0), .inl (.aload_n 1)]
theorem kc_I_bring_63 : vm_chk m_I_bring 63 k_I_bring_63 = some 65 := by decide +kernel
theorem v_I_bring_65 : vm_okV m_I_bring m_I_dynamicFault 65 54 1 (374, 376, 8, 46, 377) = true := by decide +kernel
def k_I_bring_68 : List vm_I := [.inl (.istore 4)]
theorem kc_I_bring_68 : vm_chk m_I_bring 68 k_I_bring_68 = some 70 := by decide +kernel
def k_I_bring_70 : List vm_I := [.inl (.iload 4)]
theorem kc_I_bring_70 : vm_chk m_I_bring 70 k_I_bring_70 = some 72 := by decide +kernel
theorem d_I_bring_72 : vm_dec m_I_bring 72 (.ifCond .eq 6) 3 = true := by decide +kernel
def k_I_bring_75 : List vm_I := [.inl (.iload 4)]
theorem kc_I_bring_75 : vm_chk m_I_bring 75 k_I_bring_75 = some 77 := by decide +kernel
theorem d_I_bring_77 : vm_dec m_I_bring 77 .ireturn 1 = true := by decide +kernel
def k_I_bring_78 : List vm_I := [.inl (.aload_n 0), .inl (.aload_n 1), .inl (.aload_n 2)]
theorem kc_I_bring_78 : vm_chk m_I_bring 78 k_I_bring_78 = some 81 := by decide +kernel
theorem v_I_bring_81 : vm_okV m_I_bring m_I_lay 81 57 2 (392, 394, 11, 46, 395) = true := by decide +kernel
def k_I_bring_84 : List vm_I := [.inl (.aload_n 0), .inl (.aload_n 2)]
theorem kc_I_bring_84 : vm_chk m_I_bring 84 k_I_bring_84 = some 86 := by decide +kernel
theorem v_I_bring_86 : vm_okV m_I_bring m_I_relocationsFault 86 61 1 (422, 424, 13, 46, 425) = true := by decide +kernel
def k_I_bring_89 : List vm_I := [.inl (.istore 4), .inl (.iload 4)]
theorem kc_I_bring_89 : vm_chk m_I_bring 89 k_I_bring_89 = some 93 := by decide +kernel
theorem d_I_bring_93 : vm_dec m_I_bring 93 (.ifCond .eq 8) 3 = true := by decide +kernel
def k_I_bring_96 : List vm_I := [.inl (.aload_n 0), .inl (.aload_n 2)]
theorem kc_I_bring_96 : vm_chk m_I_bring 96 k_I_bring_96 = some 98 := by decide +kernel
theorem v_I_bring_98 : vm_okV m_I_bring m_I_takeBack 98 65 1 (451, 453, 17, 46, 454) = true := by decide +kernel
def k_I_bring_101 : List vm_I := [.inl (.iload 4)]
theorem kc_I_bring_101 : vm_chk m_I_bring 101 k_I_bring_101 = some 103 := by decide +kernel
theorem d_I_bring_103 : vm_dec m_I_bring 103 .ireturn 1 = true := by decide +kernel
def k_I_forget_0 : List vm_I := [.inl (.aload_n 0), .inr (.inl (.int 0, 0)), .inr (.inr (.inl (1, 142, 69, 0, 1))), .inl (.aload_n 0), .inr (.inl (.int (-1), 0)), .inr (.inr (.inl (1, 143, 21, 0, 2))), .inl (.aload_n 0), .inr (.inl (.int 0, 0)), .inr (.inr (.inl (1, 144, 25, 0, 3))), .inl (.aload_n 0), .inr (.inl (.int (-1), 0)), .inr (.inr (.inl (1, 145, 28, 0, 4))), .inl (.aload_n 0), .inr (.inl (.int 0, 0)), .inr (.inr (.inl (1, 146, 31, 0, 5))), .inl (.aload_n 0), .inr (.inl (.int (-1), 0)), .inr (.inr (.inl (1, 147, 72, 0, 6))), .inl (.aload_n 0), .inr (.inl (.long 0, 0)), .inr (.inr (.inl (1, 148, 75, 0, 7))), .inl (.aload_n 0), .inr (.inl (.long 0, 0)), .inr (.inr (.inl (1, 149, 79, 0, 8))), .inl (.aload_n 0), .inr (.inl (.long 0, 0)), .inr (.inr (.inl (1, 150, 82, 0, 9))), .inl (.aload_n 0), .inr (.inl (.long 0, 0)), .inr (.inr (.inl (1, 151, 85, 0, 10))), .inl (.aload_n 0), .inr (.inl (.long 0, 0)), .inr (.inr (.inl (1, 152, 88, 0, 11))), .inl (.aload_n 0), .inr (.inl (.int 0, 0)), .inr (.inr (.inl (1, 153, 34, 0, 12)))]
theorem kc_I_forget_0 : vm_chk m_I_forget 0 k_I_forget_0 = some 60 := by decide +kernel
theorem d_I_forget_60 : vm_dec m_I_forget 60 .return_ 1 = true := by decide +kernel
def k_I_fault_0 : List vm_I := [.inl (.aload_n 0), .inl (.iload_n 2), .inr (.inr (.inl (1, 143, 21, 0, 2))), .inl (.iload_n 1)]
theorem kc_I_fault_0 : vm_chk m_I_fault 0 k_I_fault_0 = some 6 := by decide +kernel
theorem d_I_fault_6 : vm_dec m_I_fault 6 .ireturn 1 = true := by decide +kernel
def k_I_headerFault_0 : List vm_I := [.inl (.aload_n 1)]
theorem kc_I_headerFault_0 : vm_chk m_I_headerFault 0 k_I_headerFault_0 = some 1 := by decide +kernel
theorem v_I_headerFault_1 : vm_okV m_I_headerFault m_T_size 1 91 0 (269, 219, 220, 43, 221) = true := by decide +kernel
def k_I_headerFault_4 : List vm_I := [.inr (.inl (.int 52, 0))]
theorem kc_I_headerFault_4 : vm_chk m_I_headerFault 4 k_I_headerFault_4 = some 6 := by decide +kernel
theorem d_I_headerFault_6 : vm_dec m_I_headerFault 6 (.if_icmp .ge 13) 3 = true := by decide +kernel
def k_I_headerFault_9 : List vm_I := [.inl (.aload_n 0), .inr (.inl (.int 1, 0)), .inl (.aload_n 1)]
theorem kc_I_headerFault_9 : vm_chk m_I_headerFault 9 k_I_headerFault_9 = some 12 := by decide +kernel
theorem v_I_headerFault_12 : vm_okV m_I_headerFault m_T_size 12 91 0 (269, 219, 220, 43, 221) = true := by decide +kernel
theorem v_I_headerFault_15 : vm_okV m_I_headerFault m_I_fault 15 95 2 (270, 272, 2, 46, 273) = true := by decide +kernel
theorem d_I_headerFault_18 : vm_dec m_I_headerFault 18 .ireturn 1 = true := by decide +kernel
def k_I_headerFault_19 : List vm_I := [.inr (.inl (.int 0, 0)), .inl (.istore_n 2)]
theorem kc_I_headerFault_19 : vm_chk m_I_headerFault 19 k_I_headerFault_19 = some 21 := by decide +kernel
def k_I_headerFault_21 : List vm_I := [.inl (.iload_n 2), .inr (.inr (.inl (4, 274, 99, 0, 0))), .inl .arraylength]
theorem kc_I_headerFault_21 : vm_chk m_I_headerFault 21 k_I_headerFault_21 = some 26 := by decide +kernel
theorem d_I_headerFault_26 : vm_dec m_I_headerFault 26 (.if_icmp .ge 29) 3 = true := by decide +kernel
def k_I_headerFault_29 : List vm_I := [.inl (.aload_n 1), .inl (.iload_n 2)]
theorem kc_I_headerFault_29 : vm_chk m_I_headerFault 29 k_I_headerFault_29 = some 31 := by decide +kernel
theorem v_I_headerFault_31 : vm_okV m_I_headerFault m_T_byteAt 31 103 1 (276, 246, 247, 43, 248) = true := by decide +kernel
def k_I_headerFault_34 : List vm_I := [.inr (.inr (.inl (4, 274, 99, 0, 0))), .inl (.iload_n 2), .inl .iaload]
theorem kc_I_headerFault_34 : vm_chk m_I_headerFault 34 k_I_headerFault_34 = some 39 := by decide +kernel
theorem d_I_headerFault_39 : vm_dec m_I_headerFault 39 (.if_icmp .eq 10) 3 = true := by decide +kernel
def k_I_headerFault_42 : List vm_I := [.inl (.aload_n 0), .inr (.inl (.int 2, 0)), .inl (.iload_n 2)]
theorem kc_I_headerFault_42 : vm_chk m_I_headerFault 42 k_I_headerFault_42 = some 45 := by decide +kernel
theorem v_I_headerFault_45 : vm_okV m_I_headerFault m_I_fault 45 95 2 (270, 272, 2, 46, 273) = true := by decide +kernel
theorem d_I_headerFault_48 : vm_dec m_I_headerFault 48 .ireturn 1 = true := by decide +kernel
def k_I_headerFault_49 : List vm_I := [.inr (.inr (.inr (2, 1)))]
theorem kc_I_headerFault_49 : vm_chk m_I_headerFault 49 k_I_headerFault_49 = some 52 := by decide +kernel
theorem d_I_headerFault_52 : vm_dec m_I_headerFault 52 (.goto (-31)) 3 = true := by decide +kernel
def k_I_headerFault_55 : List vm_I := [.inl (.aload_n 1), .inr (.inl (.int 16, 0))]
theorem kc_I_headerFault_55 : vm_chk m_I_headerFault 55 k_I_headerFault_55 = some 58 := by decide +kernel
theorem v_I_headerFault_58 : vm_okV m_I_headerFault m_T_half 58 41 1 (277, 278, 279, 43, 280) = true := by decide +kernel
def k_I_headerFault_61 : List vm_I := [.inl (.istore_n 2), .inl (.iload_n 2), .inr (.inl (.int 2, 0))]
theorem kc_I_headerFault_61 : vm_chk m_I_headerFault 61 k_I_headerFault_61 = some 64 := by decide +kernel
theorem d_I_headerFault_64 : vm_dec m_I_headerFault 64 (.if_icmp .eq 16) 3 = true := by decide +kernel
def k_I_headerFault_67 : List vm_I := [.inl (.iload_n 2), .inr (.inl (.int 3, 0))]
theorem kc_I_headerFault_67 : vm_chk m_I_headerFault 67 k_I_headerFault_67 = some 69 := by decide +kernel
theorem d_I_headerFault_69 : vm_dec m_I_headerFault 69 (.if_icmp .eq 11) 3 = true := by decide +kernel
def k_I_headerFault_72 : List vm_I := [.inl (.aload_n 0), .inr (.inl (.int 3, 0)), .inr (.inl (.int 16, 0))]
theorem kc_I_headerFault_72 : vm_chk m_I_headerFault 72 k_I_headerFault_72 = some 76 := by decide +kernel
theorem v_I_headerFault_76 : vm_okV m_I_headerFault m_I_fault 76 95 2 (270, 272, 2, 46, 273) = true := by decide +kernel
theorem d_I_headerFault_79 : vm_dec m_I_headerFault 79 .ireturn 1 = true := by decide +kernel
def k_I_headerFault_80 : List vm_I := [.inl (.aload_n 1), .inr (.inl (.int 18, 0))]
theorem kc_I_headerFault_80 : vm_chk m_I_headerFault 80 k_I_headerFault_80 = some 83 := by decide +kernel
theorem v_I_headerFault_83 : vm_okV m_I_headerFault m_T_half 83 41 1 (277, 278, 279, 43, 280) = true := by decide +kernel
def k_I_headerFault_86 : List vm_I := [.inr (.inl (.int 243, 0))]
theorem kc_I_headerFault_86 : vm_chk m_I_headerFault 86 k_I_headerFault_86 = some 89 := by decide +kernel
theorem d_I_headerFault_89 : vm_dec m_I_headerFault 89 (.if_icmp .eq 11) 3 = true := by decide +kernel
def k_I_headerFault_92 : List vm_I := [.inl (.aload_n 0), .inr (.inl (.int 4, 0)), .inr (.inl (.int 18, 0))]
theorem kc_I_headerFault_92 : vm_chk m_I_headerFault 92 k_I_headerFault_92 = some 96 := by decide +kernel
theorem v_I_headerFault_96 : vm_okV m_I_headerFault m_I_fault 96 95 2 (270, 272, 2, 46, 273) = true := by decide +kernel
theorem d_I_headerFault_99 : vm_dec m_I_headerFault 99 .ireturn 1 = true := by decide +kernel
def k_I_headerFault_100 : List vm_I := [.inl (.aload_n 1), .inr (.inl (.int 20, 0))]
theorem kc_I_headerFault_100 : vm_chk m_I_headerFault 100 k_I_headerFault_100 = some 103 := by decide +kernel
theorem v_I_headerFault_103 : vm_okV m_I_headerFault m_T_word 103 106 1 (282, 283, 284, 43, 285) = true := by decide +kernel
def k_I_headerFault_106 : List vm_I := [.inr (.inl (.long 1, 0))]
theorem kc_I_headerFault_106 : vm_chk m_I_headerFault 106 k_I_headerFault_106 = some 107 := by decide +kernel
theorem dl_I_headerFault_107 : vm_dec m_I_headerFault 107 .lcmp 1 = true := by decide +kernel
theorem d_I_headerFault_107 : vm_dec m_I_headerFault 108 (.ifCond .eq 11) 3 = true := by decide +kernel
def k_I_headerFault_111 : List vm_I := [.inl (.aload_n 0), .inr (.inl (.int 5, 0)), .inr (.inl (.int 20, 0))]
theorem kc_I_headerFault_111 : vm_chk m_I_headerFault 111 k_I_headerFault_111 = some 115 := by decide +kernel
theorem v_I_headerFault_115 : vm_okV m_I_headerFault m_I_fault 115 95 2 (270, 272, 2, 46, 273) = true := by decide +kernel
theorem d_I_headerFault_118 : vm_dec m_I_headerFault 118 .ireturn 1 = true := by decide +kernel
def k_I_headerFault_119 : List vm_I := [.inl (.aload_n 1), .inr (.inl (.int 40, 0))]
theorem kc_I_headerFault_119 : vm_chk m_I_headerFault 119 k_I_headerFault_119 = some 122 := by decide +kernel
theorem v_I_headerFault_122 : vm_okV m_I_headerFault m_T_half 122 41 1 (277, 278, 279, 43, 280) = true := by decide +kernel
def k_I_headerFault_125 : List vm_I := [.inr (.inl (.int 52, 0))]
theorem kc_I_headerFault_125 : vm_chk m_I_headerFault 125 k_I_headerFault_125 = some 127 := by decide +kernel
theorem d_I_headerFault_127 : vm_dec m_I_headerFault 127 (.if_icmp .eq 12) 3 = true := by decide +kernel
def k_I_headerFault_130 : List vm_I := [.inl (.aload_n 0), .inr (.inl (.int 6, 0)), .inr (.inl (.int 40, 0))]
theorem kc_I_headerFault_130 : vm_chk m_I_headerFault 130 k_I_headerFault_130 = some 135 := by decide +kernel
theorem v_I_headerFault_135 : vm_okV m_I_headerFault m_I_fault 135 95 2 (270, 272, 2, 46, 273) = true := by decide +kernel
theorem d_I_headerFault_138 : vm_dec m_I_headerFault 138 .ireturn 1 = true := by decide +kernel
def k_I_headerFault_139 : List vm_I := [.inl (.aload_n 1), .inr (.inl (.int 42, 0))]
theorem kc_I_headerFault_139 : vm_chk m_I_headerFault 139 k_I_headerFault_139 = some 142 := by decide +kernel
theorem v_I_headerFault_142 : vm_okV m_I_headerFault m_T_half 142 41 1 (277, 278, 279, 43, 280) = true := by decide +kernel
def k_I_headerFault_145 : List vm_I := [.inr (.inl (.int 32, 0))]
theorem kc_I_headerFault_145 : vm_chk m_I_headerFault 145 k_I_headerFault_145 = some 147 := by decide +kernel
theorem d_I_headerFault_147 : vm_dec m_I_headerFault 147 (.if_icmp .eq 12) 3 = true := by decide +kernel
def k_I_headerFault_150 : List vm_I := [.inl (.aload_n 0), .inr (.inl (.int 6, 0)), .inr (.inl (.int 42, 0))]
theorem kc_I_headerFault_150 : vm_chk m_I_headerFault 150 k_I_headerFault_150 = some 155 := by decide +kernel
theorem v_I_headerFault_155 : vm_okV m_I_headerFault m_I_fault 155 95 2 (270, 272, 2, 46, 273) = true := by decide +kernel
theorem d_I_headerFault_158 : vm_dec m_I_headerFault 158 .ireturn 1 = true := by decide +kernel
def k_I_headerFault_159 : List vm_I := [.inl (.aload_n 1), .inr (.inl (.int 44, 0))]
theorem kc_I_headerFault_159 : vm_chk m_I_headerFault 159 k_I_headerFault_159 = some 162 := by decide +kernel
theorem v_I_headerFault_162 : vm_okV m_I_headerFault m_T_half 162 41 1 (277, 278, 279, 43, 280) = true := by decide +kernel
def k_I_headerFault_165 : List vm_I := [.inl (.istore_n 3), .inl (.iload_n 3), .inr (.inl (.int 1, 0))]
theorem kc_I_headerFault_165 : vm_chk m_I_headerFault 165 k_I_headerFault_165 = some 168 := by decide +kernel
theorem d_I_headerFault_168 : vm_dec m_I_headerFault 168 (.if_icmp .lt 9) 3 = true := by decide +kernel
def k_I_headerFault_171 : List vm_I := [.inl (.iload_n 3), .inr (.inl (.int 8, 0))]
theorem kc_I_headerFault_171 : vm_chk m_I_headerFault 171 k_I_headerFault_171 = some 174 := by decide +kernel
theorem d_I_headerFault_174 : vm_dec m_I_headerFault 174 (.if_icmp .le 12) 3 = true := by decide +kernel
def k_I_headerFault_177 : List vm_I := [.inl (.aload_n 0), .inr (.inl (.int 7, 0)), .inr (.inl (.int 44, 0))]
theorem kc_I_headerFault_177 : vm_chk m_I_headerFault 177 k_I_headerFault_177 = some 182 := by decide +kernel
theorem v_I_headerFault_182 : vm_okV m_I_headerFault m_I_fault 182 95 2 (270, 272, 2, 46, 273) = true := by decide +kernel
theorem d_I_headerFault_185 : vm_dec m_I_headerFault 185 .ireturn 1 = true := by decide +kernel
def k_I_headerFault_186 : List vm_I := [.inl (.aload_n 1), .inl (.aload_n 1), .inr (.inl (.int 28, 0))]
theorem kc_I_headerFault_186 : vm_chk m_I_headerFault 186 k_I_headerFault_186 = some 190 := by decide +kernel
theorem v_I_headerFault_190 : vm_okV m_I_headerFault m_T_word 190 106 1 (282, 283, 284, 43, 285) = true := by decide +kernel
def k_I_headerFault_193 : List vm_I := [.inr (.inl (.int 32, 0)), .inl (.iload_n 3), .inl .imul, .inl .i2l]
theorem kc_I_headerFault_193 : vm_chk m_I_headerFault 193 k_I_headerFault_193 = some 198 := by decide +kernel
theorem v_I_headerFault_198 : vm_okV m_I_headerFault m_T_has 198 110 2 (287, 234, 235, 43, 236) = true := by decide +kernel
theorem d_I_headerFault_201 : vm_dec m_I_headerFault 201 (.ifCond .eq 7) 3 = true := by decide +kernel
def k_I_headerFault_204 : List vm_I := [.inr (.inl (.int 0, 0))]
theorem kc_I_headerFault_204 : vm_chk m_I_headerFault 204 k_I_headerFault_204 = some 205 := by decide +kernel
theorem d_I_headerFault_205 : vm_dec m_I_headerFault 205 (.goto 11) 3 = true := by decide +kernel
def k_I_headerFault_208 : List vm_I := [.inl (.aload_n 0), .inr (.inl (.int 8, 0)), .inr (.inl (.int 28, 0))]
theorem kc_I_headerFault_208 : vm_chk m_I_headerFault 208 k_I_headerFault_208 = some 213 := by decide +kernel
theorem v_I_headerFault_213 : vm_okV m_I_headerFault m_I_fault 213 95 2 (270, 272, 2, 46, 273) = true := by decide +kernel
theorem d_I_headerFault_216 : vm_dec m_I_headerFault 216 .ireturn 1 = true := by decide +kernel
def k_I_headsFault_0 : List vm_I := [.inl (.aload_n 1), .inr (.inl (.int 44, 0))]
theorem kc_I_headsFault_0 : vm_chk m_I_headsFault 0 k_I_headsFault_0 = some 3 := by decide +kernel
theorem v_I_headsFault_3 : vm_okV m_I_headsFault m_T_half 3 41 1 (277, 278, 279, 43, 280) = true := by decide +kernel
def k_I_headsFault_6 : List vm_I := [.inr (.inl (.int 8, 0))]
theorem kc_I_headsFault_6 : vm_chk m_I_headsFault 6 k_I_headsFault_6 = some 8 := by decide +kernel
theorem v_I_headsFault_8 : vm_okS m_I_headsFault m_J_min 8 114 2 (292, 75, 45, 76) = true := by decide +kernel
def k_I_headsFault_11 : List vm_I := [.inl (.istore_n 3), .inl (.aload_n 1), .inr (.inl (.int 28, 0))]
theorem kc_I_headsFault_11 : vm_chk m_I_headsFault 11 k_I_headsFault_11 = some 15 := by decide +kernel
theorem v_I_headsFault_15 : vm_okV m_I_headsFault m_T_word 15 106 1 (282, 283, 284, 43, 285) = true := by decide +kernel
def k_I_headsFault_18 : List vm_I := [.inl .l2i, .inl (.istore 4), .inr (.inl (.int 0, 0)), .inl (.istore 5)]
theorem kc_I_headsFault_18 : vm_chk m_I_headsFault 18 k_I_headsFault_18 = some 24 := by decide +kernel
def k_I_headsFault_24 : List vm_I := [.inl (.iload 5), .inl (.iload_n 3)]
theorem kc_I_headsFault_24 : vm_chk m_I_headsFault 24 k_I_headsFault_24 = some 27 := by decide +kernel
theorem d_I_headsFault_27 : vm_dec m_I_headsFault 27 (.if_icmp .ge 76) 3 = true := by decide +kernel
def k_I_headsFault_30 : List vm_I := [.inl (.iload 4), .inr (.inl (.int 32, 0)), .inl (.iload 5), .inl .imul, .inl .iadd, .inl (.istore 6), .inl (.aload_n 1), .inl (.iload 6)]
theorem kc_I_headsFault_30 : vm_chk m_I_headsFault 30 k_I_headsFault_30 = some 43 := by decide +kernel
theorem v_I_headsFault_43 : vm_okV m_I_headsFault m_T_word 43 106 1 (282, 283, 284, 43, 285) = true := by decide +kernel
def k_I_headsFault_46 : List vm_I := [.inl (.lstore 7), .inr (.inl (.int 0, 0)), .inl (.istore 9), .inl (.lload 7), .inr (.inl (.long 1, 0))]
theorem kc_I_headsFault_46 : vm_chk m_I_headsFault 46 k_I_headsFault_46 = some 54 := by decide +kernel
theorem dl_I_headsFault_54 : vm_dec m_I_headsFault 54 .lcmp 1 = true := by decide +kernel
theorem d_I_headsFault_54 : vm_dec m_I_headsFault 55 (.ifCond .ne 16) 3 = true := by decide +kernel
def k_I_headsFault_58 : List vm_I := [.inl (.aload_n 0), .inl (.aload_n 1), .inl (.aload_n 2), .inl (.iload 6)]
theorem kc_I_headsFault_58 : vm_chk m_I_headsFault 58 k_I_headsFault_58 = some 63 := by decide +kernel
theorem v_I_headsFault_63 : vm_okV m_I_headsFault m_I_segmentFault 63 119 3 (293, 295, 4, 46, 296) = true := by decide +kernel
def k_I_headsFault_66 : List vm_I := [.inl (.istore 9)]
theorem kc_I_headsFault_66 : vm_chk m_I_headsFault 66 k_I_headsFault_66 = some 68 := by decide +kernel
theorem d_I_headsFault_68 : vm_dec m_I_headsFault 68 (.goto 21) 3 = true := by decide +kernel
def k_I_headsFault_71 : List vm_I := [.inl (.lload 7), .inr (.inl (.long 2, 360))]
theorem kc_I_headsFault_71 : vm_chk m_I_headsFault 71 k_I_headsFault_71 = some 76 := by decide +kernel
theorem dl_I_headsFault_76 : vm_dec m_I_headsFault 76 .lcmp 1 = true := by decide +kernel
theorem d_I_headsFault_76 : vm_dec m_I_headsFault 77 (.ifCond .ne 12) 3 = true := by decide +kernel
def k_I_headsFault_80 : List vm_I := [.inl (.aload_n 0), .inl (.aload_n 1), .inl (.iload 6)]
theorem kc_I_headsFault_80 : vm_chk m_I_headsFault 80 k_I_headsFault_80 = some 84 := by decide +kernel
theorem v_I_headsFault_84 : vm_okV m_I_headsFault m_I_dynamicHeadFault 84 125 2 (361, 363, 6, 46, 364) = true := by decide +kernel
def k_I_headsFault_87 : List vm_I := [.inl (.istore 9)]
theorem kc_I_headsFault_87 : vm_chk m_I_headsFault 87 k_I_headsFault_87 = some 89 := by decide +kernel
def k_I_headsFault_89 : List vm_I := [.inl (.iload 9)]
theorem kc_I_headsFault_89 : vm_chk m_I_headsFault 89 k_I_headsFault_89 = some 91 := by decide +kernel
theorem d_I_headsFault_91 : vm_dec m_I_headsFault 91 (.ifCond .eq 6) 3 = true := by decide +kernel
def k_I_headsFault_94 : List vm_I := [.inl (.iload 9)]
theorem kc_I_headsFault_94 : vm_chk m_I_headsFault 94 k_I_headsFault_94 = some 96 := by decide +kernel
theorem d_I_headsFault_96 : vm_dec m_I_headsFault 96 .ireturn 1 = true := by decide +kernel
def k_I_headsFault_97 : List vm_I := [.inr (.inr (.inr (5, 1)))]
theorem kc_I_headsFault_97 : vm_chk m_I_headsFault 97 k_I_headsFault_97 = some 100 := by decide +kernel
theorem d_I_headsFault_100 : vm_dec m_I_headsFault 100 (.goto (-76)) 3 = true := by decide +kernel
def k_I_headsFault_103 : List vm_I := [.inl (.aload_n 0), .inr (.inr (.inl (0, 146, 31, 0, 5)))]
theorem kc_I_headsFault_103 : vm_chk m_I_headsFault 103 k_I_headsFault_103 = some 107 := by decide +kernel
theorem d_I_headsFault_107 : vm_dec m_I_headsFault 107 (.ifCond .le 7) 3 = true := by decide +kernel
def k_I_headsFault_110 : List vm_I := [.inr (.inl (.int 0, 0))]
theorem kc_I_headsFault_110 : vm_chk m_I_headsFault 110 k_I_headsFault_110 = some 111 := by decide +kernel
theorem d_I_headsFault_111 : vm_dec m_I_headsFault 111 (.goto 11) 3 = true := by decide +kernel
def k_I_headsFault_114 : List vm_I := [.inl (.aload_n 0), .inr (.inl (.int 17, 0)), .inr (.inl (.int 44, 0))]
theorem kc_I_headsFault_114 : vm_chk m_I_headsFault 114 k_I_headsFault_114 = some 119 := by decide +kernel
theorem v_I_headsFault_119 : vm_okV m_I_headsFault m_I_fault 119 95 2 (270, 272, 2, 46, 273) = true := by decide +kernel
theorem d_I_headsFault_122 : vm_dec m_I_headsFault 122 .ireturn 1 = true := by decide +kernel
def k_I_segmentFault_0 : List vm_I := [.inl (.aload_n 0), .inr (.inr (.inl (0, 142, 69, 0, 1)))]
theorem kc_I_segmentFault_0 : vm_chk m_I_segmentFault 0 k_I_segmentFault_0 = some 4 := by decide +kernel
theorem d_I_segmentFault_4 : vm_dec m_I_segmentFault 4 (.ifCond .lt 15) 3 = true := by decide +kernel
def k_I_segmentFault_7 : List vm_I := [.inl (.aload_n 0), .inr (.inr (.inl (0, 142, 69, 0, 1))), .inl (.aload_n 0), .inr (.inr (.inl (0, 141, 13, 0, 0))), .inl .arraylength]
theorem kc_I_segmentFault_7 : vm_chk m_I_segmentFault 7 k_I_segmentFault_7 = some 16 := by decide +kernel
theorem d_I_segmentFault_16 : vm_dec m_I_segmentFault 16 (.if_icmp .lt 12) 3 = true := by decide +kernel
def k_I_segmentFault_19 : List vm_I := [.inl (.aload_n 0), .inr (.inl (.int 7, 0)), .inr (.inl (.int 44, 0))]
theorem kc_I_segmentFault_19 : vm_chk m_I_segmentFault 19 k_I_segmentFault_19 = some 24 := by decide +kernel
theorem v_I_segmentFault_24 : vm_okV m_I_segmentFault m_I_fault 24 95 2 (270, 272, 2, 46, 273) = true := by decide +kernel
theorem d_I_segmentFault_27 : vm_dec m_I_segmentFault 27 .ireturn 1 = true := by decide +kernel
def k_I_segmentFault_28 : List vm_I := [.inl (.aload_n 0), .inr (.inr (.inl (0, 141, 13, 0, 0))), .inl (.aload_n 0), .inr (.inr (.inl (0, 142, 69, 0, 1)))]
theorem kc_I_segmentFault_28 : vm_chk m_I_segmentFault 28 k_I_segmentFault_28 = some 36 := by decide +kernel
theorem d_I_segmentFault_36 : vm_dec m_I_segmentFault 36 .aaload 1 = true := by decide +kernel
def k_I_segmentFault_37 : List vm_I := [.inl (.astore 4), .inl (.aload 4), .inl (.aload_n 1), .inl (.iload_n 3), .inl (.aload_n 0), .inr (.inr (.inl (0, 144, 25, 0, 3)))]
theorem kc_I_segmentFault_37 : vm_chk m_I_segmentFault 37 k_I_segmentFault_37 = some 47 := by decide +kernel
theorem v_I_segmentFault_47 : vm_okV m_I_segmentFault m_S_take 47 129 3 (297, 298, 299, 47, 300) = true := by decide +kernel
def k_I_segmentFault_50 : List vm_I := [.inl (.aload 4)]
theorem kc_I_segmentFault_50 : vm_chk m_I_segmentFault 50 k_I_segmentFault_50 = some 52 := by decide +kernel
def k_I_segmentFault_52 : List vm_I := [.inr (.inr (.inl (2, 3, 133, 1, 4)))]
theorem kc_I_segmentFault_52 : vm_chk m_I_segmentFault 52 k_I_segmentFault_52 = some 55 := by decide +kernel
def k_I_segmentFault_55 : List vm_I := [.inl (.aload 4)]
theorem kc_I_segmentFault_55 : vm_chk m_I_segmentFault 55 k_I_segmentFault_55 = some 57 := by decide +kernel
def k_I_segmentFault_57 : List vm_I := [.inr (.inr (.inl (2, 2, 136, 1, 3)))]
theorem kc_I_segmentFault_57 : vm_chk m_I_segmentFault 57 k_I_segmentFault_57 = some 60 := by decide +kernel
theorem dl_I_segmentFault_60 : vm_dec m_I_segmentFault 60 .lcmp 1 = true := by decide +kernel
theorem d_I_segmentFault_60 : vm_dec m_I_segmentFault 61 (.ifCond .ge 14) 3 = true := by decide +kernel
def k_I_segmentFault_64 : List vm_I := [.inl (.aload_n 0), .inr (.inl (.int 9, 0)), .inl (.iload_n 3), .inr (.inl (.int 20, 0)), .inl .iadd]
theorem kc_I_segmentFault_64 : vm_chk m_I_segmentFault 64 k_I_segmentFault_64 = some 71 := by decide +kernel
theorem v_I_segmentFault_71 : vm_okV m_I_segmentFault m_I_fault 71 95 2 (270, 272, 2, 46, 273) = true := by decide +kernel
theorem d_I_segmentFault_74 : vm_dec m_I_segmentFault 74 .ireturn 1 = true := by decide +kernel
def k_I_segmentFault_75 : List vm_I := [.inl (.aload_n 1), .inl (.aload 4)]
theorem kc_I_segmentFault_75 : vm_chk m_I_segmentFault 75 k_I_segmentFault_75 = some 78 := by decide +kernel
def k_I_segmentFault_78 : List vm_I := [.inr (.inr (.inl (2, 1, 139, 1, 0)))]
theorem kc_I_segmentFault_78 : vm_chk m_I_segmentFault 78 k_I_segmentFault_78 = some 81 := by decide +kernel
def k_I_segmentFault_81 : List vm_I := [.inl (.aload 4)]
theorem kc_I_segmentFault_81 : vm_chk m_I_segmentFault 81 k_I_segmentFault_81 = some 83 := by decide +kernel
def k_I_segmentFault_83 : List vm_I := [.inr (.inr (.inl (2, 2, 136, 1, 3)))]
theorem kc_I_segmentFault_83 : vm_chk m_I_segmentFault 83 k_I_segmentFault_83 = some 86 := by decide +kernel
theorem v_I_segmentFault_86 : vm_okV m_I_segmentFault m_T_has 86 110 2 (287, 234, 235, 43, 236) = true := by decide +kernel
theorem d_I_segmentFault_89 : vm_dec m_I_segmentFault 89 (.ifCond .ne 13) 3 = true := by decide +kernel
def k_I_segmentFault_92 : List vm_I := [.inl (.aload_n 0), .inr (.inl (.int 10, 0)), .inl (.iload_n 3), .inr (.inl (.int 4, 0)), .inl .iadd]
theorem kc_I_segmentFault_92 : vm_chk m_I_segmentFault 92 k_I_segmentFault_92 = some 98 := by decide +kernel
theorem v_I_segmentFault_98 : vm_okV m_I_segmentFault m_I_fault 98 95 2 (270, 272, 2, 46, 273) = true := by decide +kernel
theorem d_I_segmentFault_101 : vm_dec m_I_segmentFault 101 .ireturn 1 = true := by decide +kernel
def k_I_segmentFault_102 : List vm_I := [.inl (.aload 4)]
theorem kc_I_segmentFault_102 : vm_chk m_I_segmentFault 102 k_I_segmentFault_102 = some 104 := by decide +kernel
theorem v_I_segmentFault_104 : vm_okV m_I_segmentFault m_S_isAlignSound 104 142 0 (302, 303, 304, 47, 305) = true := by decide +kernel
theorem d_I_segmentFault_107 : vm_dec m_I_segmentFault 107 (.ifCond .ne 14) 3 = true := by decide +kernel
def k_I_segmentFault_110 : List vm_I := [.inl (.aload_n 0), .inr (.inl (.int 11, 0)), .inl (.iload_n 3), .inr (.inl (.int 28, 0)), .inl .iadd]
theorem kc_I_segmentFault_110 : vm_chk m_I_segmentFault 110 k_I_segmentFault_110 = some 117 := by decide +kernel
theorem v_I_segmentFault_117 : vm_okV m_I_segmentFault m_I_fault 117 95 2 (270, 272, 2, 46, 273) = true := by decide +kernel
theorem d_I_segmentFault_120 : vm_dec m_I_segmentFault 120 .ireturn 1 = true := by decide +kernel
def k_I_segmentFault_121 : List vm_I := [.inl (.aload 4)]
theorem kc_I_segmentFault_121 : vm_chk m_I_segmentFault 121 k_I_segmentFault_121 = some 123 := by decide +kernel
theorem v_I_segmentFault_123 : vm_okV m_I_segmentFault m_S_isAligned 123 146 0 (313, 314, 315, 47, 316) = true := by decide +kernel
theorem d_I_segmentFault_126 : vm_dec m_I_segmentFault 126 (.ifCond .ne 14) 3 = true := by decide +kernel
def k_I_segmentFault_129 : List vm_I := [.inl (.aload_n 0), .inr (.inl (.int 12, 0)), .inl (.iload_n 3), .inr (.inl (.int 8, 0)), .inl .iadd]
theorem kc_I_segmentFault_129 : vm_chk m_I_segmentFault 129 k_I_segmentFault_129 = some 136 := by decide +kernel
theorem v_I_segmentFault_136 : vm_okV m_I_segmentFault m_I_fault 136 95 2 (270, 272, 2, 46, 273) = true := by decide +kernel
theorem d_I_segmentFault_139 : vm_dec m_I_segmentFault 139 .ireturn 1 = true := by decide +kernel
def k_I_segmentFault_140 : List vm_I := [.inl (.aload 4)]
theorem kc_I_segmentFault_140 : vm_chk m_I_segmentFault 140 k_I_segmentFault_140 = some 142 := by decide +kernel
theorem v_I_segmentFault_142 : vm_okV m_I_segmentFault m_S_isInSpace 142 149 0 (317, 318, 319, 47, 320) = true := by decide +kernel
theorem d_I_segmentFault_145 : vm_dec m_I_segmentFault 145 (.ifCond .ne 14) 3 = true := by decide +kernel
def k_I_segmentFault_148 : List vm_I := [.inl (.aload_n 0), .inr (.inl (.int 13, 0)), .inl (.iload_n 3), .inr (.inl (.int 8, 0)), .inl .iadd]
theorem kc_I_segmentFault_148 : vm_chk m_I_segmentFault 148 k_I_segmentFault_148 = some 155 := by decide +kernel
theorem v_I_segmentFault_155 : vm_okV m_I_segmentFault m_I_fault 155 95 2 (270, 272, 2, 46, 273) = true := by decide +kernel
theorem d_I_segmentFault_158 : vm_dec m_I_segmentFault 158 .ireturn 1 = true := by decide +kernel
def k_I_segmentFault_159 : List vm_I := [.inl (.aload_n 2), .inl (.aload 4)]
theorem kc_I_segmentFault_159 : vm_chk m_I_segmentFault 159 k_I_segmentFault_159 = some 162 := by decide +kernel
theorem v_I_segmentFault_162 : vm_okV m_I_segmentFault m_S_firstPage 162 152 0 (322, 323, 324, 47, 325) = true := by decide +kernel
def k_I_segmentFault_165 : List vm_I := [.inl (.aload 4)]
theorem kc_I_segmentFault_165 : vm_chk m_I_segmentFault 165 k_I_segmentFault_165 = some 167 := by decide +kernel
theorem v_I_segmentFault_167 : vm_okV m_I_segmentFault m_S_lastPage 167 155 0 (327, 328, 329, 47, 330) = true := by decide +kernel
theorem v_I_segmentFault_170 : vm_okV m_I_segmentFault m_P_anyMapped 170 158 2 (331, 332, 333, 44, 334) = true := by decide +kernel
theorem d_I_segmentFault_173 : vm_dec m_I_segmentFault 173 (.ifCond .ne 12) 3 = true := by decide +kernel
def k_I_segmentFault_176 : List vm_I := [.inl (.aload_n 0), .inl (.aload 4)]
theorem kc_I_segmentFault_176 : vm_chk m_I_segmentFault 176 k_I_segmentFault_176 = some 179 := by decide +kernel
theorem v_I_segmentFault_179 : vm_okV m_I_segmentFault m_I_meetsEarlier 179 164 1 (342, 344, 5, 46, 345) = true := by decide +kernel
theorem d_I_segmentFault_182 : vm_dec m_I_segmentFault 182 (.ifCond .eq 14) 3 = true := by decide +kernel
def k_I_segmentFault_185 : List vm_I := [.inl (.aload_n 0), .inr (.inl (.int 14, 0)), .inl (.iload_n 3), .inr (.inl (.int 8, 0)), .inl .iadd]
theorem kc_I_segmentFault_185 : vm_chk m_I_segmentFault 185 k_I_segmentFault_185 = some 192 := by decide +kernel
theorem v_I_segmentFault_192 : vm_okV m_I_segmentFault m_I_fault 192 95 2 (270, 272, 2, 46, 273) = true := by decide +kernel
theorem d_I_segmentFault_195 : vm_dec m_I_segmentFault 195 .ireturn 1 = true := by decide +kernel
def k_I_segmentFault_196 : List vm_I := [.inl (.aload_n 0), .inr (.inr (.inl (0, 146, 31, 0, 5))), .inl (.aload 4)]
theorem kc_I_segmentFault_196 : vm_chk m_I_segmentFault 196 k_I_segmentFault_196 = some 202 := by decide +kernel
theorem v_I_segmentFault_202 : vm_okV m_I_segmentFault m_S_pages 202 168 0 (352, 353, 354, 47, 355) = true := by decide +kernel
def k_I_segmentFault_205 : List vm_I := [.inl .iadd, .inl (.aload_n 2)]
theorem kc_I_segmentFault_205 : vm_chk m_I_segmentFault 205 k_I_segmentFault_205 = some 207 := by decide +kernel
theorem v_I_segmentFault_207 : vm_okV m_I_segmentFault m_P_freeFrames 207 171 0 (356, 357, 358, 44, 359) = true := by decide +kernel
theorem d_I_segmentFault_210 : vm_dec m_I_segmentFault 210 (.if_icmp .le 14) 3 = true := by decide +kernel
def k_I_segmentFault_213 : List vm_I := [.inl (.aload_n 0), .inr (.inl (.int 15, 0)), .inl (.iload_n 3), .inr (.inl (.int 20, 0)), .inl .iadd]
theorem kc_I_segmentFault_213 : vm_chk m_I_segmentFault 213 k_I_segmentFault_213 = some 220 := by decide +kernel
theorem v_I_segmentFault_220 : vm_okV m_I_segmentFault m_I_fault 220 95 2 (270, 272, 2, 46, 273) = true := by decide +kernel
theorem d_I_segmentFault_223 : vm_dec m_I_segmentFault 223 .ireturn 1 = true := by decide +kernel
def k_I_segmentFault_224 : List vm_I := [.inl (.aload_n 0), .inl .dup, .inr (.inr (.inl (0, 146, 31, 0, 5))), .inl (.aload 4)]
theorem kc_I_segmentFault_224 : vm_chk m_I_segmentFault 224 k_I_segmentFault_224 = some 231 := by decide +kernel
theorem v_I_segmentFault_231 : vm_okV m_I_segmentFault m_S_pages 231 168 0 (352, 353, 354, 47, 355) = true := by decide +kernel
def k_I_segmentFault_234 : List vm_I := [.inl .iadd, .inr (.inr (.inl (1, 146, 31, 0, 5))), .inl (.aload_n 0), .inl .dup, .inr (.inr (.inl (0, 142, 69, 0, 1))), .inr (.inl (.int 1, 0)), .inl .iadd, .inr (.inr (.inl (1, 142, 69, 0, 1))), .inr (.inl (.int 0, 0))]
theorem kc_I_segmentFault_234 : vm_chk m_I_segmentFault 234 k_I_segmentFault_234 = some 249 := by decide +kernel
theorem d_I_segmentFault_249 : vm_dec m_I_segmentFault 249 .ireturn 1 = true := by decide +kernel
def k_I_meetsEarlier_0 : List vm_I := [.inr (.inl (.int 0, 0)), .inl (.istore_n 2)]
theorem kc_I_meetsEarlier_0 : vm_chk m_I_meetsEarlier 0 k_I_meetsEarlier_0 = some 2 := by decide +kernel
def k_I_meetsEarlier_2 : List vm_I := [.inl (.iload_n 2), .inl (.aload_n 0), .inr (.inr (.inl (0, 142, 69, 0, 1)))]
theorem kc_I_meetsEarlier_2 : vm_chk m_I_meetsEarlier 2 k_I_meetsEarlier_2 = some 7 := by decide +kernel
theorem d_I_meetsEarlier_7 : vm_dec m_I_meetsEarlier 7 (.if_icmp .ge 33) 3 = true := by decide +kernel
def k_I_meetsEarlier_10 : List vm_I := [.inl (.iload_n 2), .inl (.aload_n 0), .inr (.inr (.inl (0, 141, 13, 0, 0))), .inl .arraylength]
theorem kc_I_meetsEarlier_10 : vm_chk m_I_meetsEarlier 10 k_I_meetsEarlier_10 = some 16 := by decide +kernel
theorem d_I_meetsEarlier_16 : vm_dec m_I_meetsEarlier 16 (.if_icmp .ge 24) 3 = true := by decide +kernel
def k_I_meetsEarlier_19 : List vm_I := [.inl (.aload_n 1), .inl (.aload_n 0), .inr (.inr (.inl (0, 141, 13, 0, 0))), .inl (.iload_n 2)]
theorem kc_I_meetsEarlier_19 : vm_chk m_I_meetsEarlier 19 k_I_meetsEarlier_19 = some 25 := by decide +kernel
theorem d_I_meetsEarlier_25 : vm_dec m_I_meetsEarlier 25 .aaload 1 = true := by decide +kernel
theorem v_I_meetsEarlier_26 : vm_okV m_I_meetsEarlier m_S_sharesPageWith 26 174 1 (346, 347, 348, 47, 349) = true := by decide +kernel
theorem d_I_meetsEarlier_29 : vm_dec m_I_meetsEarlier 29 (.ifCond .eq 5) 3 = true := by decide +kernel
def k_I_meetsEarlier_32 : List vm_I := [.inr (.inl (.int 1, 0))]
theorem kc_I_meetsEarlier_32 : vm_chk m_I_meetsEarlier 32 k_I_meetsEarlier_32 = some 33 := by decide +kernel
theorem d_I_meetsEarlier_33 : vm_dec m_I_meetsEarlier 33 .ireturn 1 = true := by decide +kernel
def k_I_meetsEarlier_34 : List vm_I := [.inr (.inr (.inr (2, 1)))]
theorem kc_I_meetsEarlier_34 : vm_chk m_I_meetsEarlier 34 k_I_meetsEarlier_34 = some 37 := by decide +kernel
theorem d_I_meetsEarlier_37 : vm_dec m_I_meetsEarlier 37 (.goto (-35)) 3 = true := by decide +kernel
def k_I_meetsEarlier_40 : List vm_I := [.inr (.inl (.int 0, 0))]
theorem kc_I_meetsEarlier_40 : vm_chk m_I_meetsEarlier 40 k_I_meetsEarlier_40 = some 41 := by decide +kernel
theorem d_I_meetsEarlier_41 : vm_dec m_I_meetsEarlier 41 .ireturn 1 = true := by decide +kernel
def k_I_dynamicHeadFault_0 : List vm_I := [.inl (.aload_n 1), .inl (.iload_n 2), .inr (.inl (.int 16, 0)), .inl .iadd]
theorem kc_I_dynamicHeadFault_0 : vm_chk m_I_dynamicHeadFault 0 k_I_dynamicHeadFault_0 = some 5 := by decide +kernel
theorem v_I_dynamicHeadFault_5 : vm_okV m_I_dynamicHeadFault m_T_word 5 106 1 (282, 283, 284, 43, 285) = true := by decide +kernel
def k_I_dynamicHeadFault_8 : List vm_I := [.inl (.lstore_n 3), .inl (.aload_n 1), .inl (.aload_n 1), .inl (.iload_n 2), .inr (.inl (.int 4, 0)), .inl .iadd]
theorem kc_I_dynamicHeadFault_8 : vm_chk m_I_dynamicHeadFault 8 k_I_dynamicHeadFault_8 = some 14 := by decide +kernel
theorem v_I_dynamicHeadFault_14 : vm_okV m_I_dynamicHeadFault m_T_word 14 106 1 (282, 283, 284, 43, 285) = true := by decide +kernel
def k_I_dynamicHeadFault_17 : List vm_I := [.inl (.lload_n 3)]
theorem kc_I_dynamicHeadFault_17 : vm_chk m_I_dynamicHeadFault 17 k_I_dynamicHeadFault_17 = some 18 := by decide +kernel
theorem v_I_dynamicHeadFault_18 : vm_okV m_I_dynamicHeadFault m_T_has 18 110 2 (287, 234, 235, 43, 236) = true := by decide +kernel
theorem d_I_dynamicHeadFault_21 : vm_dec m_I_dynamicHeadFault 21 (.ifCond .ne 13) 3 = true := by decide +kernel
def k_I_dynamicHeadFault_24 : List vm_I := [.inl (.aload_n 0), .inr (.inl (.int 10, 0)), .inl (.iload_n 2), .inr (.inl (.int 4, 0)), .inl .iadd]
theorem kc_I_dynamicHeadFault_24 : vm_chk m_I_dynamicHeadFault 24 k_I_dynamicHeadFault_24 = some 30 := by decide +kernel
theorem v_I_dynamicHeadFault_30 : vm_okV m_I_dynamicHeadFault m_I_fault 30 95 2 (270, 272, 2, 46, 273) = true := by decide +kernel
theorem d_I_dynamicHeadFault_33 : vm_dec m_I_dynamicHeadFault 33 .ireturn 1 = true := by decide +kernel
def k_I_dynamicHeadFault_34 : List vm_I := [.inl (.lload_n 3), .inr (.inl (.long 8, 365)), .inl .lrem, .inr (.inl (.long 0, 0))]
theorem kc_I_dynamicHeadFault_34 : vm_chk m_I_dynamicHeadFault 34 k_I_dynamicHeadFault_34 = some 40 := by decide +kernel
theorem dl_I_dynamicHeadFault_40 : vm_dec m_I_dynamicHeadFault 40 .lcmp 1 = true := by decide +kernel
theorem d_I_dynamicHeadFault_40 : vm_dec m_I_dynamicHeadFault 41 (.ifCond .eq 14) 3 = true := by decide +kernel
def k_I_dynamicHeadFault_44 : List vm_I := [.inl (.aload_n 0), .inr (.inl (.int 16, 0)), .inl (.iload_n 2), .inr (.inl (.int 16, 0)), .inl .iadd]
theorem kc_I_dynamicHeadFault_44 : vm_chk m_I_dynamicHeadFault 44 k_I_dynamicHeadFault_44 = some 51 := by decide +kernel
theorem v_I_dynamicHeadFault_51 : vm_okV m_I_dynamicHeadFault m_I_fault 51 95 2 (270, 272, 2, 46, 273) = true := by decide +kernel
theorem d_I_dynamicHeadFault_54 : vm_dec m_I_dynamicHeadFault 54 .ireturn 1 = true := by decide +kernel
def k_I_dynamicHeadFault_55 : List vm_I := [.inl (.aload_n 0), .inl (.iload_n 2), .inr (.inr (.inl (1, 147, 72, 0, 6))), .inr (.inl (.int 0, 0))]
theorem kc_I_dynamicHeadFault_55 : vm_chk m_I_dynamicHeadFault 55 k_I_dynamicHeadFault_55 = some 61 := by decide +kernel
theorem d_I_dynamicHeadFault_61 : vm_dec m_I_dynamicHeadFault 61 .ireturn 1 = true := by decide +kernel
def k_I_entryFault_0 : List vm_I := [.inl (.aload_n 1), .inr (.inl (.int 24, 0))]
theorem kc_I_entryFault_0 : vm_chk m_I_entryFault 0 k_I_entryFault_0 = some 3 := by decide +kernel
theorem v_I_entryFault_3 : vm_okV m_I_entryFault m_T_word 3 106 1 (282, 283, 284, 43, 285) = true := by decide +kernel
def k_I_entryFault_6 : List vm_I := [.inl (.aload_n 0), .inr (.inr (.inl (0, 144, 25, 0, 3))), .inl .i2l, .inl .ladd, .inl (.lstore_n 2), .inr (.inl (.int 0, 0)), .inl (.istore 4)]
theorem kc_I_entryFault_6 : vm_chk m_I_entryFault 6 k_I_entryFault_6 = some 16 := by decide +kernel
def k_I_entryFault_16 : List vm_I := [.inl (.iload 4), .inl (.aload_n 0), .inr (.inr (.inl (0, 142, 69, 0, 1)))]
theorem kc_I_entryFault_16 : vm_chk m_I_entryFault 16 k_I_entryFault_16 = some 22 := by decide +kernel
theorem d_I_entryFault_22 : vm_dec m_I_entryFault 22 (.if_icmp .ge 55) 3 = true := by decide +kernel
def k_I_entryFault_25 : List vm_I := [.inl (.iload 4), .inl (.aload_n 0), .inr (.inr (.inl (0, 141, 13, 0, 0))), .inl .arraylength]
theorem kc_I_entryFault_25 : vm_chk m_I_entryFault 25 k_I_entryFault_25 = some 32 := by decide +kernel
theorem d_I_entryFault_32 : vm_dec m_I_entryFault 32 (.if_icmp .ge 45) 3 = true := by decide +kernel
def k_I_entryFault_35 : List vm_I := [.inl (.aload_n 0), .inr (.inr (.inl (0, 141, 13, 0, 0))), .inl (.iload 4)]
theorem kc_I_entryFault_35 : vm_chk m_I_entryFault 35 k_I_entryFault_35 = some 41 := by decide +kernel
theorem d_I_entryFault_41 : vm_dec m_I_entryFault 41 .aaload 1 = true := by decide +kernel
def k_I_entryFault_42 : List vm_I := [.inl (.astore 5), .inl (.aload 5), .inl (.lload_n 2)]
theorem kc_I_entryFault_42 : vm_chk m_I_entryFault 42 k_I_entryFault_42 = some 47 := by decide +kernel
theorem v_I_entryFault_47 : vm_okV m_I_entryFault m_S_holds 47 179 1 (370, 371, 372, 47, 373) = true := by decide +kernel
theorem d_I_entryFault_50 : vm_dec m_I_entryFault 50 (.ifCond .eq 21) 3 = true := by decide +kernel
def k_I_entryFault_53 : List vm_I := [.inl (.aload 5)]
theorem kc_I_entryFault_53 : vm_chk m_I_entryFault 53 k_I_entryFault_53 = some 55 := by decide +kernel
def k_I_entryFault_55 : List vm_I := [.inr (.inr (.inl (2, 4, 183, 1, 6)))]
theorem kc_I_entryFault_55 : vm_chk m_I_entryFault 55 k_I_entryFault_55 = some 58 := by decide +kernel
def k_I_entryFault_58 : List vm_I := [.inr (.inl (.int 1, 0)), .inl .iand]
theorem kc_I_entryFault_58 : vm_chk m_I_entryFault 58 k_I_entryFault_58 = some 60 := by decide +kernel
theorem d_I_entryFault_60 : vm_dec m_I_entryFault 60 (.ifCond .eq 11) 3 = true := by decide +kernel
def k_I_entryFault_63 : List vm_I := [.inl (.aload_n 0), .inl (.lload_n 2), .inl .l2i, .inr (.inr (.inl (1, 145, 28, 0, 4))), .inr (.inl (.int 0, 0))]
theorem kc_I_entryFault_63 : vm_chk m_I_entryFault 63 k_I_entryFault_63 = some 70 := by decide +kernel
theorem d_I_entryFault_70 : vm_dec m_I_entryFault 70 .ireturn 1 = true := by decide +kernel
def k_I_entryFault_71 : List vm_I := [.inr (.inr (.inr (4, 1)))]
theorem kc_I_entryFault_71 : vm_chk m_I_entryFault 71 k_I_entryFault_71 = some 74 := by decide +kernel
theorem d_I_entryFault_74 : vm_dec m_I_entryFault 74 (.goto (-58)) 3 = true := by decide +kernel
def k_I_entryFault_77 : List vm_I := [.inl (.aload_n 0), .inr (.inl (.int 18, 0)), .inr (.inl (.int 24, 0))]
theorem kc_I_entryFault_77 : vm_chk m_I_entryFault 77 k_I_entryFault_77 = some 82 := by decide +kernel
theorem v_I_entryFault_82 : vm_okV m_I_entryFault m_I_fault 82 95 2 (270, 272, 2, 46, 273) = true := by decide +kernel
theorem d_I_entryFault_85 : vm_dec m_I_entryFault 85 .ireturn 1 = true := by decide +kernel
def k_I_dynamicFault_0 : List vm_I := [.inl (.aload_n 0), .inr (.inr (.inl (0, 147, 72, 0, 6))), .inr (.inl (.int (-1), 0))]
theorem kc_I_dynamicFault_0 : vm_chk m_I_dynamicFault 0 k_I_dynamicFault_0 = some 5 := by decide +kernel
theorem d_I_dynamicFault_5 : vm_dec m_I_dynamicFault 5 (.if_icmp .ne 5) 3 = true := by decide +kernel
def k_I_dynamicFault_8 : List vm_I := [.inr (.inl (.int 0, 0))]
theorem kc_I_dynamicFault_8 : vm_chk m_I_dynamicFault 8 k_I_dynamicFault_8 = some 9 := by decide +kernel
theorem d_I_dynamicFault_9 : vm_dec m_I_dynamicFault 9 .ireturn 1 = true := by decide +kernel
def k_I_dynamicFault_10 : List vm_I := [.inl (.aload_n 0), .inl (.aload_n 1)]
theorem kc_I_dynamicFault_10 : vm_chk m_I_dynamicFault 10 k_I_dynamicFault_10 = some 12 := by decide +kernel
theorem v_I_dynamicFault_12 : vm_okV m_I_dynamicFault m_I_takeDynamicPairs 12 186 1 (378, 380, 9, 46, 381) = true := by decide +kernel
def k_I_dynamicFault_15 : List vm_I := [.inl (.aload_n 0), .inr (.inr (.inl (0, 149, 79, 0, 8))), .inr (.inl (.long 12, 390)), .inl .lrem, .inr (.inl (.long 0, 0))]
theorem kc_I_dynamicFault_15 : vm_chk m_I_dynamicFault 15 k_I_dynamicFault_15 = some 24 := by decide +kernel
theorem dl_I_dynamicFault_24 : vm_dec m_I_dynamicFault 24 .lcmp 1 = true := by decide +kernel
theorem d_I_dynamicFault_24 : vm_dec m_I_dynamicFault 25 (.ifCond .ne 42) 3 = true := by decide +kernel
def k_I_dynamicFault_28 : List vm_I := [.inl (.aload_n 0), .inr (.inr (.inl (0, 149, 79, 0, 8))), .inr (.inl (.long 12, 390)), .inl .ldiv, .inr (.inl (.long 60, 391))]
theorem kc_I_dynamicFault_28 : vm_chk m_I_dynamicFault 28 k_I_dynamicFault_28 = some 39 := by decide +kernel
theorem dl_I_dynamicFault_39 : vm_dec m_I_dynamicFault 39 .lcmp 1 = true := by decide +kernel
theorem d_I_dynamicFault_39 : vm_dec m_I_dynamicFault 40 (.ifCond .gt 27) 3 = true := by decide +kernel
def k_I_dynamicFault_43 : List vm_I := [.inl (.aload_n 0), .inr (.inr (.inl (0, 149, 79, 0, 8))), .inr (.inl (.long 0, 0))]
theorem kc_I_dynamicFault_43 : vm_chk m_I_dynamicFault 43 k_I_dynamicFault_43 = some 48 := by decide +kernel
theorem dl_I_dynamicFault_48 : vm_dec m_I_dynamicFault 48 .lcmp 1 = true := by decide +kernel
theorem d_I_dynamicFault_48 : vm_dec m_I_dynamicFault 49 (.ifCond .eq 14) 3 = true := by decide +kernel
def k_I_dynamicFault_52 : List vm_I := [.inl (.aload_n 0), .inr (.inr (.inl (0, 150, 82, 0, 9))), .inr (.inl (.long 12, 390))]
theorem kc_I_dynamicFault_52 : vm_chk m_I_dynamicFault 52 k_I_dynamicFault_52 = some 59 := by decide +kernel
theorem dl_I_dynamicFault_59 : vm_dec m_I_dynamicFault 59 .lcmp 1 = true := by decide +kernel
theorem d_I_dynamicFault_59 : vm_dec m_I_dynamicFault 60 (.ifCond .ne 7) 3 = true := by decide +kernel
def k_I_dynamicFault_63 : List vm_I := [.inr (.inl (.int 1, 0))]
theorem kc_I_dynamicFault_63 : vm_chk m_I_dynamicFault 63 k_I_dynamicFault_63 = some 64 := by decide +kernel
theorem d_I_dynamicFault_64 : vm_dec m_I_dynamicFault 64 (.goto 4) 3 = true := by decide +kernel
def k_I_dynamicFault_67 : List vm_I := [.inr (.inl (.int 0, 0))]
theorem kc_I_dynamicFault_67 : vm_chk m_I_dynamicFault 67 k_I_dynamicFault_67 = some 68 := by decide +kernel
def k_I_dynamicFault_68 : List vm_I := [.inl (.istore_n 2), .inl (.iload_n 2)]
theorem kc_I_dynamicFault_68 : vm_chk m_I_dynamicFault 68 k_I_dynamicFault_68 = some 70 := by decide +kernel
theorem d_I_dynamicFault_70 : vm_dec m_I_dynamicFault 70 (.ifCond .ne 14) 3 = true := by decide +kernel
def k_I_dynamicFault_73 : List vm_I := [.inl (.aload_n 0), .inr (.inl (.int 19, 0)), .inl (.aload_n 0), .inr (.inr (.inl (0, 147, 72, 0, 6)))]
theorem kc_I_dynamicFault_73 : vm_chk m_I_dynamicFault 73 k_I_dynamicFault_73 = some 80 := by decide +kernel
theorem v_I_dynamicFault_80 : vm_okV m_I_dynamicFault m_I_fault 80 95 2 (270, 272, 2, 46, 273) = true := by decide +kernel
theorem d_I_dynamicFault_83 : vm_dec m_I_dynamicFault 83 .ireturn 1 = true := by decide +kernel
def k_I_dynamicFault_84 : List vm_I := [.inl (.aload_n 0), .inl (.aload_n 0), .inr (.inr (.inl (0, 149, 79, 0, 8))), .inr (.inl (.long 12, 390)), .inl .ldiv, .inl .l2i, .inr (.inr (.inl (1, 153, 34, 0, 12))), .inr (.inl (.int 0, 0))]
theorem kc_I_dynamicFault_84 : vm_chk m_I_dynamicFault 84 k_I_dynamicFault_84 = some 98 := by decide +kernel
theorem d_I_dynamicFault_98 : vm_dec m_I_dynamicFault 98 .ireturn 1 = true := by decide +kernel
def k_I_takeDynamicPairs_0 : List vm_I := [.inl (.aload_n 1), .inl (.aload_n 0), .inr (.inr (.inl (0, 147, 72, 0, 6))), .inr (.inl (.int 4, 0)), .inl .iadd]
theorem kc_I_takeDynamicPairs_0 : vm_chk m_I_takeDynamicPairs 0 k_I_takeDynamicPairs_0 = some 7 := by decide +kernel
theorem v_I_takeDynamicPairs_7 : vm_okV m_I_takeDynamicPairs m_T_word 7 106 1 (282, 283, 284, 43, 285) = true := by decide +kernel
def k_I_takeDynamicPairs_10 : List vm_I := [.inl .l2i, .inl (.istore_n 2), .inl (.aload_n 1), .inl (.aload_n 0), .inr (.inr (.inl (0, 147, 72, 0, 6))), .inr (.inl (.int 16, 0)), .inl .iadd]
theorem kc_I_takeDynamicPairs_10 : vm_chk m_I_takeDynamicPairs 10 k_I_takeDynamicPairs_10 = some 20 := by decide +kernel
theorem v_I_takeDynamicPairs_20 : vm_okV m_I_takeDynamicPairs m_T_word 20 106 1 (282, 283, 284, 43, 285) = true := by decide +kernel
def k_I_takeDynamicPairs_23 : List vm_I := [.inr (.inl (.long 8, 365)), .inl .ldiv, .inl .l2i, .inl (.istore_n 3), .inr (.inl (.int 0, 0)), .inl (.istore 4)]
theorem kc_I_takeDynamicPairs_23 : vm_chk m_I_takeDynamicPairs 23 k_I_takeDynamicPairs_23 = some 32 := by decide +kernel
def k_I_takeDynamicPairs_32 : List vm_I := [.inl (.iload 4), .inl (.iload_n 3)]
theorem kc_I_takeDynamicPairs_32 : vm_chk m_I_takeDynamicPairs 32 k_I_takeDynamicPairs_32 = some 35 := by decide +kernel
theorem d_I_takeDynamicPairs_35 : vm_dec m_I_takeDynamicPairs 35 (.if_icmp .ge 49) 3 = true := by decide +kernel
def k_I_takeDynamicPairs_38 : List vm_I := [.inl (.aload_n 1), .inl (.iload_n 2), .inr (.inl (.int 8, 0)), .inl (.iload 4), .inl .imul, .inl .iadd]
theorem kc_I_takeDynamicPairs_38 : vm_chk m_I_takeDynamicPairs 38 k_I_takeDynamicPairs_38 = some 46 := by decide +kernel
theorem v_I_takeDynamicPairs_46 : vm_okV m_I_takeDynamicPairs m_T_word 46 106 1 (282, 283, 284, 43, 285) = true := by decide +kernel
def k_I_takeDynamicPairs_49 : List vm_I := [.inl (.lstore 5), .inl (.lload 5), .inr (.inl (.long 0, 0))]
theorem kc_I_takeDynamicPairs_49 : vm_chk m_I_takeDynamicPairs 49 k_I_takeDynamicPairs_49 = some 54 := by decide +kernel
theorem dl_I_takeDynamicPairs_54 : vm_dec m_I_takeDynamicPairs 54 .lcmp 1 = true := by decide +kernel
theorem d_I_takeDynamicPairs_54 : vm_dec m_I_takeDynamicPairs 55 (.ifCond .ne 4) 3 = true := by decide +kernel
theorem d_I_takeDynamicPairs_58 : vm_dec m_I_takeDynamicPairs 58 .return_ 1 = true := by decide +kernel
def k_I_takeDynamicPairs_59 : List vm_I := [.inl (.aload_n 0), .inl (.lload 5), .inl (.aload_n 1), .inl (.iload_n 2), .inr (.inl (.int 8, 0)), .inl (.iload 4), .inl .imul, .inl .iadd, .inr (.inl (.int 4, 0)), .inl .iadd]
theorem kc_I_takeDynamicPairs_59 : vm_chk m_I_takeDynamicPairs 59 k_I_takeDynamicPairs_59 = some 72 := by decide +kernel
theorem v_I_takeDynamicPairs_72 : vm_okV m_I_takeDynamicPairs m_T_word 72 106 1 (282, 283, 284, 43, 285) = true := by decide +kernel
theorem v_I_takeDynamicPairs_75 : vm_okV m_I_takeDynamicPairs m_I_takeDynamicPair 75 194 2 (382, 384, 10, 46, 385) = true := by decide +kernel
def k_I_takeDynamicPairs_78 : List vm_I := [.inr (.inr (.inr (4, 1)))]
theorem kc_I_takeDynamicPairs_78 : vm_chk m_I_takeDynamicPairs 78 k_I_takeDynamicPairs_78 = some 81 := by decide +kernel
theorem d_I_takeDynamicPairs_81 : vm_dec m_I_takeDynamicPairs 81 (.goto (-49)) 3 = true := by decide +kernel
theorem d_I_takeDynamicPairs_84 : vm_dec m_I_takeDynamicPairs 84 .return_ 1 = true := by decide +kernel
def k_I_takeDynamicPair_0 : List vm_I := [.inl (.lload_n 1), .inr (.inl (.long 7, 386))]
theorem kc_I_takeDynamicPair_0 : vm_chk m_I_takeDynamicPair 0 k_I_takeDynamicPair_0 = some 4 := by decide +kernel
theorem dl_I_takeDynamicPair_4 : vm_dec m_I_takeDynamicPair 4 .lcmp 1 = true := by decide +kernel
theorem d_I_takeDynamicPair_4 : vm_dec m_I_takeDynamicPair 5 (.ifCond .ne 11) 3 = true := by decide +kernel
def k_I_takeDynamicPair_8 : List vm_I := [.inl (.aload_n 0), .inl (.lload_n 3), .inr (.inr (.inl (1, 148, 75, 0, 7)))]
theorem kc_I_takeDynamicPair_8 : vm_chk m_I_takeDynamicPair 8 k_I_takeDynamicPair_8 = some 13 := by decide +kernel
theorem d_I_takeDynamicPair_13 : vm_dec m_I_takeDynamicPair 13 (.goto 64) 3 = true := by decide +kernel
def k_I_takeDynamicPair_16 : List vm_I := [.inl (.lload_n 1), .inr (.inl (.long 8, 365))]
theorem kc_I_takeDynamicPair_16 : vm_chk m_I_takeDynamicPair 16 k_I_takeDynamicPair_16 = some 20 := by decide +kernel
theorem dl_I_takeDynamicPair_20 : vm_dec m_I_takeDynamicPair 20 .lcmp 1 = true := by decide +kernel
theorem d_I_takeDynamicPair_20 : vm_dec m_I_takeDynamicPair 21 (.ifCond .ne 11) 3 = true := by decide +kernel
def k_I_takeDynamicPair_24 : List vm_I := [.inl (.aload_n 0), .inl (.lload_n 3), .inr (.inr (.inl (1, 149, 79, 0, 8)))]
theorem kc_I_takeDynamicPair_24 : vm_chk m_I_takeDynamicPair 24 k_I_takeDynamicPair_24 = some 29 := by decide +kernel
theorem d_I_takeDynamicPair_29 : vm_dec m_I_takeDynamicPair 29 (.goto 48) 3 = true := by decide +kernel
def k_I_takeDynamicPair_32 : List vm_I := [.inl (.lload_n 1), .inr (.inl (.long 9, 387))]
theorem kc_I_takeDynamicPair_32 : vm_chk m_I_takeDynamicPair 32 k_I_takeDynamicPair_32 = some 36 := by decide +kernel
theorem dl_I_takeDynamicPair_36 : vm_dec m_I_takeDynamicPair 36 .lcmp 1 = true := by decide +kernel
theorem d_I_takeDynamicPair_36 : vm_dec m_I_takeDynamicPair 37 (.ifCond .ne 11) 3 = true := by decide +kernel
def k_I_takeDynamicPair_40 : List vm_I := [.inl (.aload_n 0), .inl (.lload_n 3), .inr (.inr (.inl (1, 150, 82, 0, 9)))]
theorem kc_I_takeDynamicPair_40 : vm_chk m_I_takeDynamicPair 40 k_I_takeDynamicPair_40 = some 45 := by decide +kernel
theorem d_I_takeDynamicPair_45 : vm_dec m_I_takeDynamicPair 45 (.goto 32) 3 = true := by decide +kernel
def k_I_takeDynamicPair_48 : List vm_I := [.inl (.lload_n 1), .inr (.inl (.long 6, 388))]
theorem kc_I_takeDynamicPair_48 : vm_chk m_I_takeDynamicPair 48 k_I_takeDynamicPair_48 = some 52 := by decide +kernel
theorem dl_I_takeDynamicPair_52 : vm_dec m_I_takeDynamicPair 52 .lcmp 1 = true := by decide +kernel
theorem d_I_takeDynamicPair_52 : vm_dec m_I_takeDynamicPair 53 (.ifCond .ne 11) 3 = true := by decide +kernel
def k_I_takeDynamicPair_56 : List vm_I := [.inl (.aload_n 0), .inl (.lload_n 3), .inr (.inr (.inl (1, 151, 85, 0, 10)))]
theorem kc_I_takeDynamicPair_56 : vm_chk m_I_takeDynamicPair 56 k_I_takeDynamicPair_56 = some 61 := by decide +kernel
theorem d_I_takeDynamicPair_61 : vm_dec m_I_takeDynamicPair 61 (.goto 16) 3 = true := by decide +kernel
def k_I_takeDynamicPair_64 : List vm_I := [.inl (.lload_n 1), .inr (.inl (.long 11, 389))]
theorem kc_I_takeDynamicPair_64 : vm_chk m_I_takeDynamicPair 64 k_I_takeDynamicPair_64 = some 68 := by decide +kernel
theorem dl_I_takeDynamicPair_68 : vm_dec m_I_takeDynamicPair 68 .lcmp 1 = true := by decide +kernel
theorem d_I_takeDynamicPair_68 : vm_dec m_I_takeDynamicPair 69 (.ifCond .ne 8) 3 = true := by decide +kernel
def k_I_takeDynamicPair_72 : List vm_I := [.inl (.aload_n 0), .inl (.lload_n 3), .inr (.inr (.inl (1, 152, 88, 0, 11)))]
theorem kc_I_takeDynamicPair_72 : vm_chk m_I_takeDynamicPair 72 k_I_takeDynamicPair_72 = some 77 := by decide +kernel
theorem d_I_takeDynamicPair_77 : vm_dec m_I_takeDynamicPair 77 .return_ 1 = true := by decide +kernel
def k_I_lay_0 : List vm_I := [.inr (.inl (.int 0, 0)), .inl (.istore_n 3)]
theorem kc_I_lay_0 : vm_chk m_I_lay 0 k_I_lay_0 = some 2 := by decide +kernel
def k_I_lay_2 : List vm_I := [.inl (.iload_n 3), .inl (.aload_n 0), .inr (.inr (.inl (0, 142, 69, 0, 1)))]
theorem kc_I_lay_2 : vm_chk m_I_lay 2 k_I_lay_2 = some 7 := by decide +kernel
theorem d_I_lay_7 : vm_dec m_I_lay 7 (.if_icmp .ge 29) 3 = true := by decide +kernel
def k_I_lay_10 : List vm_I := [.inl (.iload_n 3), .inl (.aload_n 0), .inr (.inr (.inl (0, 141, 13, 0, 0))), .inl .arraylength]
theorem kc_I_lay_10 : vm_chk m_I_lay 10 k_I_lay_10 = some 16 := by decide +kernel
theorem d_I_lay_16 : vm_dec m_I_lay 16 (.if_icmp .ge 20) 3 = true := by decide +kernel
def k_I_lay_19 : List vm_I := [.inl (.aload_n 0), .inr (.inr (.inl (0, 141, 13, 0, 0))), .inl (.iload_n 3)]
theorem kc_I_lay_19 : vm_chk m_I_lay 19 k_I_lay_19 = some 24 := by decide +kernel
theorem d_I_lay_24 : vm_dec m_I_lay 24 .aaload 1 = true := by decide +kernel
def k_I_lay_25 : List vm_I := [.inl (.aload_n 1), .inl (.aload_n 2)]
theorem kc_I_lay_25 : vm_chk m_I_lay 25 k_I_lay_25 = some 27 := by decide +kernel
theorem v_I_lay_27 : vm_okV m_I_lay m_S_lay 27 206 2 (396, 397, 398, 47, 399) = true := by decide +kernel
def k_I_lay_30 : List vm_I := [.inr (.inr (.inr (3, 1)))]
theorem kc_I_lay_30 : vm_chk m_I_lay 30 k_I_lay_30 = some 33 := by decide +kernel
theorem d_I_lay_33 : vm_dec m_I_lay 33 (.goto (-31)) 3 = true := by decide +kernel
theorem d_I_lay_36 : vm_dec m_I_lay 36 .return_ 1 = true := by decide +kernel
def k_I_takeBack_0 : List vm_I := [.inr (.inl (.int 0, 0)), .inl (.istore_n 2)]
theorem kc_I_takeBack_0 : vm_chk m_I_takeBack 0 k_I_takeBack_0 = some 2 := by decide +kernel
def k_I_takeBack_2 : List vm_I := [.inl (.iload_n 2), .inl (.aload_n 0), .inr (.inr (.inl (0, 142, 69, 0, 1)))]
theorem kc_I_takeBack_2 : vm_chk m_I_takeBack 2 k_I_takeBack_2 = some 7 := by decide +kernel
theorem d_I_takeBack_7 : vm_dec m_I_takeBack 7 (.if_icmp .ge 40) 3 = true := by decide +kernel
def k_I_takeBack_10 : List vm_I := [.inl (.iload_n 2), .inl (.aload_n 0), .inr (.inr (.inl (0, 141, 13, 0, 0))), .inl .arraylength]
theorem kc_I_takeBack_10 : vm_chk m_I_takeBack 10 k_I_takeBack_10 = some 16 := by decide +kernel
theorem d_I_takeBack_16 : vm_dec m_I_takeBack 16 (.if_icmp .ge 31) 3 = true := by decide +kernel
def k_I_takeBack_19 : List vm_I := [.inl (.aload_n 1), .inl (.aload_n 0), .inr (.inr (.inl (0, 141, 13, 0, 0))), .inl (.iload_n 2)]
theorem kc_I_takeBack_19 : vm_chk m_I_takeBack 19 k_I_takeBack_19 = some 25 := by decide +kernel
theorem d_I_takeBack_25 : vm_dec m_I_takeBack 25 .aaload 1 = true := by decide +kernel
theorem v_I_takeBack_26 : vm_okV m_I_takeBack m_S_firstPage 26 152 0 (322, 323, 324, 47, 325) = true := by decide +kernel
def k_I_takeBack_29 : List vm_I := [.inl (.aload_n 0), .inr (.inr (.inl (0, 141, 13, 0, 0))), .inl (.iload_n 2)]
theorem kc_I_takeBack_29 : vm_chk m_I_takeBack 29 k_I_takeBack_29 = some 34 := by decide +kernel
theorem d_I_takeBack_34 : vm_dec m_I_takeBack 34 .aaload 1 = true := by decide +kernel
theorem v_I_takeBack_35 : vm_okV m_I_takeBack m_S_lastPage 35 155 0 (327, 328, 329, 47, 330) = true := by decide +kernel
theorem v_I_takeBack_38 : vm_okV m_I_takeBack m_P_releaseAll 38 207 2 (455, 456, 457, 44, 458) = true := by decide +kernel
def k_I_takeBack_41 : List vm_I := [.inr (.inr (.inr (2, 1)))]
theorem kc_I_takeBack_41 : vm_chk m_I_takeBack 41 k_I_takeBack_41 = some 44 := by decide +kernel
theorem d_I_takeBack_44 : vm_dec m_I_takeBack 44 (.goto (-42)) 3 = true := by decide +kernel
theorem d_I_takeBack_47 : vm_dec m_I_takeBack 47 .return_ 1 = true := by decide +kernel
def k_I_relocationsFault_0 : List vm_I := [.inr (.inl (.int 0, 0)), .inl (.istore_n 2)]
theorem kc_I_relocationsFault_0 : vm_chk m_I_relocationsFault 0 k_I_relocationsFault_0 = some 2 := by decide +kernel
def k_I_relocationsFault_2 : List vm_I := [.inl (.iload_n 2), .inl (.aload_n 0), .inr (.inr (.inl (0, 153, 34, 0, 12)))]
theorem kc_I_relocationsFault_2 : vm_chk m_I_relocationsFault 2 k_I_relocationsFault_2 = some 7 := by decide +kernel
theorem d_I_relocationsFault_7 : vm_dec m_I_relocationsFault 7 (.if_icmp .ge 27) 3 = true := by decide +kernel
def k_I_relocationsFault_10 : List vm_I := [.inl (.aload_n 0), .inl (.aload_n 1), .inl (.iload_n 2)]
theorem kc_I_relocationsFault_10 : vm_chk m_I_relocationsFault 10 k_I_relocationsFault_10 = some 13 := by decide +kernel
theorem v_I_relocationsFault_13 : vm_okV m_I_relocationsFault m_I_relocationFault 13 211 2 (426, 428, 14, 46, 429) = true := by decide +kernel
def k_I_relocationsFault_16 : List vm_I := [.inl (.istore_n 3), .inl (.iload_n 3)]
theorem kc_I_relocationsFault_16 : vm_chk m_I_relocationsFault 16 k_I_relocationsFault_16 = some 18 := by decide +kernel
theorem d_I_relocationsFault_18 : vm_dec m_I_relocationsFault 18 (.ifCond .eq 10) 3 = true := by decide +kernel
def k_I_relocationsFault_21 : List vm_I := [.inl (.aload_n 0), .inl (.iload_n 3), .inl (.iload_n 2)]
theorem kc_I_relocationsFault_21 : vm_chk m_I_relocationsFault 21 k_I_relocationsFault_21 = some 24 := by decide +kernel
theorem v_I_relocationsFault_24 : vm_okV m_I_relocationsFault m_I_fault 24 95 2 (270, 272, 2, 46, 273) = true := by decide +kernel
theorem d_I_relocationsFault_27 : vm_dec m_I_relocationsFault 27 .ireturn 1 = true := by decide +kernel
def k_I_relocationsFault_28 : List vm_I := [.inr (.inr (.inr (2, 1)))]
theorem kc_I_relocationsFault_28 : vm_chk m_I_relocationsFault 28 k_I_relocationsFault_28 = some 31 := by decide +kernel
theorem d_I_relocationsFault_31 : vm_dec m_I_relocationsFault 31 (.goto (-29)) 3 = true := by decide +kernel
def k_I_relocationsFault_34 : List vm_I := [.inr (.inl (.int 0, 0))]
theorem kc_I_relocationsFault_34 : vm_chk m_I_relocationsFault 34 k_I_relocationsFault_34 = some 35 := by decide +kernel
theorem d_I_relocationsFault_35 : vm_dec m_I_relocationsFault 35 .ireturn 1 = true := by decide +kernel
def k_I_relocationFault_0 : List vm_I := [.inl (.aload_n 0), .inr (.inr (.inl (0, 148, 75, 0, 7))), .inl .l2i, .inl (.aload_n 0), .inr (.inr (.inl (0, 144, 25, 0, 3))), .inl .iadd, .inr (.inl (.int 12, 0)), .inl (.iload_n 2), .inl .imul, .inl .iadd, .inl (.istore_n 3), .inl (.aload_n 0), .inl (.iload_n 3), .inr (.inl (.int 12, 0))]
theorem kc_I_relocationFault_0 : vm_chk m_I_relocationFault 0 k_I_relocationFault_0 = some 20 := by decide +kernel
theorem v_I_relocationFault_20 : vm_okV m_I_relocationFault m_I_areHeld 20 215 2 (430, 432, 15, 46, 433) = true := by decide +kernel
theorem d_I_relocationFault_23 : vm_dec m_I_relocationFault 23 (.ifCond .ne 6) 3 = true := by decide +kernel
def k_I_relocationFault_26 : List vm_I := [.inr (.inl (.int 20, 0))]
theorem kc_I_relocationFault_26 : vm_chk m_I_relocationFault 26 k_I_relocationFault_26 = some 28 := by decide +kernel
theorem d_I_relocationFault_28 : vm_dec m_I_relocationFault 28 .ireturn 1 = true := by decide +kernel
def k_I_relocationFault_29 : List vm_I := [.inl (.aload_n 1), .inl (.iload_n 3), .inr (.inl (.int 4, 0))]
theorem kc_I_relocationFault_29 : vm_chk m_I_relocationFault 29 k_I_relocationFault_29 = some 32 := by decide +kernel
theorem v_I_relocationFault_32 : vm_okV m_I_relocationFault m_P_number 32 218 2 (434, 435, 436, 44, 437) = true := by decide +kernel
def k_I_relocationFault_35 : List vm_I := [.inl .l2i, .inl (.aload_n 0), .inr (.inr (.inl (0, 144, 25, 0, 3))), .inl .iadd, .inl (.istore 4), .inl (.aload_n 1), .inl (.iload_n 3), .inr (.inl (.int 4, 0)), .inl .iadd, .inr (.inl (.int 4, 0))]
theorem kc_I_relocationFault_35 : vm_chk m_I_relocationFault 35 k_I_relocationFault_35 = some 48 := by decide +kernel
theorem v_I_relocationFault_48 : vm_okV m_I_relocationFault m_P_number 48 218 2 (434, 435, 436, 44, 437) = true := by decide +kernel
def k_I_relocationFault_51 : List vm_I := [.inl .l2i, .inl (.istore 5), .inl (.aload_n 1), .inl (.iload_n 3), .inr (.inl (.int 8, 0)), .inl .iadd, .inr (.inl (.int 4, 0))]
theorem kc_I_relocationFault_51 : vm_chk m_I_relocationFault 51 k_I_relocationFault_51 = some 60 := by decide +kernel
theorem v_I_relocationFault_60 : vm_okV m_I_relocationFault m_P_number 60 218 2 (434, 435, 436, 44, 437) = true := by decide +kernel
def k_I_relocationFault_63 : List vm_I := [.inl .l2i, .inl (.istore 6), .inl (.aload_n 0), .inl (.iload 4), .inr (.inl (.int 4, 0))]
theorem kc_I_relocationFault_63 : vm_chk m_I_relocationFault 63 k_I_relocationFault_63 = some 70 := by decide +kernel
theorem v_I_relocationFault_70 : vm_okV m_I_relocationFault m_I_areHeld 70 215 2 (430, 432, 15, 46, 433) = true := by decide +kernel
theorem d_I_relocationFault_73 : vm_dec m_I_relocationFault 73 (.ifCond .ne 6) 3 = true := by decide +kernel
def k_I_relocationFault_76 : List vm_I := [.inr (.inl (.int 20, 0))]
theorem kc_I_relocationFault_76 : vm_chk m_I_relocationFault 76 k_I_relocationFault_76 = some 78 := by decide +kernel
theorem d_I_relocationFault_78 : vm_dec m_I_relocationFault 78 .ireturn 1 = true := by decide +kernel
def k_I_relocationFault_79 : List vm_I := [.inl (.iload 5), .inr (.inl (.int 255, 0)), .inl .iand]
theorem kc_I_relocationFault_79 : vm_chk m_I_relocationFault 79 k_I_relocationFault_79 = some 85 := by decide +kernel
theorem d_I_relocationFault_85 : vm_dec m_I_relocationFault 85 (.tableswitch 64 0 3 #[31, 33, 64, 48]) 31 = true := by decide +kernel
def k_I_relocationFault_116 : List vm_I := [.inr (.inl (.int 0, 0))]
theorem kc_I_relocationFault_116 : vm_chk m_I_relocationFault 116 k_I_relocationFault_116 = some 117 := by decide +kernel
theorem d_I_relocationFault_117 : vm_dec m_I_relocationFault 117 .ireturn 1 = true := by decide +kernel
def k_I_relocationFault_118 : List vm_I := [.inl (.aload_n 0), .inl (.aload_n 1), .inl (.iload 4), .inl (.iload 5), .inr (.inl (.int 8, 0)), .inl .iushr, .inl (.iload 6)]
theorem kc_I_relocationFault_118 : vm_chk m_I_relocationFault 118 k_I_relocationFault_118 = some 129 := by decide +kernel
theorem v_I_relocationFault_129 : vm_okV m_I_relocationFault m_I_symbolFault 129 222 4 (442, 444, 16, 46, 445) = true := by decide +kernel
theorem d_I_relocationFault_132 : vm_dec m_I_relocationFault 132 .ireturn 1 = true := by decide +kernel
def k_I_relocationFault_133 : List vm_I := [.inl (.aload_n 1), .inl (.iload 4), .inr (.inl (.int 4, 0)), .inl (.aload_n 0), .inr (.inr (.inl (0, 144, 25, 0, 3))), .inl (.iload 6), .inl .iadd]
theorem kc_I_relocationFault_133 : vm_chk m_I_relocationFault 133 k_I_relocationFault_133 = some 144 := by decide +kernel
theorem v_I_relocationFault_144 : vm_okV m_I_relocationFault m_P_setNumber 144 226 3 (447, 448, 449, 44, 450) = true := by decide +kernel
def k_I_relocationFault_147 : List vm_I := [.inr (.inl (.int 0, 0))]
theorem kc_I_relocationFault_147 : vm_chk m_I_relocationFault 147 k_I_relocationFault_147 = some 148 := by decide +kernel
theorem d_I_relocationFault_148 : vm_dec m_I_relocationFault 148 .ireturn 1 = true := by decide +kernel
def k_I_relocationFault_149 : List vm_I := [.inr (.inl (.int 21, 0))]
theorem kc_I_relocationFault_149 : vm_chk m_I_relocationFault 149 k_I_relocationFault_149 = some 151 := by decide +kernel
theorem d_I_relocationFault_151 : vm_dec m_I_relocationFault 151 .ireturn 1 = true := by decide +kernel
def k_I_symbolFault_0 : List vm_I := [.inl (.aload_n 0), .inr (.inr (.inl (0, 151, 85, 0, 10))), .inl .l2i, .inl (.aload_n 0), .inr (.inr (.inl (0, 144, 25, 0, 3))), .inl .iadd, .inr (.inl (.int 16, 0)), .inl (.iload_n 3), .inl .imul, .inl .iadd, .inl (.istore 5), .inl (.aload_n 0), .inr (.inr (.inl (0, 152, 88, 0, 11))), .inr (.inl (.long 16, 446))]
theorem kc_I_symbolFault_0 : vm_chk m_I_symbolFault 0 k_I_symbolFault_0 = some 24 := by decide +kernel
theorem dl_I_symbolFault_24 : vm_dec m_I_symbolFault 24 .lcmp 1 = true := by decide +kernel
theorem d_I_symbolFault_24 : vm_dec m_I_symbolFault 25 (.ifCond .ne 14) 3 = true := by decide +kernel
def k_I_symbolFault_28 : List vm_I := [.inl (.aload_n 0), .inl (.iload 5), .inr (.inl (.int 16, 0))]
theorem kc_I_symbolFault_28 : vm_chk m_I_symbolFault 28 k_I_symbolFault_28 = some 33 := by decide +kernel
theorem v_I_symbolFault_33 : vm_okV m_I_symbolFault m_I_areHeld 33 215 2 (430, 432, 15, 46, 433) = true := by decide +kernel
theorem d_I_symbolFault_36 : vm_dec m_I_symbolFault 36 (.ifCond .ne 6) 3 = true := by decide +kernel
def k_I_symbolFault_39 : List vm_I := [.inr (.inl (.int 22, 0))]
theorem kc_I_symbolFault_39 : vm_chk m_I_symbolFault 39 k_I_symbolFault_39 = some 41 := by decide +kernel
theorem d_I_symbolFault_41 : vm_dec m_I_symbolFault 41 .ireturn 1 = true := by decide +kernel
def k_I_symbolFault_42 : List vm_I := [.inl (.iload_n 3)]
theorem kc_I_symbolFault_42 : vm_chk m_I_symbolFault 42 k_I_symbolFault_42 = some 43 := by decide +kernel
theorem d_I_symbolFault_43 : vm_dec m_I_symbolFault 43 (.ifCond .eq 21) 3 = true := by decide +kernel
def k_I_symbolFault_46 : List vm_I := [.inl (.aload_n 1), .inl (.iload 5), .inr (.inl (.int 14, 0)), .inl .iadd, .inr (.inl (.int 2, 0))]
theorem kc_I_symbolFault_46 : vm_chk m_I_symbolFault 46 k_I_symbolFault_46 = some 53 := by decide +kernel
theorem v_I_symbolFault_53 : vm_okV m_I_symbolFault m_P_number 53 218 2 (434, 435, 436, 44, 437) = true := by decide +kernel
def k_I_symbolFault_56 : List vm_I := [.inr (.inl (.long 0, 0))]
theorem kc_I_symbolFault_56 : vm_chk m_I_symbolFault 56 k_I_symbolFault_56 = some 57 := by decide +kernel
theorem dl_I_symbolFault_57 : vm_dec m_I_symbolFault 57 .lcmp 1 = true := by decide +kernel
theorem d_I_symbolFault_57 : vm_dec m_I_symbolFault 58 (.ifCond .ne 6) 3 = true := by decide +kernel
def k_I_symbolFault_61 : List vm_I := [.inr (.inl (.int 23, 0))]
theorem kc_I_symbolFault_61 : vm_chk m_I_symbolFault 61 k_I_symbolFault_61 = some 63 := by decide +kernel
theorem d_I_symbolFault_63 : vm_dec m_I_symbolFault 63 .ireturn 1 = true := by decide +kernel
def k_I_symbolFault_64 : List vm_I := [.inl (.iload_n 3)]
theorem kc_I_symbolFault_64 : vm_chk m_I_symbolFault 64 k_I_symbolFault_64 = some 65 := by decide +kernel
theorem d_I_symbolFault_65 : vm_dec m_I_symbolFault 65 (.ifCond .ne 7) 3 = true := by decide +kernel
def k_I_symbolFault_68 : List vm_I := [.inr (.inl (.int 0, 0))]
theorem kc_I_symbolFault_68 : vm_chk m_I_symbolFault 68 k_I_symbolFault_68 = some 69 := by decide +kernel
theorem d_I_symbolFault_69 : vm_dec m_I_symbolFault 69 (.goto 18) 3 = true := by decide +kernel
def k_I_symbolFault_72 : List vm_I := [.inl (.aload_n 1), .inl (.iload 5), .inr (.inl (.int 4, 0)), .inl .iadd, .inr (.inl (.int 4, 0))]
theorem kc_I_symbolFault_72 : vm_chk m_I_symbolFault 72 k_I_symbolFault_72 = some 78 := by decide +kernel
theorem v_I_symbolFault_78 : vm_okV m_I_symbolFault m_P_number 78 218 2 (434, 435, 436, 44, 437) = true := by decide +kernel
def k_I_symbolFault_81 : List vm_I := [.inl .l2i, .inl (.aload_n 0), .inr (.inr (.inl (0, 144, 25, 0, 3))), .inl .iadd]
theorem kc_I_symbolFault_81 : vm_chk m_I_symbolFault 81 k_I_symbolFault_81 = some 87 := by decide +kernel
def k_I_symbolFault_87 : List vm_I := [.inl (.istore 6), .inl (.aload_n 1), .inl (.iload_n 2), .inr (.inl (.int 4, 0)), .inl (.iload 4), .inl (.iload 6), .inl .iadd]
theorem kc_I_symbolFault_87 : vm_chk m_I_symbolFault 87 k_I_symbolFault_87 = some 97 := by decide +kernel
theorem v_I_symbolFault_97 : vm_okV m_I_symbolFault m_P_setNumber 97 226 3 (447, 448, 449, 44, 450) = true := by decide +kernel
def k_I_symbolFault_100 : List vm_I := [.inr (.inl (.int 0, 0))]
theorem kc_I_symbolFault_100 : vm_chk m_I_symbolFault 100 k_I_symbolFault_100 = some 101 := by decide +kernel
theorem d_I_symbolFault_101 : vm_dec m_I_symbolFault 101 .ireturn 1 = true := by decide +kernel
def k_I_areHeld_0 : List vm_I := [.inr (.inl (.int 0, 0)), .inl (.istore_n 3), .inr (.inl (.int 0, 0)), .inl (.istore 4)]
theorem kc_I_areHeld_0 : vm_chk m_I_areHeld 0 k_I_areHeld_0 = some 5 := by decide +kernel
def k_I_areHeld_5 : List vm_I := [.inl (.iload 4), .inl (.aload_n 0), .inr (.inr (.inl (0, 142, 69, 0, 1)))]
theorem kc_I_areHeld_5 : vm_chk m_I_areHeld 5 k_I_areHeld_5 = some 11 := by decide +kernel
theorem d_I_areHeld_11 : vm_dec m_I_areHeld 11 (.if_icmp .ge 55) 3 = true := by decide +kernel
def k_I_areHeld_14 : List vm_I := [.inl (.iload 4), .inl (.aload_n 0), .inr (.inr (.inl (0, 141, 13, 0, 0))), .inl .arraylength]
theorem kc_I_areHeld_14 : vm_chk m_I_areHeld 14 k_I_areHeld_14 = some 21 := by decide +kernel
theorem d_I_areHeld_21 : vm_dec m_I_areHeld 21 (.if_icmp .ge 45) 3 = true := by decide +kernel
def k_I_areHeld_24 : List vm_I := [.inr (.inl (.int 0, 0)), .inl (.istore 5)]
theorem kc_I_areHeld_24 : vm_chk m_I_areHeld 24 k_I_areHeld_24 = some 27 := by decide +kernel
def k_I_areHeld_27 : List vm_I := [.inl (.iload 5), .inl (.iload_n 2)]
theorem kc_I_areHeld_27 : vm_chk m_I_areHeld 27 k_I_areHeld_27 = some 30 := by decide +kernel
theorem d_I_areHeld_30 : vm_dec m_I_areHeld 30 (.if_icmp .ge 30) 3 = true := by decide +kernel
def k_I_areHeld_33 : List vm_I := [.inl (.aload_n 0), .inr (.inr (.inl (0, 141, 13, 0, 0))), .inl (.iload 4)]
theorem kc_I_areHeld_33 : vm_chk m_I_areHeld 33 k_I_areHeld_33 = some 39 := by decide +kernel
theorem d_I_areHeld_39 : vm_dec m_I_areHeld 39 .aaload 1 = true := by decide +kernel
def k_I_areHeld_40 : List vm_I := [.inl (.iload_n 1), .inl (.iload 5), .inl .iadd, .inl .i2l]
theorem kc_I_areHeld_40 : vm_chk m_I_areHeld 40 k_I_areHeld_40 = some 45 := by decide +kernel
theorem v_I_areHeld_45 : vm_okV m_I_areHeld m_S_holds 45 179 1 (370, 371, 372, 47, 373) = true := by decide +kernel
theorem d_I_areHeld_48 : vm_dec m_I_areHeld 48 (.ifCond .eq 6) 3 = true := by decide +kernel
def k_I_areHeld_51 : List vm_I := [.inr (.inr (.inr (3, 1)))]
theorem kc_I_areHeld_51 : vm_chk m_I_areHeld 51 k_I_areHeld_51 = some 54 := by decide +kernel
def k_I_areHeld_54 : List vm_I := [.inr (.inr (.inr (5, 1)))]
theorem kc_I_areHeld_54 : vm_chk m_I_areHeld 54 k_I_areHeld_54 = some 57 := by decide +kernel
theorem d_I_areHeld_57 : vm_dec m_I_areHeld 57 (.goto (-30)) 3 = true := by decide +kernel
def k_I_areHeld_60 : List vm_I := [.inr (.inr (.inr (4, 1)))]
theorem kc_I_areHeld_60 : vm_chk m_I_areHeld 60 k_I_areHeld_60 = some 63 := by decide +kernel
theorem d_I_areHeld_63 : vm_dec m_I_areHeld 63 (.goto (-58)) 3 = true := by decide +kernel
def k_I_areHeld_66 : List vm_I := [.inl (.iload_n 3), .inl (.iload_n 2)]
theorem kc_I_areHeld_66 : vm_chk m_I_areHeld 66 k_I_areHeld_66 = some 68 := by decide +kernel
theorem d_I_areHeld_68 : vm_dec m_I_areHeld 68 (.if_icmp .ne 7) 3 = true := by decide +kernel
def k_I_areHeld_71 : List vm_I := [.inr (.inl (.int 1, 0))]
theorem kc_I_areHeld_71 : vm_chk m_I_areHeld 71 k_I_areHeld_71 = some 72 := by decide +kernel
theorem d_I_areHeld_72 : vm_dec m_I_areHeld 72 (.goto 4) 3 = true := by decide +kernel
def k_I_areHeld_75 : List vm_I := [.inr (.inl (.int 0, 0))]
theorem kc_I_areHeld_75 : vm_chk m_I_areHeld 75 k_I_areHeld_75 = some 76 := by decide +kernel
theorem d_I_areHeld_76 : vm_dec m_I_areHeld 76 .ireturn 1 = true := by decide +kernel
