def k_M_init_0 : List vm_I := [.inl (.aload_n 0)]
theorem kc_M_init_0 : vm_chk m_M_init 0 k_M_init_0 = some 1 := by decide +kernel
theorem d_M_init_1 : vm_dec m_M_init 1 (.invokespecial 1) 3 = true := by decide +kernel
def k_M_init_4 : List vm_I := [.inl (.aload_n 0), .inr (.inl (.int 900, 0))]
theorem kc_M_init_4 : vm_chk m_M_init 4 k_M_init_4 = some 8 := by decide +kernel
-- M_init_8 [8, 'newarray', 'int', '']
def k_M_init_10 : List vm_I := [.inr (.inr (.inl (3, 591, 7, 5, 3))), .inl (.aload_n 0), .inr (.inl (.int 64, 0))]
theorem kc_M_init_10 : vm_chk m_M_init 10 k_M_init_10 = some 16 := by decide +kernel
-- M_init_16 [16, 'newarray', 'boolean', '']
def k_M_init_18 : List vm_I := [.inr (.inr (.inl (3, 592, 13, 5, 4))), .inl (.aload_n 0), .inr (.inl (.int 64, 0))]
theorem kc_M_init_18 : vm_chk m_M_init 18 k_M_init_18 = some 24 := by decide +kernel
-- M_init_24 [24, 'newarray', 'int', '']
def k_M_init_26 : List vm_I := [.inr (.inr (.inl (3, 593, 17, 5, 5))), .inl (.aload_n 0), .inr (.inl (.int 16384, 0))]
theorem kc_M_init_26 : vm_chk m_M_init 26 k_M_init_26 = some 33 := by decide +kernel
-- M_init_33 [33, 'newarray', 'int', '']
def k_M_init_35 : List vm_I := [.inr (.inr (.inl (3, 594, 20, 5, 6))), .inl (.aload_n 0), .inr (.inl (.int 8, 0))]
theorem kc_M_init_35 : vm_chk m_M_init 35 k_M_init_35 = some 41 := by decide +kernel
-- M_init_41 [41, 'newarray', 'long', '']
def k_M_init_43 : List vm_I := [.inr (.inr (.inl (3, 596, 23, 5, 8))), .inl (.aload_n 0), .inr (.inl (.int 8, 0))]
theorem kc_M_init_43 : vm_chk m_M_init 43 k_M_init_43 = some 49 := by decide +kernel
-- M_init_49 [49, 'newarray', 'long', '']
def k_M_init_51 : List vm_I := [.inr (.inr (.inl (3, 597, 27, 5, 9))), .inl (.aload_n 0), .inr (.inl (.int 8, 0))]
theorem kc_M_init_51 : vm_chk m_M_init 51 k_M_init_51 = some 57 := by decide +kernel
-- M_init_57 [57, 'newarray', 'int', '']
def k_M_init_59 : List vm_I := [.inr (.inr (.inl (3, 598, 30, 5, 10))), .inl (.aload_n 0), .inr (.inl (.int 8, 0))]
theorem kc_M_init_59 : vm_chk m_M_init 59 k_M_init_59 = some 65 := by decide +kernel
-- M_init_65 [65, 'newarray', 'int', '']
def k_M_init_67 : List vm_I := [.inr (.inr (.inl (3, 599, 33, 5, 11))), .inl (.aload_n 0), .inr (.inl (.int 8, 0))]
theorem kc_M_init_67 : vm_chk m_M_init 67 k_M_init_67 = some 73 := by decide +kernel
-- M_init_73 [73, 'newarray', 'int', '']
def k_M_init_75 : List vm_I := [.inr (.inr (.inl (3, 600, 36, 5, 12))), .inl (.aload_n 0), .inr (.inl (.int 64, 0))]
theorem kc_M_init_75 : vm_chk m_M_init 75 k_M_init_75 = some 81 := by decide +kernel
-- M_init_81 [81, 'newarray', 'boolean', '']
def k_M_init_83 : List vm_I := [.inr (.inr (.inl (3, 601, 39, 5, 13))), .inl (.aload_n 0), .inr (.inl (.int 12, 0))]
theorem kc_M_init_83 : vm_chk m_M_init 83 k_M_init_83 = some 89 := by decide +kernel
-- M_init_89 [89, 'newarray', 'long', '']
def k_M_init_91 : List vm_I := [.inr (.inr (.inl (3, 605, 42, 5, 17))), .inl (.aload_n 0), .inr (.inl (.int (-1), 0)), .inr (.inr (.inl (1, 607, 45, 5, 19))), .inl (.aload_n 0), .inr (.inl (.int (-1), 0)), .inr (.inr (.inl (1, 608, 49, 5, 20))), .inl (.aload_n 0), .inr (.inl (.int (-1), 0)), .inr (.inr (.inl (1, 609, 52, 5, 21))), .inl (.aload_n 0), .inr (.inl (.int (-1), 0)), .inr (.inr (.inl (1, 610, 55, 5, 22))), .inl (.aload_n 0), .inl (.iload_n 1), .inr (.inl (.int 1, 0))]
theorem kc_M_init_91 : vm_chk m_M_init 91 k_M_init_91 = some 117 := by decide +kernel
theorem d_M_init_117 : vm_dec m_M_init 117 (.if_icmp .ge 7) 3 = true := by decide +kernel
def k_M_init_120 : List vm_I := [.inr (.inl (.int 1, 0))]
theorem kc_M_init_120 : vm_chk m_M_init 120 k_M_init_120 = some 121 := by decide +kernel
theorem d_M_init_121 : vm_dec m_M_init 121 (.goto 15) 3 = true := by decide +kernel
def k_M_init_124 : List vm_I := [.inl (.iload_n 1), .inr (.inl (.int 64, 0))]
theorem kc_M_init_124 : vm_chk m_M_init 124 k_M_init_124 = some 127 := by decide +kernel
theorem d_M_init_127 : vm_dec m_M_init 127 (.if_icmp .le 8) 3 = true := by decide +kernel
def k_M_init_130 : List vm_I := [.inr (.inl (.int 64, 0))]
theorem kc_M_init_130 : vm_chk m_M_init 130 k_M_init_130 = some 132 := by decide +kernel
theorem d_M_init_132 : vm_dec m_M_init 132 (.goto 4) 3 = true := by decide +kernel
def k_M_init_135 : List vm_I := [.inl (.iload_n 1)]
theorem kc_M_init_135 : vm_chk m_M_init 135 k_M_init_135 = some 136 := by decide +kernel
def k_M_init_136 : List vm_I := [.inr (.inr (.inl (3, 589, 58, 5, 1)))]
theorem kc_M_init_136 : vm_chk m_M_init 136 k_M_init_136 = some 139 := by decide +kernel
theorem d_M_init_139 : vm_dec m_M_init 139 .return_ 1 = true := by decide +kernel
def k_M_in_0 : List vm_I := [.inl (.iload_n 0), .inl (.iload_n 1)]
theorem kc_M_in_0 : vm_chk m_M_in 0 k_M_in_0 = some 2 := by decide +kernel
theorem d_M_in_2 : vm_dec m_M_in 2 (.if_icmp .lt 12) 3 = true := by decide +kernel
def k_M_in_5 : List vm_I := [.inl (.iload_n 0), .inl (.iload_n 2)]
theorem kc_M_in_5 : vm_chk m_M_in 5 k_M_in_5 = some 7 := by decide +kernel
theorem d_M_in_7 : vm_dec m_M_in 7 (.if_icmp .gt 7) 3 = true := by decide +kernel
def k_M_in_10 : List vm_I := [.inr (.inl (.int 1, 0))]
theorem kc_M_in_10 : vm_chk m_M_in 10 k_M_in_10 = some 11 := by decide +kernel
theorem d_M_in_11 : vm_dec m_M_in 11 (.goto 4) 3 = true := by decide +kernel
def k_M_in_14 : List vm_I := [.inr (.inl (.int 0, 0))]
theorem kc_M_in_14 : vm_chk m_M_in 14 k_M_in_14 = some 15 := by decide +kernel
theorem d_M_in_15 : vm_dec m_M_in 15 .ireturn 1 = true := by decide +kernel
def k_M_add_0 : List vm_I := [.inl (.aload_n 0), .inr (.inl (.int 0, 0)), .inr (.inr (.inl (1, 588, 61, 5, 0))), .inl (.iload_n 3), .inr (.inl (.int 1, 0)), .inr (.inl (.int 8, 0))]
theorem kc_M_add_0 : vm_chk m_M_add 0 k_M_add_0 = some 9 := by decide +kernel
theorem v_M_add_9 : vm_okS m_M_add m_M_in 9 64 3 (667, 668, 48, 669) = true := by decide +kernel
theorem d_M_add_12 : vm_dec m_M_add 12 (.ifCond .ne 6) 3 = true := by decide +kernel
def k_M_add_15 : List vm_I := [.inr (.inl (.int (-2), 0))]
theorem kc_M_add_15 : vm_chk m_M_add 15 k_M_add_15 = some 17 := by decide +kernel
theorem d_M_add_17 : vm_dec m_M_add 17 .ireturn 1 = true := by decide +kernel
def k_M_add_18 : List vm_I := [.inl (.aload_n 0), .inr (.inr (.inl (0, 590, 68, 5, 2))), .inl (.iload_n 3), .inl .iadd, .inr (.inl (.int 900, 0))]
theorem kc_M_add_18 : vm_chk m_M_add 18 k_M_add_18 = some 27 := by decide +kernel
theorem d_M_add_27 : vm_dec m_M_add 27 (.if_icmp .le 6) 3 = true := by decide +kernel
def k_M_add_30 : List vm_I := [.inr (.inl (.int (-3), 0))]
theorem kc_M_add_30 : vm_chk m_M_add 30 k_M_add_30 = some 32 := by decide +kernel
theorem d_M_add_32 : vm_dec m_M_add 32 .ireturn 1 = true := by decide +kernel
def k_M_add_33 : List vm_I := [.inr (.inl (.int 0, 0)), .inl (.istore 4)]
theorem kc_M_add_33 : vm_chk m_M_add 33 k_M_add_33 = some 36 := by decide +kernel
def k_M_add_36 : List vm_I := [.inl (.iload 4), .inl (.iload_n 3)]
theorem kc_M_add_36 : vm_chk m_M_add 36 k_M_add_36 = some 39 := by decide +kernel
theorem d_M_add_39 : vm_dec m_M_add 39 (.if_icmp .ge 40) 3 = true := by decide +kernel
def k_M_add_42 : List vm_I := [.inl (.aload_n 0), .inr (.inr (.inl (0, 591, 7, 5, 3))), .inl (.aload_n 0), .inr (.inr (.inl (0, 590, 68, 5, 2))), .inl (.lload_n 1), .inr (.inl (.int 8, 0)), .inl (.iload 4), .inl .imul, .inl .lshr, .inr (.inl (.long 255, 670)), .inl .land, .inl .l2i, .inl .iastore, .inl (.aload_n 0), .inl .dup, .inr (.inr (.inl (0, 590, 68, 5, 2))), .inr (.inl (.int 1, 0)), .inl .iadd, .inr (.inr (.inl (1, 590, 68, 5, 2))), .inr (.inr (.inr (4, 1)))]
theorem kc_M_add_42 : vm_chk m_M_add 42 k_M_add_42 = some 76 := by decide +kernel
theorem d_M_add_76 : vm_dec m_M_add 76 (.goto (-40)) 3 = true := by decide +kernel
def k_M_add_79 : List vm_I := [.inl (.aload_n 0), .inr (.inr (.inl (0, 590, 68, 5, 2)))]
theorem kc_M_add_79 : vm_chk m_M_add 79 k_M_add_79 = some 83 := by decide +kernel
theorem d_M_add_83 : vm_dec m_M_add 83 .ireturn 1 = true := by decide +kernel
def k_M_zeros_0 : List vm_I := [.inl (.aload_n 0), .inr (.inl (.int 0, 0)), .inr (.inr (.inl (1, 588, 61, 5, 0))), .inl (.iload_n 1), .inr (.inl (.int 1, 0)), .inr (.inl (.int 900, 0))]
theorem kc_M_zeros_0 : vm_chk m_M_zeros 0 k_M_zeros_0 = some 10 := by decide +kernel
theorem v_M_zeros_10 : vm_okS m_M_zeros m_M_in 10 64 3 (667, 668, 48, 669) = true := by decide +kernel
theorem d_M_zeros_13 : vm_dec m_M_zeros 13 (.ifCond .ne 6) 3 = true := by decide +kernel
def k_M_zeros_16 : List vm_I := [.inr (.inl (.int (-2), 0))]
theorem kc_M_zeros_16 : vm_chk m_M_zeros 16 k_M_zeros_16 = some 18 := by decide +kernel
theorem d_M_zeros_18 : vm_dec m_M_zeros 18 .ireturn 1 = true := by decide +kernel
def k_M_zeros_19 : List vm_I := [.inl (.aload_n 0), .inr (.inr (.inl (0, 590, 68, 5, 2))), .inl (.iload_n 1), .inl .iadd, .inr (.inl (.int 900, 0))]
theorem kc_M_zeros_19 : vm_chk m_M_zeros 19 k_M_zeros_19 = some 28 := by decide +kernel
theorem d_M_zeros_28 : vm_dec m_M_zeros 28 (.if_icmp .le 6) 3 = true := by decide +kernel
def k_M_zeros_31 : List vm_I := [.inr (.inl (.int (-3), 0))]
theorem kc_M_zeros_31 : vm_chk m_M_zeros 31 k_M_zeros_31 = some 33 := by decide +kernel
theorem d_M_zeros_33 : vm_dec m_M_zeros 33 .ireturn 1 = true := by decide +kernel
def k_M_zeros_34 : List vm_I := [.inr (.inl (.int 0, 0)), .inl (.istore_n 2)]
theorem kc_M_zeros_34 : vm_chk m_M_zeros 34 k_M_zeros_34 = some 36 := by decide +kernel
def k_M_zeros_36 : List vm_I := [.inl (.iload_n 2), .inl (.iload_n 1)]
theorem kc_M_zeros_36 : vm_chk m_M_zeros 36 k_M_zeros_36 = some 38 := by decide +kernel
theorem d_M_zeros_38 : vm_dec m_M_zeros 38 (.if_icmp .ge 29) 3 = true := by decide +kernel
def k_M_zeros_41 : List vm_I := [.inl (.aload_n 0), .inr (.inr (.inl (0, 591, 7, 5, 3))), .inl (.aload_n 0), .inr (.inr (.inl (0, 590, 68, 5, 2))), .inr (.inl (.int 0, 0)), .inl .iastore, .inl (.aload_n 0), .inl .dup, .inr (.inr (.inl (0, 590, 68, 5, 2))), .inr (.inl (.int 1, 0)), .inl .iadd, .inr (.inr (.inl (1, 590, 68, 5, 2))), .inr (.inr (.inr (2, 1)))]
theorem kc_M_zeros_41 : vm_chk m_M_zeros 41 k_M_zeros_41 = some 64 := by decide +kernel
theorem d_M_zeros_64 : vm_dec m_M_zeros 64 (.goto (-28)) 3 = true := by decide +kernel
def k_M_zeros_67 : List vm_I := [.inl (.aload_n 0), .inr (.inr (.inl (0, 590, 68, 5, 2)))]
theorem kc_M_zeros_67 : vm_chk m_M_zeros 67 k_M_zeros_67 = some 71 := by decide +kernel
theorem d_M_zeros_71 : vm_dec m_M_zeros 71 .ireturn 1 = true := by decide +kernel
def k_M_isWide_0 : List vm_I := [.inl (.iload_n 0), .inr (.inl (.int 1, 0))]
theorem kc_M_isWide_0 : vm_chk m_M_isWide 0 k_M_isWide_0 = some 2 := by decide +kernel
theorem d_M_isWide_2 : vm_dec m_M_isWide 2 (.if_icmp .eq 13) 3 = true := by decide +kernel
def k_M_isWide_5 : List vm_I := [.inl (.iload_n 0), .inr (.inl (.int 2, 0))]
theorem kc_M_isWide_5 : vm_chk m_M_isWide 5 k_M_isWide_5 = some 7 := by decide +kernel
theorem d_M_isWide_7 : vm_dec m_M_isWide 7 (.if_icmp .eq 8) 3 = true := by decide +kernel
def k_M_isWide_10 : List vm_I := [.inl (.iload_n 0), .inr (.inl (.int 4, 0))]
theorem kc_M_isWide_10 : vm_chk m_M_isWide 10 k_M_isWide_10 = some 12 := by decide +kernel
theorem d_M_isWide_12 : vm_dec m_M_isWide 12 (.if_icmp .ne 7) 3 = true := by decide +kernel
def k_M_isWide_15 : List vm_I := [.inr (.inl (.int 1, 0))]
theorem kc_M_isWide_15 : vm_chk m_M_isWide 15 k_M_isWide_15 = some 16 := by decide +kernel
theorem d_M_isWide_16 : vm_dec m_M_isWide 16 (.goto 4) 3 = true := by decide +kernel
def k_M_isWide_19 : List vm_I := [.inr (.inl (.int 0, 0))]
theorem kc_M_isWide_19 : vm_chk m_M_isWide 19 k_M_isWide_19 = some 20 := by decide +kernel
theorem d_M_isWide_20 : vm_dec m_M_isWide 20 .ireturn 1 = true := by decide +kernel
def k_M_poke_0 : List vm_I := [.inl (.aload_n 0), .inr (.inl (.int 0, 0)), .inr (.inr (.inl (1, 588, 61, 5, 0))), .inl (.iload_n 2)]
theorem kc_M_poke_0 : vm_chk m_M_poke 0 k_M_poke_0 = some 6 := by decide +kernel
theorem v_M_poke_6 : vm_okS m_M_poke m_M_isWide 6 73 1 (679, 680, 48, 681) = true := by decide +kernel
theorem d_M_poke_9 : vm_dec m_M_poke 9 (.ifCond .eq 17) 3 = true := by decide +kernel
def k_M_poke_12 : List vm_I := [.inl (.iload_n 1), .inr (.inl (.int 0, 0)), .inl (.aload_n 0), .inr (.inr (.inl (0, 590, 68, 5, 2))), .inl (.iload_n 2), .inl .isub]
theorem kc_M_poke_12 : vm_chk m_M_poke 12 k_M_poke_12 = some 20 := by decide +kernel
theorem v_M_poke_20 : vm_okS m_M_poke m_M_in 20 64 3 (667, 668, 48, 669) = true := by decide +kernel
theorem d_M_poke_23 : vm_dec m_M_poke 23 (.ifCond .ne 6) 3 = true := by decide +kernel
def k_M_poke_26 : List vm_I := [.inr (.inl (.int (-2), 0))]
theorem kc_M_poke_26 : vm_chk m_M_poke 26 k_M_poke_26 = some 28 := by decide +kernel
theorem d_M_poke_28 : vm_dec m_M_poke 28 .ireturn 1 = true := by decide +kernel
def k_M_poke_29 : List vm_I := [.inr (.inl (.int 0, 0)), .inl (.istore 4)]
theorem kc_M_poke_29 : vm_chk m_M_poke 29 k_M_poke_29 = some 32 := by decide +kernel
def k_M_poke_32 : List vm_I := [.inl (.iload 4), .inl (.iload_n 2)]
theorem kc_M_poke_32 : vm_chk m_M_poke 32 k_M_poke_32 = some 35 := by decide +kernel
theorem d_M_poke_35 : vm_dec m_M_poke 35 (.if_icmp .ge 29) 3 = true := by decide +kernel
def k_M_poke_38 : List vm_I := [.inl (.aload_n 0), .inr (.inr (.inl (0, 591, 7, 5, 3))), .inl (.iload_n 1), .inl (.iload 4), .inl .iadd, .inl (.iload_n 3), .inr (.inl (.int 8, 0)), .inl (.iload 4), .inl .imul, .inl .ishr, .inr (.inl (.int 255, 0)), .inl .iand, .inl .iastore, .inr (.inr (.inr (4, 1)))]
theorem kc_M_poke_38 : vm_chk m_M_poke 38 k_M_poke_38 = some 61 := by decide +kernel
theorem d_M_poke_61 : vm_dec m_M_poke 61 (.goto (-29)) 3 = true := by decide +kernel
def k_M_poke_64 : List vm_I := [.inr (.inl (.int 0, 0))]
theorem kc_M_poke_64 : vm_chk m_M_poke 64 k_M_poke_64 = some 65 := by decide +kernel
theorem d_M_poke_65 : vm_dec m_M_poke 65 .ireturn 1 = true := by decide +kernel
def k_M_peek_0 : List vm_I := [.inl (.aload_n 0), .inr (.inl (.int 0, 0)), .inr (.inr (.inl (1, 588, 61, 5, 0))), .inl (.iload_n 1), .inr (.inl (.int 0, 0)), .inl (.aload_n 0), .inr (.inr (.inl (0, 590, 68, 5, 2))), .inr (.inl (.int 1, 0)), .inl .isub]
theorem kc_M_peek_0 : vm_chk m_M_peek 0 k_M_peek_0 = some 13 := by decide +kernel
theorem v_M_peek_13 : vm_okS m_M_peek m_M_in 13 64 3 (667, 668, 48, 669) = true := by decide +kernel
theorem d_M_peek_16 : vm_dec m_M_peek 16 (.ifCond .eq 12) 3 = true := by decide +kernel
def k_M_peek_19 : List vm_I := [.inl (.aload_n 0), .inr (.inr (.inl (0, 591, 7, 5, 3))), .inl (.iload_n 1), .inl .iaload]
theorem kc_M_peek_19 : vm_chk m_M_peek 19 k_M_peek_19 = some 25 := by decide +kernel
theorem d_M_peek_25 : vm_dec m_M_peek 25 (.goto 4) 3 = true := by decide +kernel
def k_M_peek_28 : List vm_I := [.inr (.inl (.int (-1), 0))]
theorem kc_M_peek_28 : vm_chk m_M_peek 28 k_M_peek_28 = some 29 := by decide +kernel
theorem d_M_peek_29 : vm_dec m_M_peek 29 .ireturn 1 = true := by decide +kernel
def k_M_cut_0 : List vm_I := [.inl (.aload_n 0), .inr (.inl (.int 0, 0)), .inr (.inr (.inl (1, 588, 61, 5, 0))), .inl (.iload_n 1), .inr (.inl (.int 0, 0)), .inl (.aload_n 0), .inr (.inr (.inl (0, 590, 68, 5, 2)))]
theorem kc_M_cut_0 : vm_chk m_M_cut 0 k_M_cut_0 = some 11 := by decide +kernel
theorem v_M_cut_11 : vm_okS m_M_cut m_M_in 11 64 3 (667, 668, 48, 669) = true := by decide +kernel
theorem d_M_cut_14 : vm_dec m_M_cut 14 (.ifCond .ne 6) 3 = true := by decide +kernel
def k_M_cut_17 : List vm_I := [.inr (.inl (.int (-2), 0))]
theorem kc_M_cut_17 : vm_chk m_M_cut 17 k_M_cut_17 = some 19 := by decide +kernel
theorem d_M_cut_19 : vm_dec m_M_cut 19 .ireturn 1 = true := by decide +kernel
def k_M_cut_20 : List vm_I := [.inl (.aload_n 0), .inr (.inr (.inl (0, 590, 68, 5, 2))), .inl (.iload_n 1), .inl .isub, .inl (.istore_n 2), .inl (.aload_n 0), .inl (.iload_n 1), .inr (.inr (.inl (1, 590, 68, 5, 2))), .inl (.iload_n 2)]
theorem kc_M_cut_20 : vm_chk m_M_cut 20 k_M_cut_20 = some 33 := by decide +kernel
theorem d_M_cut_33 : vm_dec m_M_cut 33 .ireturn 1 = true := by decide +kernel
def k_M_half_0 : List vm_I := [.inl (.aload_n 0), .inr (.inr (.inl (0, 591, 7, 5, 3))), .inl (.iload_n 1), .inl .iaload, .inl (.aload_n 0), .inr (.inr (.inl (0, 591, 7, 5, 3))), .inl (.iload_n 1), .inr (.inl (.int 1, 0)), .inl .iadd, .inl .iaload, .inr (.inl (.int 8, 0)), .inl .ishl, .inl .ior]
theorem kc_M_half_0 : vm_chk m_M_half 0 k_M_half_0 = some 18 := by decide +kernel
theorem d_M_half_18 : vm_dec m_M_half 18 .ireturn 1 = true := by decide +kernel
def k_M_word_0 : List vm_I := [.inl (.aload_n 0), .inl (.iload_n 1)]
theorem kc_M_word_0 : vm_chk m_M_word 0 k_M_word_0 = some 2 := by decide +kernel
theorem v_M_word_2 : vm_okV m_M_word m_M_half 2 77 1 (702, 704, 24, 48, 705) = true := by decide +kernel
def k_M_word_5 : List vm_I := [.inl .i2l, .inl (.aload_n 0), .inl (.iload_n 1), .inr (.inl (.int 2, 0)), .inl .iadd]
theorem kc_M_word_5 : vm_chk m_M_word 5 k_M_word_5 = some 10 := by decide +kernel
theorem v_M_word_10 : vm_okV m_M_word m_M_half 10 77 1 (702, 704, 24, 48, 705) = true := by decide +kernel
def k_M_word_13 : List vm_I := [.inl .i2l, .inr (.inl (.int 16, 0)), .inl .lshl, .inl .lor]
theorem kc_M_word_13 : vm_chk m_M_word 13 k_M_word_13 = some 18 := by decide +kernel
theorem d_M_word_18 : vm_dec m_M_word 18 .lreturn 1 = true := by decide +kernel
def k_M_fail_0 : List vm_I := [.inl (.aload_n 0), .inl (.iload_n 1), .inr (.inr (.inl (1, 606, 81, 5, 18))), .inl (.aload_n 0), .inl (.iload_n 2), .inr (.inr (.inl (1, 607, 45, 5, 19))), .inr (.inl (.int 0, 0))]
theorem kc_M_fail_0 : vm_chk m_M_fail 0 k_M_fail_0 = some 11 := by decide +kernel
theorem d_M_fail_11 : vm_dec m_M_fail 11 .ireturn 1 = true := by decide +kernel
def k_M_isHeader_0 : List vm_I := [.inl (.aload_n 0), .inr (.inr (.inl (0, 590, 68, 5, 2))), .inr (.inl (.int 52, 0))]
theorem kc_M_isHeader_0 : vm_chk m_M_isHeader 0 k_M_isHeader_0 = some 6 := by decide +kernel
theorem d_M_isHeader_6 : vm_dec m_M_isHeader 6 (.if_icmp .ge 13) 3 = true := by decide +kernel
def k_M_isHeader_9 : List vm_I := [.inl (.aload_n 0), .inr (.inl (.int 1, 0)), .inl (.aload_n 0), .inr (.inr (.inl (0, 590, 68, 5, 2)))]
theorem kc_M_isHeader_9 : vm_chk m_M_isHeader 9 k_M_isHeader_9 = some 15 := by decide +kernel
theorem v_M_isHeader_15 : vm_okV m_M_isHeader m_M_fail 15 84 2 (698, 700, 23, 48, 701) = true := by decide +kernel
theorem d_M_isHeader_18 : vm_dec m_M_isHeader 18 .ireturn 1 = true := by decide +kernel
def k_M_isHeader_19 : List vm_I := [.inr (.inl (.int 0, 0)), .inl (.istore_n 1)]
theorem kc_M_isHeader_19 : vm_chk m_M_isHeader 19 k_M_isHeader_19 = some 21 := by decide +kernel
def k_M_isHeader_21 : List vm_I := [.inl (.iload_n 1), .inr (.inl (.int 7, 0))]
theorem kc_M_isHeader_21 : vm_chk m_M_isHeader 21 k_M_isHeader_21 = some 24 := by decide +kernel
theorem d_M_isHeader_24 : vm_dec m_M_isHeader 24 (.if_icmp .ge 67) 3 = true := by decide +kernel
def k_M_isHeader_27 : List vm_I := [.inl (.iload_n 1)]
theorem kc_M_isHeader_27 : vm_chk m_M_isHeader 27 k_M_isHeader_27 = some 28 := by decide +kernel
theorem d_M_isHeader_28 : vm_dec m_M_isHeader 28 (.ifCond .ne 8) 3 = true := by decide +kernel
def k_M_isHeader_31 : List vm_I := [.inr (.inl (.int 127, 0))]
theorem kc_M_isHeader_31 : vm_chk m_M_isHeader 31 k_M_isHeader_31 = some 33 := by decide +kernel
theorem d_M_isHeader_33 : vm_dec m_M_isHeader 33 (.goto 34) 3 = true := by decide +kernel
def k_M_isHeader_36 : List vm_I := [.inl (.iload_n 1), .inr (.inl (.int 1, 0))]
theorem kc_M_isHeader_36 : vm_chk m_M_isHeader 36 k_M_isHeader_36 = some 38 := by decide +kernel
theorem d_M_isHeader_38 : vm_dec m_M_isHeader 38 (.if_icmp .ne 8) 3 = true := by decide +kernel
def k_M_isHeader_41 : List vm_I := [.inr (.inl (.int 69, 0))]
theorem kc_M_isHeader_41 : vm_chk m_M_isHeader 41 k_M_isHeader_41 = some 43 := by decide +kernel
theorem d_M_isHeader_43 : vm_dec m_M_isHeader 43 (.goto 24) 3 = true := by decide +kernel
def k_M_isHeader_46 : List vm_I := [.inl (.iload_n 1), .inr (.inl (.int 2, 0))]
theorem kc_M_isHeader_46 : vm_chk m_M_isHeader 46 k_M_isHeader_46 = some 48 := by decide +kernel
theorem d_M_isHeader_48 : vm_dec m_M_isHeader 48 (.if_icmp .ne 8) 3 = true := by decide +kernel
def k_M_isHeader_51 : List vm_I := [.inr (.inl (.int 76, 0))]
theorem kc_M_isHeader_51 : vm_chk m_M_isHeader 51 k_M_isHeader_51 = some 53 := by decide +kernel
theorem d_M_isHeader_53 : vm_dec m_M_isHeader 53 (.goto 14) 3 = true := by decide +kernel
def k_M_isHeader_56 : List vm_I := [.inl (.iload_n 1), .inr (.inl (.int 3, 0))]
theorem kc_M_isHeader_56 : vm_chk m_M_isHeader 56 k_M_isHeader_56 = some 58 := by decide +kernel
theorem d_M_isHeader_58 : vm_dec m_M_isHeader 58 (.if_icmp .ne 8) 3 = true := by decide +kernel
def k_M_isHeader_61 : List vm_I := [.inr (.inl (.int 70, 0))]
theorem kc_M_isHeader_61 : vm_chk m_M_isHeader 61 k_M_isHeader_61 = some 63 := by decide +kernel
theorem d_M_isHeader_63 : vm_dec m_M_isHeader 63 (.goto 4) 3 = true := by decide +kernel
def k_M_isHeader_66 : List vm_I := [.inr (.inl (.int 1, 0))]
theorem kc_M_isHeader_66 : vm_chk m_M_isHeader 66 k_M_isHeader_66 = some 67 := by decide +kernel
def k_M_isHeader_67 : List vm_I := [.inl (.istore_n 2), .inl (.aload_n 0), .inr (.inr (.inl (0, 591, 7, 5, 3))), .inl (.iload_n 1), .inl .iaload, .inl (.iload_n 2)]
theorem kc_M_isHeader_67 : vm_chk m_M_isHeader 67 k_M_isHeader_67 = some 75 := by decide +kernel
theorem d_M_isHeader_75 : vm_dec m_M_isHeader 75 (.if_icmp .eq 10) 3 = true := by decide +kernel
def k_M_isHeader_78 : List vm_I := [.inl (.aload_n 0), .inr (.inl (.int 2, 0)), .inl (.iload_n 1)]
theorem kc_M_isHeader_78 : vm_chk m_M_isHeader 78 k_M_isHeader_78 = some 81 := by decide +kernel
theorem v_M_isHeader_81 : vm_okV m_M_isHeader m_M_fail 81 84 2 (698, 700, 23, 48, 701) = true := by decide +kernel
theorem d_M_isHeader_84 : vm_dec m_M_isHeader 84 .ireturn 1 = true := by decide +kernel
def k_M_isHeader_85 : List vm_I := [.inr (.inr (.inr (1, 1)))]
theorem kc_M_isHeader_85 : vm_chk m_M_isHeader 85 k_M_isHeader_85 = some 88 := by decide +kernel
theorem d_M_isHeader_88 : vm_dec m_M_isHeader 88 (.goto (-67)) 3 = true := by decide +kernel
def k_M_isHeader_91 : List vm_I := [.inl (.aload_n 0), .inr (.inl (.int 16, 0))]
theorem kc_M_isHeader_91 : vm_chk m_M_isHeader 91 k_M_isHeader_91 = some 94 := by decide +kernel
theorem v_M_isHeader_94 : vm_okV m_M_isHeader m_M_half 94 77 1 (702, 704, 24, 48, 705) = true := by decide +kernel
def k_M_isHeader_97 : List vm_I := [.inr (.inl (.int 2, 0))]
theorem kc_M_isHeader_97 : vm_chk m_M_isHeader 97 k_M_isHeader_97 = some 98 := by decide +kernel
theorem d_M_isHeader_98 : vm_dec m_M_isHeader 98 (.if_icmp .eq 21) 3 = true := by decide +kernel
def k_M_isHeader_101 : List vm_I := [.inl (.aload_n 0), .inr (.inl (.int 16, 0))]
theorem kc_M_isHeader_101 : vm_chk m_M_isHeader 101 k_M_isHeader_101 = some 104 := by decide +kernel
theorem v_M_isHeader_104 : vm_okV m_M_isHeader m_M_half 104 77 1 (702, 704, 24, 48, 705) = true := by decide +kernel
def k_M_isHeader_107 : List vm_I := [.inr (.inl (.int 3, 0))]
theorem kc_M_isHeader_107 : vm_chk m_M_isHeader 107 k_M_isHeader_107 = some 108 := by decide +kernel
theorem d_M_isHeader_108 : vm_dec m_M_isHeader 108 (.if_icmp .eq 11) 3 = true := by decide +kernel
def k_M_isHeader_111 : List vm_I := [.inl (.aload_n 0), .inr (.inl (.int 3, 0)), .inr (.inl (.int 16, 0))]
theorem kc_M_isHeader_111 : vm_chk m_M_isHeader 111 k_M_isHeader_111 = some 115 := by decide +kernel
theorem v_M_isHeader_115 : vm_okV m_M_isHeader m_M_fail 115 84 2 (698, 700, 23, 48, 701) = true := by decide +kernel
theorem d_M_isHeader_118 : vm_dec m_M_isHeader 118 .ireturn 1 = true := by decide +kernel
def k_M_isHeader_119 : List vm_I := [.inl (.aload_n 0), .inr (.inl (.int 18, 0))]
theorem kc_M_isHeader_119 : vm_chk m_M_isHeader 119 k_M_isHeader_119 = some 122 := by decide +kernel
theorem v_M_isHeader_122 : vm_okV m_M_isHeader m_M_half 122 77 1 (702, 704, 24, 48, 705) = true := by decide +kernel
def k_M_isHeader_125 : List vm_I := [.inr (.inl (.int 243, 0))]
theorem kc_M_isHeader_125 : vm_chk m_M_isHeader 125 k_M_isHeader_125 = some 128 := by decide +kernel
theorem d_M_isHeader_128 : vm_dec m_M_isHeader 128 (.if_icmp .eq 11) 3 = true := by decide +kernel
def k_M_isHeader_131 : List vm_I := [.inl (.aload_n 0), .inr (.inl (.int 4, 0)), .inr (.inl (.int 18, 0))]
theorem kc_M_isHeader_131 : vm_chk m_M_isHeader 131 k_M_isHeader_131 = some 135 := by decide +kernel
theorem v_M_isHeader_135 : vm_okV m_M_isHeader m_M_fail 135 84 2 (698, 700, 23, 48, 701) = true := by decide +kernel
theorem d_M_isHeader_138 : vm_dec m_M_isHeader 138 .ireturn 1 = true := by decide +kernel
def k_M_isHeader_139 : List vm_I := [.inl (.aload_n 0), .inr (.inl (.int 20, 0))]
theorem kc_M_isHeader_139 : vm_chk m_M_isHeader 139 k_M_isHeader_139 = some 142 := by decide +kernel
theorem v_M_isHeader_142 : vm_okV m_M_isHeader m_M_word 142 88 1 (706, 708, 25, 48, 709) = true := by decide +kernel
def k_M_isHeader_145 : List vm_I := [.inr (.inl (.long 1, 0))]
theorem kc_M_isHeader_145 : vm_chk m_M_isHeader 145 k_M_isHeader_145 = some 146 := by decide +kernel
theorem dl_M_isHeader_146 : vm_dec m_M_isHeader 146 .lcmp 1 = true := by decide +kernel
theorem d_M_isHeader_146 : vm_dec m_M_isHeader 147 (.ifCond .eq 11) 3 = true := by decide +kernel
def k_M_isHeader_150 : List vm_I := [.inl (.aload_n 0), .inr (.inl (.int 5, 0)), .inr (.inl (.int 20, 0))]
theorem kc_M_isHeader_150 : vm_chk m_M_isHeader 150 k_M_isHeader_150 = some 154 := by decide +kernel
theorem v_M_isHeader_154 : vm_okV m_M_isHeader m_M_fail 154 84 2 (698, 700, 23, 48, 701) = true := by decide +kernel
theorem d_M_isHeader_157 : vm_dec m_M_isHeader 157 .ireturn 1 = true := by decide +kernel
def k_M_isHeader_158 : List vm_I := [.inl (.aload_n 0), .inr (.inl (.int 40, 0))]
theorem kc_M_isHeader_158 : vm_chk m_M_isHeader 158 k_M_isHeader_158 = some 161 := by decide +kernel
theorem v_M_isHeader_161 : vm_okV m_M_isHeader m_M_half 161 77 1 (702, 704, 24, 48, 705) = true := by decide +kernel
def k_M_isHeader_164 : List vm_I := [.inr (.inl (.int 52, 0))]
theorem kc_M_isHeader_164 : vm_chk m_M_isHeader 164 k_M_isHeader_164 = some 166 := by decide +kernel
theorem d_M_isHeader_166 : vm_dec m_M_isHeader 166 (.if_icmp .eq 12) 3 = true := by decide +kernel
def k_M_isHeader_169 : List vm_I := [.inl (.aload_n 0), .inr (.inl (.int 6, 0)), .inr (.inl (.int 40, 0))]
theorem kc_M_isHeader_169 : vm_chk m_M_isHeader 169 k_M_isHeader_169 = some 174 := by decide +kernel
theorem v_M_isHeader_174 : vm_okV m_M_isHeader m_M_fail 174 84 2 (698, 700, 23, 48, 701) = true := by decide +kernel
theorem d_M_isHeader_177 : vm_dec m_M_isHeader 177 .ireturn 1 = true := by decide +kernel
def k_M_isHeader_178 : List vm_I := [.inl (.aload_n 0), .inr (.inl (.int 42, 0))]
theorem kc_M_isHeader_178 : vm_chk m_M_isHeader 178 k_M_isHeader_178 = some 181 := by decide +kernel
theorem v_M_isHeader_181 : vm_okV m_M_isHeader m_M_half 181 77 1 (702, 704, 24, 48, 705) = true := by decide +kernel
def k_M_isHeader_184 : List vm_I := [.inr (.inl (.int 32, 0))]
theorem kc_M_isHeader_184 : vm_chk m_M_isHeader 184 k_M_isHeader_184 = some 186 := by decide +kernel
theorem d_M_isHeader_186 : vm_dec m_M_isHeader 186 (.if_icmp .eq 12) 3 = true := by decide +kernel
def k_M_isHeader_189 : List vm_I := [.inl (.aload_n 0), .inr (.inl (.int 6, 0)), .inr (.inl (.int 42, 0))]
theorem kc_M_isHeader_189 : vm_chk m_M_isHeader 189 k_M_isHeader_189 = some 194 := by decide +kernel
theorem v_M_isHeader_194 : vm_okV m_M_isHeader m_M_fail 194 84 2 (698, 700, 23, 48, 701) = true := by decide +kernel
theorem d_M_isHeader_197 : vm_dec m_M_isHeader 197 .ireturn 1 = true := by decide +kernel
def k_M_isHeader_198 : List vm_I := [.inl (.aload_n 0), .inr (.inl (.int 44, 0))]
theorem kc_M_isHeader_198 : vm_chk m_M_isHeader 198 k_M_isHeader_198 = some 201 := by decide +kernel
theorem v_M_isHeader_201 : vm_okV m_M_isHeader m_M_half 201 77 1 (702, 704, 24, 48, 705) = true := by decide +kernel
def k_M_isHeader_204 : List vm_I := [.inr (.inl (.int 1, 0)), .inr (.inl (.int 8, 0))]
theorem kc_M_isHeader_204 : vm_chk m_M_isHeader 204 k_M_isHeader_204 = some 207 := by decide +kernel
theorem v_M_isHeader_207 : vm_okS m_M_isHeader m_M_in 207 64 3 (667, 668, 48, 669) = true := by decide +kernel
theorem d_M_isHeader_210 : vm_dec m_M_isHeader 210 (.ifCond .ne 12) 3 = true := by decide +kernel
def k_M_isHeader_213 : List vm_I := [.inl (.aload_n 0), .inr (.inl (.int 7, 0)), .inr (.inl (.int 44, 0))]
theorem kc_M_isHeader_213 : vm_chk m_M_isHeader 213 k_M_isHeader_213 = some 218 := by decide +kernel
theorem v_M_isHeader_218 : vm_okV m_M_isHeader m_M_fail 218 84 2 (698, 700, 23, 48, 701) = true := by decide +kernel
theorem d_M_isHeader_221 : vm_dec m_M_isHeader 221 .ireturn 1 = true := by decide +kernel
def k_M_isHeader_222 : List vm_I := [.inl (.aload_n 0), .inr (.inl (.int 28, 0))]
theorem kc_M_isHeader_222 : vm_chk m_M_isHeader 222 k_M_isHeader_222 = some 225 := by decide +kernel
theorem v_M_isHeader_225 : vm_okV m_M_isHeader m_M_word 225 88 1 (706, 708, 25, 48, 709) = true := by decide +kernel
def k_M_isHeader_228 : List vm_I := [.inr (.inl (.long 32, 710)), .inl (.aload_n 0), .inr (.inl (.int 44, 0))]
theorem kc_M_isHeader_228 : vm_chk m_M_isHeader 228 k_M_isHeader_228 = some 234 := by decide +kernel
theorem v_M_isHeader_234 : vm_okV m_M_isHeader m_M_half 234 77 1 (702, 704, 24, 48, 705) = true := by decide +kernel
def k_M_isHeader_237 : List vm_I := [.inl .i2l, .inl .lmul, .inl .ladd, .inl (.aload_n 0), .inr (.inr (.inl (0, 590, 68, 5, 2))), .inl .i2l]
theorem kc_M_isHeader_237 : vm_chk m_M_isHeader 237 k_M_isHeader_237 = some 245 := by decide +kernel
theorem dl_M_isHeader_245 : vm_dec m_M_isHeader 245 .lcmp 1 = true := by decide +kernel
theorem d_M_isHeader_245 : vm_dec m_M_isHeader 246 (.ifCond .le 14) 3 = true := by decide +kernel
def k_M_isHeader_249 : List vm_I := [.inl (.aload_n 0), .inr (.inl (.int 8, 0)), .inr (.inl (.int 28, 0))]
theorem kc_M_isHeader_249 : vm_chk m_M_isHeader 249 k_M_isHeader_249 = some 254 := by decide +kernel
theorem v_M_isHeader_254 : vm_okV m_M_isHeader m_M_fail 254 84 2 (698, 700, 23, 48, 701) = true := by decide +kernel
theorem d_M_isHeader_257 : vm_dec m_M_isHeader 257 (.ifCond .eq 7) 3 = true := by decide +kernel
def k_M_isHeader_260 : List vm_I := [.inr (.inl (.int 1, 0))]
theorem kc_M_isHeader_260 : vm_chk m_M_isHeader 260 k_M_isHeader_260 = some 261 := by decide +kernel
theorem d_M_isHeader_261 : vm_dec m_M_isHeader 261 (.goto 4) 3 = true := by decide +kernel
def k_M_isHeader_264 : List vm_I := [.inr (.inl (.int 0, 0))]
theorem kc_M_isHeader_264 : vm_chk m_M_isHeader 264 k_M_isHeader_264 = some 265 := by decide +kernel
theorem d_M_isHeader_265 : vm_dec m_M_isHeader 265 .ireturn 1 = true := by decide +kernel
def k_M_mappedPages_0 : List vm_I := [.inr (.inl (.int 0, 0)), .inl (.istore_n 1), .inr (.inl (.int 0, 0)), .inl (.istore_n 2)]
theorem kc_M_mappedPages_0 : vm_chk m_M_mappedPages 0 k_M_mappedPages_0 = some 4 := by decide +kernel
def k_M_mappedPages_4 : List vm_I := [.inl (.iload_n 2), .inr (.inl (.int 64, 0))]
theorem kc_M_mappedPages_4 : vm_chk m_M_mappedPages 4 k_M_mappedPages_4 = some 7 := by decide +kernel
theorem d_M_mappedPages_7 : vm_dec m_M_mappedPages 7 (.if_icmp .ge 26) 3 = true := by decide +kernel
def k_M_mappedPages_10 : List vm_I := [.inl (.iload_n 1), .inl (.aload_n 0), .inr (.inr (.inl (0, 592, 13, 5, 4))), .inl (.iload_n 2), .inl .baload]
theorem kc_M_mappedPages_10 : vm_chk m_M_mappedPages 10 k_M_mappedPages_10 = some 17 := by decide +kernel
theorem d_M_mappedPages_17 : vm_dec m_M_mappedPages 17 (.ifCond .eq 7) 3 = true := by decide +kernel
def k_M_mappedPages_20 : List vm_I := [.inr (.inl (.int 1, 0))]
theorem kc_M_mappedPages_20 : vm_chk m_M_mappedPages 20 k_M_mappedPages_20 = some 21 := by decide +kernel
theorem d_M_mappedPages_21 : vm_dec m_M_mappedPages 21 (.goto 4) 3 = true := by decide +kernel
def k_M_mappedPages_24 : List vm_I := [.inr (.inl (.int 0, 0))]
theorem kc_M_mappedPages_24 : vm_chk m_M_mappedPages 24 k_M_mappedPages_24 = some 25 := by decide +kernel
def k_M_mappedPages_25 : List vm_I := [.inl .iadd, .inl (.istore_n 1), .inr (.inr (.inr (2, 1)))]
theorem kc_M_mappedPages_25 : vm_chk m_M_mappedPages 25 k_M_mappedPages_25 = some 30 := by decide +kernel
theorem d_M_mappedPages_30 : vm_dec m_M_mappedPages 30 (.goto (-26)) 3 = true := by decide +kernel
def k_M_mappedPages_33 : List vm_I := [.inl (.iload_n 1)]
theorem kc_M_mappedPages_33 : vm_chk m_M_mappedPages 33 k_M_mappedPages_33 = some 34 := by decide +kernel
theorem d_M_mappedPages_34 : vm_dec m_M_mappedPages 34 .ireturn 1 = true := by decide +kernel
def k_M_isSegment_0 : List vm_I := [.inl (.aload_n 0), .inl (.iload_n 1), .inr (.inl (.int 4, 0)), .inl .iadd]
theorem kc_M_isSegment_0 : vm_chk m_M_isSegment 0 k_M_isSegment_0 = some 4 := by decide +kernel
theorem v_M_isSegment_4 : vm_okV m_M_isSegment m_M_word 4 88 1 (706, 708, 25, 48, 709) = true := by decide +kernel
def k_M_isSegment_7 : List vm_I := [.inl (.lstore_n 2), .inl (.aload_n 0), .inl (.iload_n 1), .inr (.inl (.int 8, 0)), .inl .iadd]
theorem kc_M_isSegment_7 : vm_chk m_M_isSegment 7 k_M_isSegment_7 = some 13 := by decide +kernel
theorem v_M_isSegment_13 : vm_okV m_M_isSegment m_M_word 13 88 1 (706, 708, 25, 48, 709) = true := by decide +kernel
def k_M_isSegment_16 : List vm_I := [.inl (.lstore 4), .inl (.aload_n 0), .inl (.iload_n 1), .inr (.inl (.int 16, 0)), .inl .iadd]
theorem kc_M_isSegment_16 : vm_chk m_M_isSegment 16 k_M_isSegment_16 = some 23 := by decide +kernel
theorem v_M_isSegment_23 : vm_okV m_M_isSegment m_M_word 23 88 1 (706, 708, 25, 48, 709) = true := by decide +kernel
def k_M_isSegment_26 : List vm_I := [.inl (.lstore 6), .inl (.aload_n 0), .inl (.iload_n 1), .inr (.inl (.int 20, 0)), .inl .iadd]
theorem kc_M_isSegment_26 : vm_chk m_M_isSegment 26 k_M_isSegment_26 = some 33 := by decide +kernel
theorem v_M_isSegment_33 : vm_okV m_M_isSegment m_M_word 33 88 1 (706, 708, 25, 48, 709) = true := by decide +kernel
def k_M_isSegment_36 : List vm_I := [.inl (.lstore 8), .inl (.aload_n 0), .inl (.iload_n 1), .inr (.inl (.int 28, 0)), .inl .iadd]
theorem kc_M_isSegment_36 : vm_chk m_M_isSegment 36 k_M_isSegment_36 = some 43 := by decide +kernel
theorem v_M_isSegment_43 : vm_okV m_M_isSegment m_M_word 43 88 1 (706, 708, 25, 48, 709) = true := by decide +kernel
def k_M_isSegment_46 : List vm_I := [.inl (.lstore 10), .inl (.lload 8), .inl (.lload 6)]
theorem kc_M_isSegment_46 : vm_chk m_M_isSegment 46 k_M_isSegment_46 = some 52 := by decide +kernel
theorem dl_M_isSegment_52 : vm_dec m_M_isSegment 52 .lcmp 1 = true := by decide +kernel
theorem d_M_isSegment_52 : vm_dec m_M_isSegment 53 (.ifCond .ge 14) 3 = true := by decide +kernel
def k_M_isSegment_56 : List vm_I := [.inl (.aload_n 0), .inr (.inl (.int 9, 0)), .inl (.iload_n 1), .inr (.inl (.int 20, 0)), .inl .iadd]
theorem kc_M_isSegment_56 : vm_chk m_M_isSegment 56 k_M_isSegment_56 = some 63 := by decide +kernel
theorem v_M_isSegment_63 : vm_okV m_M_isSegment m_M_fail 63 84 2 (698, 700, 23, 48, 701) = true := by decide +kernel
theorem d_M_isSegment_66 : vm_dec m_M_isSegment 66 .ireturn 1 = true := by decide +kernel
def k_M_isSegment_67 : List vm_I := [.inl (.lload_n 2), .inl (.lload 6), .inl .ladd, .inl (.aload_n 0), .inr (.inr (.inl (0, 590, 68, 5, 2))), .inl .i2l]
theorem kc_M_isSegment_67 : vm_chk m_M_isSegment 67 k_M_isSegment_67 = some 76 := by decide +kernel
theorem dl_M_isSegment_76 : vm_dec m_M_isSegment 76 .lcmp 1 = true := by decide +kernel
theorem d_M_isSegment_76 : vm_dec m_M_isSegment 77 (.ifCond .le 13) 3 = true := by decide +kernel
def k_M_isSegment_80 : List vm_I := [.inl (.aload_n 0), .inr (.inl (.int 10, 0)), .inl (.iload_n 1), .inr (.inl (.int 4, 0)), .inl .iadd]
theorem kc_M_isSegment_80 : vm_chk m_M_isSegment 80 k_M_isSegment_80 = some 86 := by decide +kernel
theorem v_M_isSegment_86 : vm_okV m_M_isSegment m_M_fail 86 84 2 (698, 700, 23, 48, 701) = true := by decide +kernel
theorem d_M_isSegment_89 : vm_dec m_M_isSegment 89 .ireturn 1 = true := by decide +kernel
def k_M_isSegment_90 : List vm_I := [.inl (.lload 10), .inr (.inl (.long 1, 0))]
theorem kc_M_isSegment_90 : vm_chk m_M_isSegment 90 k_M_isSegment_90 = some 93 := by decide +kernel
theorem dl_M_isSegment_93 : vm_dec m_M_isSegment 93 .lcmp 1 = true := by decide +kernel
theorem d_M_isSegment_93 : vm_dec m_M_isSegment 94 (.ifCond .le 35) 3 = true := by decide +kernel
def k_M_isSegment_97 : List vm_I := [.inl (.lload 10), .inr (.inl (.long 4096, 719))]
theorem kc_M_isSegment_97 : vm_chk m_M_isSegment 97 k_M_isSegment_97 = some 102 := by decide +kernel
theorem dl_M_isSegment_102 : vm_dec m_M_isSegment 102 .lcmp 1 = true := by decide +kernel
theorem d_M_isSegment_102 : vm_dec m_M_isSegment 103 (.ifCond .gt 15) 3 = true := by decide +kernel
def k_M_isSegment_106 : List vm_I := [.inl (.lload 10), .inl (.lload 10), .inr (.inl (.long 1, 0)), .inl .lsub, .inl .land, .inr (.inl (.long 0, 0))]
theorem kc_M_isSegment_106 : vm_chk m_M_isSegment 106 k_M_isSegment_106 = some 114 := by decide +kernel
theorem dl_M_isSegment_114 : vm_dec m_M_isSegment 114 .lcmp 1 = true := by decide +kernel
theorem d_M_isSegment_114 : vm_dec m_M_isSegment 115 (.ifCond .eq 14) 3 = true := by decide +kernel
def k_M_isSegment_118 : List vm_I := [.inl (.aload_n 0), .inr (.inl (.int 11, 0)), .inl (.iload_n 1), .inr (.inl (.int 28, 0)), .inl .iadd]
theorem kc_M_isSegment_118 : vm_chk m_M_isSegment 118 k_M_isSegment_118 = some 125 := by decide +kernel
theorem v_M_isSegment_125 : vm_okV m_M_isSegment m_M_fail 125 84 2 (698, 700, 23, 48, 701) = true := by decide +kernel
theorem d_M_isSegment_128 : vm_dec m_M_isSegment 128 .ireturn 1 = true := by decide +kernel
def k_M_isSegment_129 : List vm_I := [.inl (.lload 10), .inr (.inl (.long 1, 0))]
theorem kc_M_isSegment_129 : vm_chk m_M_isSegment 129 k_M_isSegment_129 = some 132 := by decide +kernel
theorem dl_M_isSegment_132 : vm_dec m_M_isSegment 132 .lcmp 1 = true := by decide +kernel
theorem d_M_isSegment_132 : vm_dec m_M_isSegment 133 (.ifCond .le 27) 3 = true := by decide +kernel
def k_M_isSegment_136 : List vm_I := [.inl (.lload 4), .inl (.lload 10), .inl .lrem, .inl (.lload_n 2), .inl (.lload 10), .inl .lrem]
theorem kc_M_isSegment_136 : vm_chk m_M_isSegment 136 k_M_isSegment_136 = some 145 := by decide +kernel
theorem dl_M_isSegment_145 : vm_dec m_M_isSegment 145 .lcmp 1 = true := by decide +kernel
theorem d_M_isSegment_145 : vm_dec m_M_isSegment 146 (.ifCond .eq 14) 3 = true := by decide +kernel
def k_M_isSegment_149 : List vm_I := [.inl (.aload_n 0), .inr (.inl (.int 12, 0)), .inl (.iload_n 1), .inr (.inl (.int 8, 0)), .inl .iadd]
theorem kc_M_isSegment_149 : vm_chk m_M_isSegment 149 k_M_isSegment_149 = some 156 := by decide +kernel
theorem v_M_isSegment_156 : vm_okV m_M_isSegment m_M_fail 156 84 2 (698, 700, 23, 48, 701) = true := by decide +kernel
theorem d_M_isSegment_159 : vm_dec m_M_isSegment 159 .ireturn 1 = true := by decide +kernel
def k_M_isSegment_160 : List vm_I := [.inl (.lload 8), .inr (.inl (.long 0, 0))]
theorem kc_M_isSegment_160 : vm_chk m_M_isSegment 160 k_M_isSegment_160 = some 163 := by decide +kernel
theorem dl_M_isSegment_163 : vm_dec m_M_isSegment 163 .lcmp 1 = true := by decide +kernel
theorem d_M_isSegment_163 : vm_dec m_M_isSegment 164 (.ifCond .ne 5) 3 = true := by decide +kernel
def k_M_isSegment_167 : List vm_I := [.inr (.inl (.int 1, 0))]
theorem kc_M_isSegment_167 : vm_chk m_M_isSegment 167 k_M_isSegment_167 = some 168 := by decide +kernel
theorem d_M_isSegment_168 : vm_dec m_M_isSegment 168 .ireturn 1 = true := by decide +kernel
def k_M_isSegment_169 : List vm_I := [.inl (.lload 4), .inl (.aload_n 0), .inr (.inr (.inl (0, 603, 96, 5, 15))), .inl .i2l, .inl .ladd, .inl (.lload 8), .inl .ladd, .inr (.inl (.long 16384, 720))]
theorem kc_M_isSegment_169 : vm_chk m_M_isSegment 169 k_M_isSegment_169 = some 183 := by decide +kernel
theorem dl_M_isSegment_183 : vm_dec m_M_isSegment 183 .lcmp 1 = true := by decide +kernel
theorem d_M_isSegment_183 : vm_dec m_M_isSegment 184 (.ifCond .le 14) 3 = true := by decide +kernel
def k_M_isSegment_187 : List vm_I := [.inl (.aload_n 0), .inr (.inl (.int 13, 0)), .inl (.iload_n 1), .inr (.inl (.int 8, 0)), .inl .iadd]
theorem kc_M_isSegment_187 : vm_chk m_M_isSegment 187 k_M_isSegment_187 = some 194 := by decide +kernel
theorem v_M_isSegment_194 : vm_okV m_M_isSegment m_M_fail 194 84 2 (698, 700, 23, 48, 701) = true := by decide +kernel
theorem d_M_isSegment_197 : vm_dec m_M_isSegment 197 .ireturn 1 = true := by decide +kernel
def k_M_isSegment_198 : List vm_I := [.inl (.lload 4), .inl (.aload_n 0), .inr (.inr (.inl (0, 603, 96, 5, 15))), .inl .i2l, .inl .ladd, .inl .l2i, .inl (.istore 12), .inl (.iload 12), .inl .i2l, .inl (.lload 8), .inl .ladd, .inr (.inl (.long 1, 0)), .inl .lsub, .inl .l2i, .inl (.istore 13), .inr (.inl (.int 0, 0)), .inl (.istore 14), .inl (.iload 12), .inr (.inl (.int 256, 0)), .inl .idiv, .inl (.istore 15)]
theorem kc_M_isSegment_198 : vm_chk m_M_isSegment 198 k_M_isSegment_198 = some 231 := by decide +kernel
def k_M_isSegment_231 : List vm_I := [.inl (.iload 15), .inl (.iload 13), .inr (.inl (.int 256, 0)), .inl .idiv]
theorem kc_M_isSegment_231 : vm_chk m_M_isSegment 231 k_M_isSegment_231 = some 239 := by decide +kernel
theorem d_M_isSegment_239 : vm_dec m_M_isSegment 239 (.if_icmp .gt 43) 3 = true := by decide +kernel
def k_M_isSegment_242 : List vm_I := [.inl (.aload_n 0), .inr (.inr (.inl (0, 592, 13, 5, 4))), .inl (.iload 15), .inl .baload]
theorem kc_M_isSegment_242 : vm_chk m_M_isSegment 242 k_M_isSegment_242 = some 249 := by decide +kernel
theorem d_M_isSegment_249 : vm_dec m_M_isSegment 249 (.ifCond .ne 13) 3 = true := by decide +kernel
def k_M_isSegment_252 : List vm_I := [.inl (.aload_n 0), .inr (.inr (.inl (0, 601, 39, 5, 13))), .inl (.iload 15), .inl .baload]
theorem kc_M_isSegment_252 : vm_chk m_M_isSegment 252 k_M_isSegment_252 = some 259 := by decide +kernel
theorem d_M_isSegment_259 : vm_dec m_M_isSegment 259 (.ifCond .eq 14) 3 = true := by decide +kernel
def k_M_isSegment_262 : List vm_I := [.inl (.aload_n 0), .inr (.inl (.int 14, 0)), .inl (.iload_n 1), .inr (.inl (.int 8, 0)), .inl .iadd]
theorem kc_M_isSegment_262 : vm_chk m_M_isSegment 262 k_M_isSegment_262 = some 269 := by decide +kernel
theorem v_M_isSegment_269 : vm_okV m_M_isSegment m_M_fail 269 84 2 (698, 700, 23, 48, 701) = true := by decide +kernel
theorem d_M_isSegment_272 : vm_dec m_M_isSegment 272 .ireturn 1 = true := by decide +kernel
def k_M_isSegment_273 : List vm_I := [.inr (.inr (.inr (14, 1))), .inr (.inr (.inr (15, 1)))]
theorem kc_M_isSegment_273 : vm_chk m_M_isSegment 273 k_M_isSegment_273 = some 279 := by decide +kernel
theorem d_M_isSegment_279 : vm_dec m_M_isSegment 279 (.goto (-48)) 3 = true := by decide +kernel
def k_M_isSegment_282 : List vm_I := [.inl (.aload_n 0)]
theorem kc_M_isSegment_282 : vm_chk m_M_isSegment 282 k_M_isSegment_282 = some 283 := by decide +kernel
theorem v_M_isSegment_283 : vm_okV m_M_isSegment m_M_mappedPages 283 101 0 (721, 723, 28, 48, 724) = true := by decide +kernel
def k_M_isSegment_286 : List vm_I := [.inl (.aload_n 0), .inr (.inr (.inl (0, 602, 105, 5, 14))), .inl .iadd, .inl (.iload 14), .inl .iadd, .inl (.aload_n 0), .inr (.inr (.inl (0, 589, 58, 5, 1)))]
theorem kc_M_isSegment_286 : vm_chk m_M_isSegment 286 k_M_isSegment_286 = some 298 := by decide +kernel
theorem d_M_isSegment_298 : vm_dec m_M_isSegment 298 (.if_icmp .le 14) 3 = true := by decide +kernel
def k_M_isSegment_301 : List vm_I := [.inl (.aload_n 0), .inr (.inl (.int 15, 0)), .inl (.iload_n 1), .inr (.inl (.int 20, 0)), .inl .iadd]
theorem kc_M_isSegment_301 : vm_chk m_M_isSegment 301 k_M_isSegment_301 = some 308 := by decide +kernel
theorem v_M_isSegment_308 : vm_okV m_M_isSegment m_M_fail 308 84 2 (698, 700, 23, 48, 701) = true := by decide +kernel
theorem d_M_isSegment_311 : vm_dec m_M_isSegment 311 .ireturn 1 = true := by decide +kernel
def k_M_isSegment_312 : List vm_I := [.inl (.iload 12), .inr (.inl (.int 256, 0)), .inl .idiv, .inl (.istore 15)]
theorem kc_M_isSegment_312 : vm_chk m_M_isSegment 312 k_M_isSegment_312 = some 320 := by decide +kernel
def k_M_isSegment_320 : List vm_I := [.inl (.iload 15), .inl (.iload 13), .inr (.inl (.int 256, 0)), .inl .idiv]
theorem kc_M_isSegment_320 : vm_chk m_M_isSegment 320 k_M_isSegment_320 = some 328 := by decide +kernel
theorem d_M_isSegment_328 : vm_dec m_M_isSegment 328 (.if_icmp .gt 17) 3 = true := by decide +kernel
def k_M_isSegment_331 : List vm_I := [.inl (.aload_n 0), .inr (.inr (.inl (0, 601, 39, 5, 13))), .inl (.iload 15), .inr (.inl (.int 1, 0)), .inl .bastore, .inr (.inr (.inr (15, 1)))]
theorem kc_M_isSegment_331 : vm_chk m_M_isSegment 331 k_M_isSegment_331 = some 342 := by decide +kernel
theorem d_M_isSegment_342 : vm_dec m_M_isSegment 342 (.goto (-22)) 3 = true := by decide +kernel
def k_M_isSegment_345 : List vm_I := [.inl (.aload_n 0), .inl .dup, .inr (.inr (.inl (0, 602, 105, 5, 14))), .inl (.iload 14), .inl .iadd, .inr (.inr (.inl (1, 602, 105, 5, 14))), .inl (.aload_n 0), .inr (.inr (.inl (0, 596, 23, 5, 8))), .inl (.aload_n 0), .inr (.inr (.inl (0, 595, 108, 5, 7))), .inl (.iload 12), .inl .i2l, .inl .lastore, .inl (.aload_n 0), .inr (.inr (.inl (0, 597, 27, 5, 9))), .inl (.aload_n 0), .inr (.inr (.inl (0, 595, 108, 5, 7))), .inl (.lload 8), .inl .lastore, .inl (.aload_n 0), .inr (.inr (.inl (0, 598, 30, 5, 10))), .inl (.aload_n 0), .inr (.inr (.inl (0, 595, 108, 5, 7))), .inl (.lload_n 2), .inl .l2i, .inl .iastore, .inl (.aload_n 0), .inr (.inr (.inl (0, 599, 33, 5, 11))), .inl (.aload_n 0), .inr (.inr (.inl (0, 595, 108, 5, 7))), .inl (.lload 6), .inl .l2i, .inl .iastore, .inl (.aload_n 0), .inr (.inr (.inl (0, 600, 36, 5, 12))), .inl (.aload_n 0), .inr (.inr (.inl (0, 595, 108, 5, 7))), .inl (.aload_n 0), .inl (.iload_n 1), .inr (.inl (.int 24, 0)), .inl .iadd]
theorem kc_M_isSegment_345 : vm_chk m_M_isSegment 345 k_M_isSegment_345 = some 415 := by decide +kernel
theorem v_M_isSegment_415 : vm_okV m_M_isSegment m_M_word 415 88 1 (706, 708, 25, 48, 709) = true := by decide +kernel
def k_M_isSegment_418 : List vm_I := [.inr (.inl (.long 7, 725)), .inl .land, .inl .l2i, .inl .iastore, .inl (.aload_n 0), .inl .dup, .inr (.inr (.inl (0, 595, 108, 5, 7))), .inr (.inl (.int 1, 0)), .inl .iadd, .inr (.inr (.inl (1, 595, 108, 5, 7))), .inr (.inl (.int 1, 0))]
theorem kc_M_isSegment_418 : vm_chk m_M_isSegment 418 k_M_isSegment_418 = some 435 := by decide +kernel
theorem d_M_isSegment_435 : vm_dec m_M_isSegment 435 .ireturn 1 = true := by decide +kernel
def k_M_isDynamic_0 : List vm_I := [.inl (.aload_n 0), .inl (.iload_n 1), .inr (.inl (.int 4, 0)), .inl .iadd]
theorem kc_M_isDynamic_0 : vm_chk m_M_isDynamic 0 k_M_isDynamic_0 = some 4 := by decide +kernel
theorem v_M_isDynamic_4 : vm_okV m_M_isDynamic m_M_word 4 88 1 (706, 708, 25, 48, 709) = true := by decide +kernel
def k_M_isDynamic_7 : List vm_I := [.inl (.aload_n 0), .inl (.iload_n 1), .inr (.inl (.int 16, 0)), .inl .iadd]
theorem kc_M_isDynamic_7 : vm_chk m_M_isDynamic 7 k_M_isDynamic_7 = some 12 := by decide +kernel
theorem v_M_isDynamic_12 : vm_okV m_M_isDynamic m_M_word 12 88 1 (706, 708, 25, 48, 709) = true := by decide +kernel
def k_M_isDynamic_15 : List vm_I := [.inl .ladd, .inl (.aload_n 0), .inr (.inr (.inl (0, 590, 68, 5, 2))), .inl .i2l]
theorem kc_M_isDynamic_15 : vm_chk m_M_isDynamic 15 k_M_isDynamic_15 = some 21 := by decide +kernel
theorem dl_M_isDynamic_21 : vm_dec m_M_isDynamic 21 .lcmp 1 = true := by decide +kernel
theorem d_M_isDynamic_21 : vm_dec m_M_isDynamic 22 (.ifCond .le 13) 3 = true := by decide +kernel
def k_M_isDynamic_25 : List vm_I := [.inl (.aload_n 0), .inr (.inl (.int 10, 0)), .inl (.iload_n 1), .inr (.inl (.int 4, 0)), .inl .iadd]
theorem kc_M_isDynamic_25 : vm_chk m_M_isDynamic 25 k_M_isDynamic_25 = some 31 := by decide +kernel
theorem v_M_isDynamic_31 : vm_okV m_M_isDynamic m_M_fail 31 84 2 (698, 700, 23, 48, 701) = true := by decide +kernel
theorem d_M_isDynamic_34 : vm_dec m_M_isDynamic 34 .ireturn 1 = true := by decide +kernel
def k_M_isDynamic_35 : List vm_I := [.inl (.aload_n 0), .inl (.iload_n 1), .inr (.inl (.int 16, 0)), .inl .iadd]
theorem kc_M_isDynamic_35 : vm_chk m_M_isDynamic 35 k_M_isDynamic_35 = some 40 := by decide +kernel
theorem v_M_isDynamic_40 : vm_okV m_M_isDynamic m_M_word 40 88 1 (706, 708, 25, 48, 709) = true := by decide +kernel
def k_M_isDynamic_43 : List vm_I := [.inr (.inl (.long 8, 731)), .inl .lrem, .inr (.inl (.long 0, 0))]
theorem kc_M_isDynamic_43 : vm_chk m_M_isDynamic 43 k_M_isDynamic_43 = some 48 := by decide +kernel
theorem dl_M_isDynamic_48 : vm_dec m_M_isDynamic 48 .lcmp 1 = true := by decide +kernel
theorem d_M_isDynamic_48 : vm_dec m_M_isDynamic 49 (.ifCond .eq 14) 3 = true := by decide +kernel
def k_M_isDynamic_52 : List vm_I := [.inl (.aload_n 0), .inr (.inl (.int 16, 0)), .inl (.iload_n 1), .inr (.inl (.int 16, 0)), .inl .iadd]
theorem kc_M_isDynamic_52 : vm_chk m_M_isDynamic 52 k_M_isDynamic_52 = some 59 := by decide +kernel
theorem v_M_isDynamic_59 : vm_okV m_M_isDynamic m_M_fail 59 84 2 (698, 700, 23, 48, 701) = true := by decide +kernel
theorem d_M_isDynamic_62 : vm_dec m_M_isDynamic 62 .ireturn 1 = true := by decide +kernel
def k_M_isDynamic_63 : List vm_I := [.inl (.aload_n 0), .inl (.iload_n 1), .inr (.inr (.inl (1, 604, 115, 5, 16))), .inr (.inl (.int 1, 0))]
theorem kc_M_isDynamic_63 : vm_chk m_M_isDynamic 63 k_M_isDynamic_63 = some 69 := by decide +kernel
theorem d_M_isDynamic_69 : vm_dec m_M_isDynamic 69 .ireturn 1 = true := by decide +kernel
def k_M_areHeads_0 : List vm_I := [.inl (.aload_n 0), .inr (.inl (.int 0, 0)), .inr (.inr (.inl (1, 595, 108, 5, 7))), .inl (.aload_n 0), .inr (.inl (.int 0, 0)), .inr (.inr (.inl (1, 602, 105, 5, 14))), .inl (.aload_n 0), .inr (.inl (.int (-1), 0)), .inr (.inr (.inl (1, 604, 115, 5, 16))), .inr (.inl (.int 0, 0)), .inl (.istore_n 1)]
theorem kc_M_areHeads_0 : vm_chk m_M_areHeads 0 k_M_areHeads_0 = some 17 := by decide +kernel
def k_M_areHeads_17 : List vm_I := [.inl (.iload_n 1), .inr (.inl (.int 64, 0))]
theorem kc_M_areHeads_17 : vm_chk m_M_areHeads 17 k_M_areHeads_17 = some 20 := by decide +kernel
theorem d_M_areHeads_20 : vm_dec m_M_areHeads 20 (.if_icmp .ge 16) 3 = true := by decide +kernel
def k_M_areHeads_23 : List vm_I := [.inl (.aload_n 0), .inr (.inr (.inl (0, 601, 39, 5, 13))), .inl (.iload_n 1), .inr (.inl (.int 0, 0)), .inl .bastore, .inr (.inr (.inr (1, 1)))]
theorem kc_M_areHeads_23 : vm_chk m_M_areHeads 23 k_M_areHeads_23 = some 33 := by decide +kernel
theorem d_M_areHeads_33 : vm_dec m_M_areHeads 33 (.goto (-16)) 3 = true := by decide +kernel
def k_M_areHeads_36 : List vm_I := [.inr (.inl (.int 0, 0)), .inl (.istore_n 1)]
theorem kc_M_areHeads_36 : vm_chk m_M_areHeads 36 k_M_areHeads_36 = some 38 := by decide +kernel
def k_M_areHeads_38 : List vm_I := [.inl (.iload_n 1), .inl (.aload_n 0), .inr (.inl (.int 44, 0))]
theorem kc_M_areHeads_38 : vm_chk m_M_areHeads 38 k_M_areHeads_38 = some 42 := by decide +kernel
theorem v_M_areHeads_42 : vm_okV m_M_areHeads m_M_half 42 77 1 (702, 704, 24, 48, 705) = true := by decide +kernel
theorem d_M_areHeads_45 : vm_dec m_M_areHeads 45 (.if_icmp .ge 60) 3 = true := by decide +kernel
def k_M_areHeads_48 : List vm_I := [.inl (.aload_n 0), .inr (.inl (.int 28, 0))]
theorem kc_M_areHeads_48 : vm_chk m_M_areHeads 48 k_M_areHeads_48 = some 51 := by decide +kernel
theorem v_M_areHeads_51 : vm_okV m_M_areHeads m_M_word 51 88 1 (706, 708, 25, 48, 709) = true := by decide +kernel
def k_M_areHeads_54 : List vm_I := [.inl .l2i, .inr (.inl (.int 32, 0)), .inl (.iload_n 1), .inl .imul, .inl .iadd, .inl (.istore_n 2), .inl (.aload_n 0), .inl (.iload_n 2)]
theorem kc_M_areHeads_54 : vm_chk m_M_areHeads 54 k_M_areHeads_54 = some 63 := by decide +kernel
theorem v_M_areHeads_63 : vm_okV m_M_areHeads m_M_word 63 88 1 (706, 708, 25, 48, 709) = true := by decide +kernel
def k_M_areHeads_66 : List vm_I := [.inl (.lstore_n 3), .inl (.lload_n 3), .inr (.inl (.long 1, 0))]
theorem kc_M_areHeads_66 : vm_chk m_M_areHeads 66 k_M_areHeads_66 = some 69 := by decide +kernel
theorem dl_M_areHeads_69 : vm_dec m_M_areHeads 69 .lcmp 1 = true := by decide +kernel
theorem d_M_areHeads_69 : vm_dec m_M_areHeads 70 (.ifCond .ne 11) 3 = true := by decide +kernel
def k_M_areHeads_73 : List vm_I := [.inl (.aload_n 0), .inl (.iload_n 2)]
theorem kc_M_areHeads_73 : vm_chk m_M_areHeads 73 k_M_areHeads_73 = some 75 := by decide +kernel
theorem v_M_areHeads_75 : vm_okV m_M_areHeads m_M_isSegment 75 118 1 (715, 717, 27, 48, 718) = true := by decide +kernel
theorem d_M_areHeads_78 : vm_dec m_M_areHeads 78 (.ifCond .eq 19) 3 = true := by decide +kernel
def k_M_areHeads_81 : List vm_I := [.inl (.lload_n 3), .inr (.inl (.long 2, 726))]
theorem kc_M_areHeads_81 : vm_chk m_M_areHeads 81 k_M_areHeads_81 = some 85 := by decide +kernel
theorem dl_M_areHeads_85 : vm_dec m_M_areHeads 85 .lcmp 1 = true := by decide +kernel
theorem d_M_areHeads_85 : vm_dec m_M_areHeads 86 (.ifCond .ne 13) 3 = true := by decide +kernel
def k_M_areHeads_89 : List vm_I := [.inl (.aload_n 0), .inl (.iload_n 2)]
theorem kc_M_areHeads_89 : vm_chk m_M_areHeads 89 k_M_areHeads_89 = some 91 := by decide +kernel
theorem v_M_areHeads_91 : vm_okV m_M_areHeads m_M_isDynamic 91 123 1 (727, 729, 29, 48, 730) = true := by decide +kernel
theorem d_M_areHeads_94 : vm_dec m_M_areHeads 94 (.ifCond .ne 5) 3 = true := by decide +kernel
def k_M_areHeads_97 : List vm_I := [.inr (.inl (.int 0, 0))]
theorem kc_M_areHeads_97 : vm_chk m_M_areHeads 97 k_M_areHeads_97 = some 98 := by decide +kernel
theorem d_M_areHeads_98 : vm_dec m_M_areHeads 98 .ireturn 1 = true := by decide +kernel
def k_M_areHeads_99 : List vm_I := [.inr (.inr (.inr (1, 1)))]
theorem kc_M_areHeads_99 : vm_chk m_M_areHeads 99 k_M_areHeads_99 = some 102 := by decide +kernel
theorem d_M_areHeads_102 : vm_dec m_M_areHeads 102 (.goto (-64)) 3 = true := by decide +kernel
def k_M_areHeads_105 : List vm_I := [.inl (.aload_n 0), .inr (.inr (.inl (0, 595, 108, 5, 7)))]
theorem kc_M_areHeads_105 : vm_chk m_M_areHeads 105 k_M_areHeads_105 = some 109 := by decide +kernel
theorem d_M_areHeads_109 : vm_dec m_M_areHeads 109 (.ifCond .ne 12) 3 = true := by decide +kernel
def k_M_areHeads_112 : List vm_I := [.inl (.aload_n 0), .inr (.inl (.int 17, 0)), .inr (.inl (.int 44, 0))]
theorem kc_M_areHeads_112 : vm_chk m_M_areHeads 112 k_M_areHeads_112 = some 117 := by decide +kernel
theorem v_M_areHeads_117 : vm_okV m_M_areHeads m_M_fail 117 84 2 (698, 700, 23, 48, 701) = true := by decide +kernel
theorem d_M_areHeads_120 : vm_dec m_M_areHeads 120 .ireturn 1 = true := by decide +kernel
def k_M_areHeads_121 : List vm_I := [.inl (.aload_n 0), .inr (.inl (.int 24, 0))]
theorem kc_M_areHeads_121 : vm_chk m_M_areHeads 121 k_M_areHeads_121 = some 124 := by decide +kernel
theorem v_M_areHeads_124 : vm_okV m_M_areHeads m_M_word 124 88 1 (706, 708, 25, 48, 709) = true := by decide +kernel
def k_M_areHeads_127 : List vm_I := [.inl (.aload_n 0), .inr (.inr (.inl (0, 603, 96, 5, 15))), .inl .i2l, .inl .ladd, .inl (.lstore_n 1), .inr (.inl (.int 0, 0)), .inl (.istore_n 3)]
theorem kc_M_areHeads_127 : vm_chk m_M_areHeads 127 k_M_areHeads_127 = some 136 := by decide +kernel
def k_M_areHeads_136 : List vm_I := [.inl (.iload_n 3), .inl (.aload_n 0), .inr (.inr (.inl (0, 595, 108, 5, 7)))]
theorem kc_M_areHeads_136 : vm_chk m_M_areHeads 136 k_M_areHeads_136 = some 141 := by decide +kernel
theorem d_M_areHeads_141 : vm_dec m_M_areHeads 141 (.if_icmp .ge 52) 3 = true := by decide +kernel
def k_M_areHeads_144 : List vm_I := [.inl (.lload_n 1), .inl (.aload_n 0), .inr (.inr (.inl (0, 596, 23, 5, 8))), .inl (.iload_n 3), .inl .laload]
theorem kc_M_areHeads_144 : vm_chk m_M_areHeads 144 k_M_areHeads_144 = some 151 := by decide +kernel
theorem dl_M_areHeads_151 : vm_dec m_M_areHeads 151 .lcmp 1 = true := by decide +kernel
theorem d_M_areHeads_151 : vm_dec m_M_areHeads 152 (.ifCond .lt 35) 3 = true := by decide +kernel
def k_M_areHeads_155 : List vm_I := [.inl (.lload_n 1), .inl (.aload_n 0), .inr (.inr (.inl (0, 596, 23, 5, 8))), .inl (.iload_n 3), .inl .laload, .inl (.aload_n 0), .inr (.inr (.inl (0, 597, 27, 5, 9))), .inl (.iload_n 3), .inl .laload, .inl .ladd]
theorem kc_M_areHeads_155 : vm_chk m_M_areHeads 155 k_M_areHeads_155 = some 169 := by decide +kernel
theorem dl_M_areHeads_169 : vm_dec m_M_areHeads 169 .lcmp 1 = true := by decide +kernel
theorem d_M_areHeads_169 : vm_dec m_M_areHeads 170 (.ifCond .ge 17) 3 = true := by decide +kernel
def k_M_areHeads_173 : List vm_I := [.inl (.aload_n 0), .inr (.inr (.inl (0, 600, 36, 5, 12))), .inl (.iload_n 3), .inl .iaload, .inr (.inl (.int 1, 0)), .inl .iand, .inr (.inl (.int 1, 0))]
theorem kc_M_areHeads_173 : vm_chk m_M_areHeads 173 k_M_areHeads_173 = some 182 := by decide +kernel
theorem d_M_areHeads_182 : vm_dec m_M_areHeads 182 (.if_icmp .ne 5) 3 = true := by decide +kernel
def k_M_areHeads_185 : List vm_I := [.inr (.inl (.int 1, 0))]
theorem kc_M_areHeads_185 : vm_chk m_M_areHeads 185 k_M_areHeads_185 = some 186 := by decide +kernel
theorem d_M_areHeads_186 : vm_dec m_M_areHeads 186 .ireturn 1 = true := by decide +kernel
def k_M_areHeads_187 : List vm_I := [.inr (.inr (.inr (3, 1)))]
theorem kc_M_areHeads_187 : vm_chk m_M_areHeads 187 k_M_areHeads_187 = some 190 := by decide +kernel
theorem d_M_areHeads_190 : vm_dec m_M_areHeads 190 (.goto (-54)) 3 = true := by decide +kernel
def k_M_areHeads_193 : List vm_I := [.inl (.aload_n 0), .inr (.inl (.int 18, 0)), .inr (.inl (.int 24, 0))]
theorem kc_M_areHeads_193 : vm_chk m_M_areHeads 193 k_M_areHeads_193 = some 198 := by decide +kernel
theorem v_M_areHeads_198 : vm_okV m_M_areHeads m_M_fail 198 84 2 (698, 700, 23, 48, 701) = true := by decide +kernel
theorem d_M_areHeads_201 : vm_dec m_M_areHeads 201 .ireturn 1 = true := by decide +kernel
def k_M_arePairs_0 : List vm_I := [.inr (.inl (.int 0, 0)), .inl (.istore_n 1)]
theorem kc_M_arePairs_0 : vm_chk m_M_arePairs 0 k_M_arePairs_0 = some 2 := by decide +kernel
def k_M_arePairs_2 : List vm_I := [.inl (.iload_n 1), .inr (.inl (.int 12, 0))]
theorem kc_M_arePairs_2 : vm_chk m_M_arePairs 2 k_M_arePairs_2 = some 5 := by decide +kernel
theorem d_M_arePairs_5 : vm_dec m_M_arePairs 5 (.if_icmp .ge 16) 3 = true := by decide +kernel
def k_M_arePairs_8 : List vm_I := [.inl (.aload_n 0), .inr (.inr (.inl (0, 605, 42, 5, 17))), .inl (.iload_n 1), .inr (.inl (.long 0, 0)), .inl .lastore, .inr (.inr (.inr (1, 1)))]
theorem kc_M_arePairs_8 : vm_chk m_M_arePairs 8 k_M_arePairs_8 = some 18 := by decide +kernel
theorem d_M_arePairs_18 : vm_dec m_M_arePairs 18 (.goto (-16)) 3 = true := by decide +kernel
def k_M_arePairs_21 : List vm_I := [.inl (.aload_n 0), .inr (.inr (.inl (0, 604, 115, 5, 16))), .inr (.inl (.int (-1), 0))]
theorem kc_M_arePairs_21 : vm_chk m_M_arePairs 21 k_M_arePairs_21 = some 26 := by decide +kernel
theorem d_M_arePairs_26 : vm_dec m_M_arePairs 26 (.if_icmp .ne 5) 3 = true := by decide +kernel
def k_M_arePairs_29 : List vm_I := [.inr (.inl (.int 1, 0))]
theorem kc_M_arePairs_29 : vm_chk m_M_arePairs 29 k_M_arePairs_29 = some 30 := by decide +kernel
theorem d_M_arePairs_30 : vm_dec m_M_arePairs 30 .ireturn 1 = true := by decide +kernel
def k_M_arePairs_31 : List vm_I := [.inl (.aload_n 0), .inl (.aload_n 0), .inr (.inr (.inl (0, 604, 115, 5, 16))), .inr (.inl (.int 4, 0)), .inl .iadd]
theorem kc_M_arePairs_31 : vm_chk m_M_arePairs 31 k_M_arePairs_31 = some 38 := by decide +kernel
theorem v_M_arePairs_38 : vm_okV m_M_arePairs m_M_word 38 88 1 (706, 708, 25, 48, 709) = true := by decide +kernel
def k_M_arePairs_41 : List vm_I := [.inl .l2i, .inl (.istore_n 1), .inl (.aload_n 0), .inl (.aload_n 0), .inr (.inr (.inl (0, 604, 115, 5, 16))), .inr (.inl (.int 16, 0)), .inl .iadd]
theorem kc_M_arePairs_41 : vm_chk m_M_arePairs 41 k_M_arePairs_41 = some 51 := by decide +kernel
theorem v_M_arePairs_51 : vm_okV m_M_arePairs m_M_word 51 88 1 (706, 708, 25, 48, 709) = true := by decide +kernel
def k_M_arePairs_54 : List vm_I := [.inl .l2i, .inr (.inl (.int 8, 0)), .inl .idiv, .inl (.istore_n 2), .inr (.inl (.int 0, 0)), .inl (.istore_n 3)]
theorem kc_M_arePairs_54 : vm_chk m_M_arePairs 54 k_M_arePairs_54 = some 61 := by decide +kernel
def k_M_arePairs_61 : List vm_I := [.inl (.iload_n 3), .inl (.iload_n 2)]
theorem kc_M_arePairs_61 : vm_chk m_M_arePairs 61 k_M_arePairs_61 = some 63 := by decide +kernel
theorem d_M_arePairs_63 : vm_dec m_M_arePairs 63 (.if_icmp .ge 65) 3 = true := by decide +kernel
def k_M_arePairs_66 : List vm_I := [.inl (.aload_n 0), .inl (.iload_n 1), .inr (.inl (.int 8, 0)), .inl (.iload_n 3), .inl .imul, .inl .iadd]
theorem kc_M_arePairs_66 : vm_chk m_M_arePairs 66 k_M_arePairs_66 = some 73 := by decide +kernel
theorem v_M_arePairs_73 : vm_okV m_M_arePairs m_M_word 73 88 1 (706, 708, 25, 48, 709) = true := by decide +kernel
def k_M_arePairs_76 : List vm_I := [.inr (.inl (.long 0, 0))]
theorem kc_M_arePairs_76 : vm_chk m_M_arePairs 76 k_M_arePairs_76 = some 77 := by decide +kernel
theorem dl_M_arePairs_77 : vm_dec m_M_arePairs 77 .lcmp 1 = true := by decide +kernel
theorem d_M_arePairs_77 : vm_dec m_M_arePairs 78 (.ifCond .eq 50) 3 = true := by decide +kernel
def k_M_arePairs_81 : List vm_I := [.inl (.aload_n 0), .inl (.iload_n 1), .inr (.inl (.int 8, 0)), .inl (.iload_n 3), .inl .imul, .inl .iadd]
theorem kc_M_arePairs_81 : vm_chk m_M_arePairs 81 k_M_arePairs_81 = some 88 := by decide +kernel
theorem v_M_arePairs_88 : vm_okV m_M_arePairs m_M_word 88 88 1 (706, 708, 25, 48, 709) = true := by decide +kernel
def k_M_arePairs_91 : List vm_I := [.inl (.lstore 4), .inl (.lload 4), .inr (.inl (.long 12, 736))]
theorem kc_M_arePairs_91 : vm_chk m_M_arePairs 91 k_M_arePairs_91 = some 98 := by decide +kernel
theorem dl_M_arePairs_98 : vm_dec m_M_arePairs 98 .lcmp 1 = true := by decide +kernel
theorem d_M_arePairs_98 : vm_dec m_M_arePairs 99 (.ifCond .ge 23) 3 = true := by decide +kernel
def k_M_arePairs_102 : List vm_I := [.inl (.aload_n 0), .inr (.inr (.inl (0, 605, 42, 5, 17))), .inl (.lload 4), .inl .l2i, .inl (.aload_n 0), .inl (.iload_n 1), .inr (.inl (.int 8, 0)), .inl (.iload_n 3), .inl .imul, .inl .iadd, .inr (.inl (.int 4, 0)), .inl .iadd]
theorem kc_M_arePairs_102 : vm_chk m_M_arePairs 102 k_M_arePairs_102 = some 118 := by decide +kernel
theorem v_M_arePairs_118 : vm_okV m_M_arePairs m_M_word 118 88 1 (706, 708, 25, 48, 709) = true := by decide +kernel
def k_M_arePairs_121 : List vm_I := [.inl .lastore]
theorem kc_M_arePairs_121 : vm_chk m_M_arePairs 121 k_M_arePairs_121 = some 122 := by decide +kernel
def k_M_arePairs_122 : List vm_I := [.inr (.inr (.inr (3, 1)))]
theorem kc_M_arePairs_122 : vm_chk m_M_arePairs 122 k_M_arePairs_122 = some 125 := by decide +kernel
theorem d_M_arePairs_125 : vm_dec m_M_arePairs 125 (.goto (-64)) 3 = true := by decide +kernel
def k_M_arePairs_128 : List vm_I := [.inl (.aload_n 0), .inr (.inr (.inl (0, 605, 42, 5, 17))), .inr (.inl (.int 8, 0)), .inl .laload, .inr (.inl (.long 12, 736)), .inl .lrem, .inr (.inl (.long 0, 0))]
theorem kc_M_arePairs_128 : vm_chk m_M_arePairs 128 k_M_arePairs_128 = some 140 := by decide +kernel
theorem dl_M_arePairs_140 : vm_dec m_M_arePairs 140 .lcmp 1 = true := by decide +kernel
theorem d_M_arePairs_140 : vm_dec m_M_arePairs 141 (.ifCond .ne 47) 3 = true := by decide +kernel
def k_M_arePairs_144 : List vm_I := [.inl (.aload_n 0), .inr (.inr (.inl (0, 605, 42, 5, 17))), .inr (.inl (.int 8, 0)), .inl .laload, .inr (.inl (.long 0, 0))]
theorem kc_M_arePairs_144 : vm_chk m_M_arePairs 144 k_M_arePairs_144 = some 152 := by decide +kernel
theorem dl_M_arePairs_152 : vm_dec m_M_arePairs 152 .lcmp 1 = true := by decide +kernel
theorem d_M_arePairs_152 : vm_dec m_M_arePairs 153 (.ifCond .eq 17) 3 = true := by decide +kernel
def k_M_arePairs_156 : List vm_I := [.inl (.aload_n 0), .inr (.inr (.inl (0, 605, 42, 5, 17))), .inr (.inl (.int 9, 0)), .inl .laload, .inr (.inl (.long 12, 736))]
theorem kc_M_arePairs_156 : vm_chk m_M_arePairs 156 k_M_arePairs_156 = some 166 := by decide +kernel
theorem dl_M_arePairs_166 : vm_dec m_M_arePairs 166 .lcmp 1 = true := by decide +kernel
theorem d_M_arePairs_166 : vm_dec m_M_arePairs 167 (.ifCond .ne 21) 3 = true := by decide +kernel
def k_M_arePairs_170 : List vm_I := [.inl (.aload_n 0), .inr (.inr (.inl (0, 605, 42, 5, 17))), .inr (.inl (.int 8, 0)), .inl .laload, .inr (.inl (.long 720, 737))]
theorem kc_M_arePairs_170 : vm_chk m_M_arePairs 170 k_M_arePairs_170 = some 180 := by decide +kernel
theorem dl_M_arePairs_180 : vm_dec m_M_arePairs 180 .lcmp 1 = true := by decide +kernel
theorem d_M_arePairs_180 : vm_dec m_M_arePairs 181 (.ifCond .gt 7) 3 = true := by decide +kernel
def k_M_arePairs_184 : List vm_I := [.inr (.inl (.int 1, 0))]
theorem kc_M_arePairs_184 : vm_chk m_M_arePairs 184 k_M_arePairs_184 = some 185 := by decide +kernel
theorem d_M_arePairs_185 : vm_dec m_M_arePairs 185 (.goto 4) 3 = true := by decide +kernel
def k_M_arePairs_188 : List vm_I := [.inr (.inl (.int 0, 0))]
theorem kc_M_arePairs_188 : vm_chk m_M_arePairs 188 k_M_arePairs_188 = some 189 := by decide +kernel
def k_M_arePairs_189 : List vm_I := [.inl (.istore_n 3), .inl (.iload_n 3)]
theorem kc_M_arePairs_189 : vm_chk m_M_arePairs 189 k_M_arePairs_189 = some 191 := by decide +kernel
theorem d_M_arePairs_191 : vm_dec m_M_arePairs 191 (.ifCond .ne 16) 3 = true := by decide +kernel
def k_M_arePairs_194 : List vm_I := [.inl (.aload_n 0), .inr (.inl (.int 19, 0)), .inl (.aload_n 0), .inr (.inr (.inl (0, 604, 115, 5, 16)))]
theorem kc_M_arePairs_194 : vm_chk m_M_arePairs 194 k_M_arePairs_194 = some 201 := by decide +kernel
theorem v_M_arePairs_201 : vm_okV m_M_arePairs m_M_fail 201 84 2 (698, 700, 23, 48, 701) = true := by decide +kernel
theorem d_M_arePairs_204 : vm_dec m_M_arePairs 204 (.ifCond .eq 7) 3 = true := by decide +kernel
def k_M_arePairs_207 : List vm_I := [.inr (.inl (.int 1, 0))]
theorem kc_M_arePairs_207 : vm_chk m_M_arePairs 207 k_M_arePairs_207 = some 208 := by decide +kernel
theorem d_M_arePairs_208 : vm_dec m_M_arePairs 208 (.goto 4) 3 = true := by decide +kernel
def k_M_arePairs_211 : List vm_I := [.inr (.inl (.int 0, 0))]
theorem kc_M_arePairs_211 : vm_chk m_M_arePairs 211 k_M_arePairs_211 = some 212 := by decide +kernel
theorem d_M_arePairs_212 : vm_dec m_M_arePairs 212 .ireturn 1 = true := by decide +kernel
def k_M_lay_0 : List vm_I := [.inr (.inl (.int 0, 0)), .inl (.istore_n 1)]
theorem kc_M_lay_0 : vm_chk m_M_lay 0 k_M_lay_0 = some 2 := by decide +kernel
def k_M_lay_2 : List vm_I := [.inl (.iload_n 1), .inl (.aload_n 0), .inr (.inr (.inl (0, 595, 108, 5, 7)))]
theorem kc_M_lay_2 : vm_chk m_M_lay 2 k_M_lay_2 = some 7 := by decide +kernel
theorem d_M_lay_7 : vm_dec m_M_lay 7 (.if_icmp .ge 149) 3 = true := by decide +kernel
def k_M_lay_10 : List vm_I := [.inl (.aload_n 0), .inr (.inr (.inl (0, 596, 23, 5, 8))), .inl (.iload_n 1), .inl .laload, .inl .l2i, .inl (.istore_n 2), .inl (.iload_n 2), .inl .i2l, .inl (.aload_n 0), .inr (.inr (.inl (0, 597, 27, 5, 9))), .inl (.iload_n 1), .inl .laload, .inl .ladd, .inr (.inl (.long 1, 0)), .inl .lsub, .inl .l2i, .inl (.istore_n 3), .inl (.iload_n 2), .inr (.inl (.int 256, 0)), .inl .idiv, .inl (.istore 4)]
theorem kc_M_lay_10 : vm_chk m_M_lay 10 k_M_lay_10 = some 38 := by decide +kernel
def k_M_lay_38 : List vm_I := [.inl (.iload 4), .inl (.iload_n 3), .inr (.inl (.int 256, 0)), .inl .idiv]
theorem kc_M_lay_38 : vm_chk m_M_lay 38 k_M_lay_38 = some 45 := by decide +kernel
theorem d_M_lay_45 : vm_dec m_M_lay 45 (.if_icmp .gt 62) 3 = true := by decide +kernel
def k_M_lay_48 : List vm_I := [.inl (.aload_n 0), .inr (.inr (.inl (0, 592, 13, 5, 4))), .inl (.iload 4), .inr (.inl (.int 1, 0)), .inl .bastore, .inl (.aload_n 0), .inr (.inr (.inl (0, 593, 17, 5, 5))), .inl (.iload 4), .inl (.aload_n 0), .inr (.inr (.inl (0, 600, 36, 5, 12))), .inl (.iload_n 1), .inl .iaload, .inl .iastore, .inr (.inl (.int 0, 0)), .inl (.istore 5)]
theorem kc_M_lay_48 : vm_chk m_M_lay 48 k_M_lay_48 = some 72 := by decide +kernel
def k_M_lay_72 : List vm_I := [.inl (.iload 5), .inr (.inl (.int 256, 0))]
theorem kc_M_lay_72 : vm_chk m_M_lay 72 k_M_lay_72 = some 77 := by decide +kernel
theorem d_M_lay_77 : vm_dec m_M_lay 77 (.if_icmp .ge 24) 3 = true := by decide +kernel
def k_M_lay_80 : List vm_I := [.inl (.aload_n 0), .inr (.inr (.inl (0, 594, 20, 5, 6))), .inr (.inl (.int 256, 0)), .inl (.iload 4), .inl .imul, .inl (.iload 5), .inl .iadd, .inr (.inl (.int 0, 0)), .inl .iastore, .inr (.inr (.inr (5, 1)))]
theorem kc_M_lay_80 : vm_chk m_M_lay 80 k_M_lay_80 = some 98 := by decide +kernel
theorem d_M_lay_98 : vm_dec m_M_lay 98 (.goto (-26)) 3 = true := by decide +kernel
def k_M_lay_101 : List vm_I := [.inr (.inr (.inr (4, 1)))]
theorem kc_M_lay_101 : vm_chk m_M_lay 101 k_M_lay_101 = some 104 := by decide +kernel
theorem d_M_lay_104 : vm_dec m_M_lay 104 (.goto (-66)) 3 = true := by decide +kernel
def k_M_lay_107 : List vm_I := [.inr (.inl (.int 0, 0)), .inl (.istore 4)]
theorem kc_M_lay_107 : vm_chk m_M_lay 107 k_M_lay_107 = some 110 := by decide +kernel
def k_M_lay_110 : List vm_I := [.inl (.iload 4), .inl (.aload_n 0), .inr (.inr (.inl (0, 599, 33, 5, 11))), .inl (.iload_n 1), .inl .iaload]
theorem kc_M_lay_110 : vm_chk m_M_lay 110 k_M_lay_110 = some 118 := by decide +kernel
theorem d_M_lay_118 : vm_dec m_M_lay 118 (.if_icmp .ge 32) 3 = true := by decide +kernel
def k_M_lay_121 : List vm_I := [.inl (.aload_n 0), .inr (.inr (.inl (0, 594, 20, 5, 6))), .inl (.iload_n 2), .inl (.iload 4), .inl .iadd, .inl (.aload_n 0), .inr (.inr (.inl (0, 591, 7, 5, 3))), .inl (.aload_n 0), .inr (.inr (.inl (0, 598, 30, 5, 10))), .inl (.iload_n 1), .inl .iaload, .inl (.iload 4), .inl .iadd, .inl .iaload, .inl .iastore, .inr (.inr (.inr (4, 1)))]
theorem kc_M_lay_121 : vm_chk m_M_lay 121 k_M_lay_121 = some 147 := by decide +kernel
theorem d_M_lay_147 : vm_dec m_M_lay 147 (.goto (-37)) 3 = true := by decide +kernel
def k_M_lay_150 : List vm_I := [.inr (.inr (.inr (1, 1)))]
theorem kc_M_lay_150 : vm_chk m_M_lay 150 k_M_lay_150 = some 153 := by decide +kernel
theorem d_M_lay_153 : vm_dec m_M_lay 153 (.goto (-151)) 3 = true := by decide +kernel
theorem d_M_lay_156 : vm_dec m_M_lay 156 .return_ 1 = true := by decide +kernel
def k_M_unlay_0 : List vm_I := [.inr (.inl (.int 0, 0)), .inl (.istore_n 1)]
theorem kc_M_unlay_0 : vm_chk m_M_unlay 0 k_M_unlay_0 = some 2 := by decide +kernel
def k_M_unlay_2 : List vm_I := [.inl (.iload_n 1), .inr (.inl (.int 64, 0))]
theorem kc_M_unlay_2 : vm_chk m_M_unlay 2 k_M_unlay_2 = some 5 := by decide +kernel
theorem d_M_unlay_5 : vm_dec m_M_unlay 5 (.if_icmp .ge 38) 3 = true := by decide +kernel
def k_M_unlay_8 : List vm_I := [.inl (.aload_n 0), .inr (.inr (.inl (0, 592, 13, 5, 4))), .inl (.iload_n 1), .inl (.aload_n 0), .inr (.inr (.inl (0, 592, 13, 5, 4))), .inl (.iload_n 1), .inl .baload]
theorem kc_M_unlay_8 : vm_chk m_M_unlay 8 k_M_unlay_8 = some 19 := by decide +kernel
theorem d_M_unlay_19 : vm_dec m_M_unlay 19 (.ifCond .eq 16) 3 = true := by decide +kernel
def k_M_unlay_22 : List vm_I := [.inl (.aload_n 0), .inr (.inr (.inl (0, 601, 39, 5, 13))), .inl (.iload_n 1), .inl .baload]
theorem kc_M_unlay_22 : vm_chk m_M_unlay 22 k_M_unlay_22 = some 28 := by decide +kernel
theorem d_M_unlay_28 : vm_dec m_M_unlay 28 (.ifCond .ne 7) 3 = true := by decide +kernel
def k_M_unlay_31 : List vm_I := [.inr (.inl (.int 1, 0))]
theorem kc_M_unlay_31 : vm_chk m_M_unlay 31 k_M_unlay_31 = some 32 := by decide +kernel
theorem d_M_unlay_32 : vm_dec m_M_unlay 32 (.goto 4) 3 = true := by decide +kernel
def k_M_unlay_35 : List vm_I := [.inr (.inl (.int 0, 0))]
theorem kc_M_unlay_35 : vm_chk m_M_unlay 35 k_M_unlay_35 = some 36 := by decide +kernel
def k_M_unlay_36 : List vm_I := [.inl .bastore, .inr (.inr (.inr (1, 1)))]
theorem kc_M_unlay_36 : vm_chk m_M_unlay 36 k_M_unlay_36 = some 40 := by decide +kernel
theorem d_M_unlay_40 : vm_dec m_M_unlay 40 (.goto (-38)) 3 = true := by decide +kernel
theorem d_M_unlay_43 : vm_dec m_M_unlay 43 .return_ 1 = true := by decide +kernel
def k_M_areHeld_0 : List vm_I := [.inr (.inl (.int 1, 0)), .inl (.istore 4), .inr (.inl (.int 0, 0)), .inl (.istore 5)]
theorem kc_M_areHeld_0 : vm_chk m_M_areHeld 0 k_M_areHeld_0 = some 6 := by decide +kernel
def k_M_areHeld_6 : List vm_I := [.inl (.iload 5), .inl (.iload_n 3)]
theorem kc_M_areHeld_6 : vm_chk m_M_areHeld 6 k_M_areHeld_6 = some 9 := by decide +kernel
theorem d_M_areHeld_9 : vm_dec m_M_areHeld 9 (.if_icmp .ge 104) 3 = true := by decide +kernel
def k_M_areHeld_12 : List vm_I := [.inl (.lload_n 1), .inl (.iload 5), .inl .i2l, .inl .ladd, .inr (.inl (.long 4294967295, 750)), .inl .land, .inl (.lstore 6), .inr (.inl (.int 0, 0)), .inl (.istore 8), .inr (.inl (.int 0, 0)), .inl (.istore 9)]
theorem kc_M_areHeld_12 : vm_chk m_M_areHeld 12 k_M_areHeld_12 = some 29 := by decide +kernel
def k_M_areHeld_29 : List vm_I := [.inl (.iload 9), .inl (.aload_n 0), .inr (.inr (.inl (0, 595, 108, 5, 7)))]
theorem kc_M_areHeld_29 : vm_chk m_M_areHeld 29 k_M_areHeld_29 = some 35 := by decide +kernel
theorem d_M_areHeld_35 : vm_dec m_M_areHeld 35 (.if_icmp .ge 55) 3 = true := by decide +kernel
def k_M_areHeld_38 : List vm_I := [.inl (.iload 8)]
theorem kc_M_areHeld_38 : vm_chk m_M_areHeld 38 k_M_areHeld_38 = some 40 := by decide +kernel
theorem d_M_areHeld_40 : vm_dec m_M_areHeld 40 (.ifCond .ne 37) 3 = true := by decide +kernel
def k_M_areHeld_43 : List vm_I := [.inl (.lload 6), .inl (.aload_n 0), .inr (.inr (.inl (0, 596, 23, 5, 8))), .inl (.iload 9), .inl .laload]
theorem kc_M_areHeld_43 : vm_chk m_M_areHeld 43 k_M_areHeld_43 = some 52 := by decide +kernel
theorem dl_M_areHeld_52 : vm_dec m_M_areHeld 52 .lcmp 1 = true := by decide +kernel
theorem d_M_areHeld_52 : vm_dec m_M_areHeld 53 (.ifCond .lt 28) 3 = true := by decide +kernel
def k_M_areHeld_56 : List vm_I := [.inl (.lload 6), .inl (.aload_n 0), .inr (.inr (.inl (0, 596, 23, 5, 8))), .inl (.iload 9), .inl .laload, .inl (.aload_n 0), .inr (.inr (.inl (0, 597, 27, 5, 9))), .inl (.iload 9), .inl .laload, .inl .ladd]
theorem kc_M_areHeld_56 : vm_chk m_M_areHeld 56 k_M_areHeld_56 = some 73 := by decide +kernel
theorem dl_M_areHeld_73 : vm_dec m_M_areHeld 73 .lcmp 1 = true := by decide +kernel
theorem d_M_areHeld_73 : vm_dec m_M_areHeld 74 (.ifCond .ge 7) 3 = true := by decide +kernel
def k_M_areHeld_77 : List vm_I := [.inr (.inl (.int 1, 0))]
theorem kc_M_areHeld_77 : vm_chk m_M_areHeld 77 k_M_areHeld_77 = some 78 := by decide +kernel
theorem d_M_areHeld_78 : vm_dec m_M_areHeld 78 (.goto 4) 3 = true := by decide +kernel
def k_M_areHeld_81 : List vm_I := [.inr (.inl (.int 0, 0))]
theorem kc_M_areHeld_81 : vm_chk m_M_areHeld 81 k_M_areHeld_81 = some 82 := by decide +kernel
def k_M_areHeld_82 : List vm_I := [.inl (.istore 8), .inr (.inr (.inr (9, 1)))]
theorem kc_M_areHeld_82 : vm_chk m_M_areHeld 82 k_M_areHeld_82 = some 87 := by decide +kernel
theorem d_M_areHeld_87 : vm_dec m_M_areHeld 87 (.goto (-58)) 3 = true := by decide +kernel
def k_M_areHeld_90 : List vm_I := [.inl (.iload 4)]
theorem kc_M_areHeld_90 : vm_chk m_M_areHeld 90 k_M_areHeld_90 = some 92 := by decide +kernel
theorem d_M_areHeld_92 : vm_dec m_M_areHeld 92 (.ifCond .eq 12) 3 = true := by decide +kernel
def k_M_areHeld_95 : List vm_I := [.inl (.iload 8)]
theorem kc_M_areHeld_95 : vm_chk m_M_areHeld 95 k_M_areHeld_95 = some 97 := by decide +kernel
theorem d_M_areHeld_97 : vm_dec m_M_areHeld 97 (.ifCond .eq 7) 3 = true := by decide +kernel
def k_M_areHeld_100 : List vm_I := [.inr (.inl (.int 1, 0))]
theorem kc_M_areHeld_100 : vm_chk m_M_areHeld 100 k_M_areHeld_100 = some 101 := by decide +kernel
theorem d_M_areHeld_101 : vm_dec m_M_areHeld 101 (.goto 4) 3 = true := by decide +kernel
def k_M_areHeld_104 : List vm_I := [.inr (.inl (.int 0, 0))]
theorem kc_M_areHeld_104 : vm_chk m_M_areHeld 104 k_M_areHeld_104 = some 105 := by decide +kernel
def k_M_areHeld_105 : List vm_I := [.inl (.istore 4), .inr (.inr (.inr (5, 1)))]
theorem kc_M_areHeld_105 : vm_chk m_M_areHeld 105 k_M_areHeld_105 = some 110 := by decide +kernel
theorem d_M_areHeld_110 : vm_dec m_M_areHeld 110 (.goto (-104)) 3 = true := by decide +kernel
def k_M_areHeld_113 : List vm_I := [.inl (.iload 4)]
theorem kc_M_areHeld_113 : vm_chk m_M_areHeld 113 k_M_areHeld_113 = some 115 := by decide +kernel
theorem d_M_areHeld_115 : vm_dec m_M_areHeld 115 .ireturn 1 = true := by decide +kernel
def k_M_wordIn_0 : List vm_I := [.inr (.inl (.long 0, 0)), .inl (.lstore_n 3), .inr (.inl (.int 3, 0)), .inl (.istore 5)]
theorem kc_M_wordIn_0 : vm_chk m_M_wordIn 0 k_M_wordIn_0 = some 5 := by decide +kernel
def k_M_wordIn_5 : List vm_I := [.inl (.iload 5)]
theorem kc_M_wordIn_5 : vm_chk m_M_wordIn 5 k_M_wordIn_5 = some 7 := by decide +kernel
theorem d_M_wordIn_7 : vm_dec m_M_wordIn 7 (.ifCond .lt 31) 3 = true := by decide +kernel
def k_M_wordIn_10 : List vm_I := [.inl (.lload_n 3), .inr (.inl (.int 8, 0)), .inl .lshl, .inl (.aload_n 0), .inr (.inr (.inl (0, 594, 20, 5, 6))), .inl (.lload_n 1), .inl (.iload 5), .inl .i2l, .inl .ladd, .inr (.inl (.long 4294967295, 750)), .inl .land, .inl .l2i, .inl .iaload, .inl .i2l, .inl .lor, .inl (.lstore_n 3), .inr (.inr (.inr (5, (-1))))]
theorem kc_M_wordIn_10 : vm_chk m_M_wordIn 10 k_M_wordIn_10 = some 35 := by decide +kernel
theorem d_M_wordIn_35 : vm_dec m_M_wordIn 35 (.goto (-30)) 3 = true := by decide +kernel
def k_M_wordIn_38 : List vm_I := [.inl (.lload_n 3)]
theorem kc_M_wordIn_38 : vm_chk m_M_wordIn 38 k_M_wordIn_38 = some 39 := by decide +kernel
theorem d_M_wordIn_39 : vm_dec m_M_wordIn 39 .lreturn 1 = true := by decide +kernel
def k_M_put_0 : List vm_I := [.inr (.inl (.int 0, 0)), .inl (.istore 5)]
theorem kc_M_put_0 : vm_chk m_M_put 0 k_M_put_0 = some 3 := by decide +kernel
def k_M_put_3 : List vm_I := [.inl (.iload 5), .inr (.inl (.int 4, 0))]
theorem kc_M_put_3 : vm_chk m_M_put 3 k_M_put_3 = some 6 := by decide +kernel
theorem d_M_put_6 : vm_dec m_M_put 6 (.if_icmp .ge 36) 3 = true := by decide +kernel
def k_M_put_9 : List vm_I := [.inl (.aload_n 0), .inr (.inr (.inl (0, 594, 20, 5, 6))), .inl (.lload_n 1), .inl (.iload 5), .inl .i2l, .inl .ladd, .inr (.inl (.long 4294967295, 750)), .inl .land, .inl .l2i, .inl (.lload_n 3), .inr (.inl (.int 8, 0)), .inl (.iload 5), .inl .imul, .inl .lshr, .inr (.inl (.long 255, 670)), .inl .land, .inl .l2i, .inl .iastore, .inr (.inr (.inr (5, 1)))]
theorem kc_M_put_9 : vm_chk m_M_put 9 k_M_put_9 = some 39 := by decide +kernel
theorem d_M_put_39 : vm_dec m_M_put 39 (.goto (-36)) 3 = true := by decide +kernel
theorem d_M_put_42 : vm_dec m_M_put 42 .return_ 1 = true := by decide +kernel
def k_M_relocate_0 : List vm_I := [.inl (.aload_n 0), .inr (.inr (.inl (0, 605, 42, 5, 17))), .inr (.inl (.int 7, 0)), .inl .laload, .inl (.aload_n 0), .inr (.inr (.inl (0, 603, 96, 5, 15))), .inl .i2l, .inl .ladd, .inr (.inl (.long 12, 736)), .inl (.iload_n 1), .inl .i2l, .inl .lmul, .inl .ladd, .inr (.inl (.long 4294967295, 750)), .inl .land, .inl (.lstore_n 2), .inl (.aload_n 0), .inl (.lload_n 2), .inr (.inl (.int 12, 0))]
theorem kc_M_relocate_0 : vm_chk m_M_relocate 0 k_M_relocate_0 = some 29 := by decide +kernel
theorem v_M_relocate_29 : vm_okV m_M_relocate m_M_areHeld 29 132 2 (751, 753, 34, 48, 754) = true := by decide +kernel
theorem d_M_relocate_32 : vm_dec m_M_relocate 32 (.ifCond .ne 11) 3 = true := by decide +kernel
def k_M_relocate_35 : List vm_I := [.inl (.aload_n 0), .inr (.inl (.int 20, 0)), .inl (.iload_n 1)]
theorem kc_M_relocate_35 : vm_chk m_M_relocate 35 k_M_relocate_35 = some 39 := by decide +kernel
theorem v_M_relocate_39 : vm_okV m_M_relocate m_M_fail 39 84 2 (698, 700, 23, 48, 701) = true := by decide +kernel
theorem d_M_relocate_42 : vm_dec m_M_relocate 42 .ireturn 1 = true := by decide +kernel
def k_M_relocate_43 : List vm_I := [.inl (.aload_n 0), .inl (.lload_n 2)]
theorem kc_M_relocate_43 : vm_chk m_M_relocate 43 k_M_relocate_43 = some 45 := by decide +kernel
theorem v_M_relocate_45 : vm_okV m_M_relocate m_M_wordIn 45 136 1 (755, 757, 35, 48, 758) = true := by decide +kernel
def k_M_relocate_48 : List vm_I := [.inl (.aload_n 0), .inr (.inr (.inl (0, 603, 96, 5, 15))), .inl .i2l, .inl .ladd, .inr (.inl (.long 4294967295, 750)), .inl .land, .inl (.lstore 4), .inl (.aload_n 0), .inl (.lload_n 2), .inr (.inl (.long 4, 759)), .inl .ladd, .inr (.inl (.long 4294967295, 750)), .inl .land]
theorem kc_M_relocate_48 : vm_chk m_M_relocate 48 k_M_relocate_48 = some 70 := by decide +kernel
theorem v_M_relocate_70 : vm_okV m_M_relocate m_M_wordIn 70 136 1 (755, 757, 35, 48, 758) = true := by decide +kernel
def k_M_relocate_73 : List vm_I := [.inl (.lstore 6), .inl (.aload_n 0), .inl (.lload_n 2), .inr (.inl (.long 8, 731)), .inl .ladd, .inr (.inl (.long 4294967295, 750)), .inl .land]
theorem kc_M_relocate_73 : vm_chk m_M_relocate 73 k_M_relocate_73 = some 85 := by decide +kernel
theorem v_M_relocate_85 : vm_okV m_M_relocate m_M_wordIn 85 136 1 (755, 757, 35, 48, 758) = true := by decide +kernel
def k_M_relocate_88 : List vm_I := [.inl (.lstore 8), .inl (.aload_n 0), .inl (.lload 4), .inr (.inl (.int 4, 0))]
theorem kc_M_relocate_88 : vm_chk m_M_relocate 88 k_M_relocate_88 = some 94 := by decide +kernel
theorem v_M_relocate_94 : vm_okV m_M_relocate m_M_areHeld 94 132 2 (751, 753, 34, 48, 754) = true := by decide +kernel
theorem d_M_relocate_97 : vm_dec m_M_relocate 97 (.ifCond .ne 11) 3 = true := by decide +kernel
def k_M_relocate_100 : List vm_I := [.inl (.aload_n 0), .inr (.inl (.int 20, 0)), .inl (.iload_n 1)]
theorem kc_M_relocate_100 : vm_chk m_M_relocate 100 k_M_relocate_100 = some 104 := by decide +kernel
theorem v_M_relocate_104 : vm_okV m_M_relocate m_M_fail 104 84 2 (698, 700, 23, 48, 701) = true := by decide +kernel
theorem d_M_relocate_107 : vm_dec m_M_relocate 107 .ireturn 1 = true := by decide +kernel
def k_M_relocate_108 : List vm_I := [.inl (.lload 6), .inr (.inl (.long 255, 670)), .inl .land, .inl .l2i, .inl (.istore 10), .inl (.iload 10)]
theorem kc_M_relocate_108 : vm_chk m_M_relocate 108 k_M_relocate_108 = some 119 := by decide +kernel
theorem d_M_relocate_119 : vm_dec m_M_relocate 119 (.ifCond .eq 23) 3 = true := by decide +kernel
def k_M_relocate_122 : List vm_I := [.inl (.iload 10), .inr (.inl (.int 1, 0))]
theorem kc_M_relocate_122 : vm_chk m_M_relocate 122 k_M_relocate_122 = some 125 := by decide +kernel
theorem d_M_relocate_125 : vm_dec m_M_relocate 125 (.if_icmp .eq 17) 3 = true := by decide +kernel
def k_M_relocate_128 : List vm_I := [.inl (.iload 10), .inr (.inl (.int 3, 0))]
theorem kc_M_relocate_128 : vm_chk m_M_relocate 128 k_M_relocate_128 = some 131 := by decide +kernel
theorem d_M_relocate_131 : vm_dec m_M_relocate 131 (.if_icmp .eq 11) 3 = true := by decide +kernel
def k_M_relocate_134 : List vm_I := [.inl (.aload_n 0), .inr (.inl (.int 21, 0)), .inl (.iload_n 1)]
theorem kc_M_relocate_134 : vm_chk m_M_relocate 134 k_M_relocate_134 = some 138 := by decide +kernel
theorem v_M_relocate_138 : vm_okV m_M_relocate m_M_fail 138 84 2 (698, 700, 23, 48, 701) = true := by decide +kernel
theorem d_M_relocate_141 : vm_dec m_M_relocate 141 .ireturn 1 = true := by decide +kernel
def k_M_relocate_142 : List vm_I := [.inl (.iload 10), .inr (.inl (.int 3, 0))]
theorem kc_M_relocate_142 : vm_chk m_M_relocate 142 k_M_relocate_142 = some 145 := by decide +kernel
theorem d_M_relocate_145 : vm_dec m_M_relocate 145 (.if_icmp .ne 17) 3 = true := by decide +kernel
def k_M_relocate_148 : List vm_I := [.inl (.aload_n 0), .inl (.lload 4), .inl (.aload_n 0), .inr (.inr (.inl (0, 603, 96, 5, 15))), .inl .i2l, .inl (.lload 8), .inl .ladd]
theorem kc_M_relocate_148 : vm_chk m_M_relocate 148 k_M_relocate_148 = some 159 := by decide +kernel
theorem v_M_relocate_159 : vm_okV m_M_relocate m_M_put 159 142 2 (760, 762, 36, 48, 763) = true := by decide +kernel
def k_M_relocate_162 : List vm_I := [.inl (.iload 10), .inr (.inl (.int 1, 0))]
theorem kc_M_relocate_162 : vm_chk m_M_relocate 162 k_M_relocate_162 = some 165 := by decide +kernel
theorem d_M_relocate_165 : vm_dec m_M_relocate 165 (.if_icmp .eq 5) 3 = true := by decide +kernel
def k_M_relocate_168 : List vm_I := [.inr (.inl (.int 1, 0))]
theorem kc_M_relocate_168 : vm_chk m_M_relocate 168 k_M_relocate_168 = some 169 := by decide +kernel
theorem d_M_relocate_169 : vm_dec m_M_relocate 169 .ireturn 1 = true := by decide +kernel
def k_M_relocate_170 : List vm_I := [.inl (.lload 6), .inr (.inl (.int 8, 0)), .inl .lshr, .inl (.lstore 11), .inl (.aload_n 0), .inr (.inr (.inl (0, 605, 42, 5, 17))), .inr (.inl (.int 6, 0)), .inl .laload, .inl (.aload_n 0), .inr (.inr (.inl (0, 603, 96, 5, 15))), .inl .i2l, .inl .ladd, .inr (.inl (.long 16, 764)), .inl (.lload 11), .inl .lmul, .inl .ladd, .inr (.inl (.long 4294967295, 750)), .inl .land, .inl (.lstore 13), .inl (.aload_n 0), .inl (.lload 13), .inr (.inl (.int 16, 0))]
theorem kc_M_relocate_170 : vm_chk m_M_relocate 170 k_M_relocate_170 = some 208 := by decide +kernel
theorem v_M_relocate_208 : vm_okV m_M_relocate m_M_areHeld 208 132 2 (751, 753, 34, 48, 754) = true := by decide +kernel
theorem d_M_relocate_211 : vm_dec m_M_relocate 211 (.ifCond .eq 17) 3 = true := by decide +kernel
def k_M_relocate_214 : List vm_I := [.inl (.aload_n 0), .inr (.inr (.inl (0, 605, 42, 5, 17))), .inr (.inl (.int 11, 0)), .inl .laload, .inr (.inl (.long 16, 764))]
theorem kc_M_relocate_214 : vm_chk m_M_relocate 214 k_M_relocate_214 = some 224 := by decide +kernel
theorem dl_M_relocate_224 : vm_dec m_M_relocate 224 .lcmp 1 = true := by decide +kernel
theorem d_M_relocate_224 : vm_dec m_M_relocate 225 (.ifCond .eq 11) 3 = true := by decide +kernel
def k_M_relocate_228 : List vm_I := [.inl (.aload_n 0), .inr (.inl (.int 22, 0)), .inl (.iload_n 1)]
theorem kc_M_relocate_228 : vm_chk m_M_relocate 228 k_M_relocate_228 = some 232 := by decide +kernel
theorem v_M_relocate_232 : vm_okV m_M_relocate m_M_fail 232 84 2 (698, 700, 23, 48, 701) = true := by decide +kernel
theorem d_M_relocate_235 : vm_dec m_M_relocate 235 .ireturn 1 = true := by decide +kernel
def k_M_relocate_236 : List vm_I := [.inl (.aload_n 0), .inl (.lload 13), .inr (.inl (.long 12, 736)), .inl .ladd, .inr (.inl (.long 4294967295, 750)), .inl .land]
theorem kc_M_relocate_236 : vm_chk m_M_relocate 236 k_M_relocate_236 = some 247 := by decide +kernel
theorem v_M_relocate_247 : vm_okV m_M_relocate m_M_wordIn 247 136 1 (755, 757, 35, 48, 758) = true := by decide +kernel
def k_M_relocate_250 : List vm_I := [.inr (.inl (.int 16, 0)), .inl .lshr, .inl (.lstore 15), .inl (.lload 11), .inr (.inl (.long 0, 0))]
theorem kc_M_relocate_250 : vm_chk m_M_relocate 250 k_M_relocate_250 = some 258 := by decide +kernel
theorem dl_M_relocate_258 : vm_dec m_M_relocate 258 .lcmp 1 = true := by decide +kernel
theorem d_M_relocate_258 : vm_dec m_M_relocate 259 (.ifCond .eq 18) 3 = true := by decide +kernel
def k_M_relocate_262 : List vm_I := [.inl (.lload 15), .inr (.inl (.long 0, 0))]
theorem kc_M_relocate_262 : vm_chk m_M_relocate 262 k_M_relocate_262 = some 265 := by decide +kernel
theorem dl_M_relocate_265 : vm_dec m_M_relocate 265 .lcmp 1 = true := by decide +kernel
theorem d_M_relocate_265 : vm_dec m_M_relocate 266 (.ifCond .ne 11) 3 = true := by decide +kernel
def k_M_relocate_269 : List vm_I := [.inl (.aload_n 0), .inr (.inl (.int 23, 0)), .inl (.iload_n 1)]
theorem kc_M_relocate_269 : vm_chk m_M_relocate 269 k_M_relocate_269 = some 273 := by decide +kernel
theorem v_M_relocate_273 : vm_okV m_M_relocate m_M_fail 273 84 2 (698, 700, 23, 48, 701) = true := by decide +kernel
theorem d_M_relocate_276 : vm_dec m_M_relocate 276 .ireturn 1 = true := by decide +kernel
def k_M_relocate_277 : List vm_I := [.inl (.aload_n 0), .inl (.lload 4), .inl (.lload 8), .inl (.lload 11), .inr (.inl (.long 0, 0))]
theorem kc_M_relocate_277 : vm_chk m_M_relocate 277 k_M_relocate_277 = some 285 := by decide +kernel
theorem dl_M_relocate_285 : vm_dec m_M_relocate 285 .lcmp 1 = true := by decide +kernel
theorem d_M_relocate_285 : vm_dec m_M_relocate 286 (.ifCond .ne 7) 3 = true := by decide +kernel
def k_M_relocate_289 : List vm_I := [.inr (.inl (.long 0, 0))]
theorem kc_M_relocate_289 : vm_chk m_M_relocate 289 k_M_relocate_289 = some 290 := by decide +kernel
theorem d_M_relocate_290 : vm_dec m_M_relocate 290 (.goto 23) 3 = true := by decide +kernel
def k_M_relocate_293 : List vm_I := [.inl (.aload_n 0), .inl (.lload 13), .inr (.inl (.long 4, 759)), .inl .ladd, .inr (.inl (.long 4294967295, 750)), .inl .land]
theorem kc_M_relocate_293 : vm_chk m_M_relocate 293 k_M_relocate_293 = some 304 := by decide +kernel
theorem v_M_relocate_304 : vm_okV m_M_relocate m_M_wordIn 304 136 1 (755, 757, 35, 48, 758) = true := by decide +kernel
def k_M_relocate_307 : List vm_I := [.inl (.aload_n 0), .inr (.inr (.inl (0, 603, 96, 5, 15))), .inl .i2l, .inl .ladd]
theorem kc_M_relocate_307 : vm_chk m_M_relocate 307 k_M_relocate_307 = some 313 := by decide +kernel
def k_M_relocate_313 : List vm_I := [.inl .ladd]
theorem kc_M_relocate_313 : vm_chk m_M_relocate 313 k_M_relocate_313 = some 314 := by decide +kernel
theorem v_M_relocate_314 : vm_okV m_M_relocate m_M_put 314 142 2 (760, 762, 36, 48, 763) = true := by decide +kernel
def k_M_relocate_317 : List vm_I := [.inr (.inl (.int 1, 0))]
theorem kc_M_relocate_317 : vm_chk m_M_relocate 317 k_M_relocate_317 = some 318 := by decide +kernel
theorem d_M_relocate_318 : vm_dec m_M_relocate 318 .ireturn 1 = true := by decide +kernel
def k_M_relocations_0 : List vm_I := [.inl (.aload_n 0), .inr (.inr (.inl (0, 605, 42, 5, 17))), .inr (.inl (.int 8, 0)), .inl .laload, .inr (.inl (.long 12, 736)), .inl .ldiv, .inl .l2i, .inl (.istore_n 1), .inr (.inl (.int 0, 0)), .inl (.istore_n 2)]
theorem kc_M_relocations_0 : vm_chk m_M_relocations 0 k_M_relocations_0 = some 15 := by decide +kernel
def k_M_relocations_15 : List vm_I := [.inl (.iload_n 2), .inl (.iload_n 1)]
theorem kc_M_relocations_15 : vm_chk m_M_relocations 15 k_M_relocations_15 = some 17 := by decide +kernel
theorem d_M_relocations_17 : vm_dec m_M_relocations 17 (.if_icmp .ge 23) 3 = true := by decide +kernel
def k_M_relocations_20 : List vm_I := [.inl (.aload_n 0), .inl (.iload_n 2)]
theorem kc_M_relocations_20 : vm_chk m_M_relocations 20 k_M_relocations_20 = some 22 := by decide +kernel
theorem v_M_relocations_22 : vm_okV m_M_relocations m_M_relocate 22 148 1 (746, 748, 33, 48, 749) = true := by decide +kernel
theorem d_M_relocations_25 : vm_dec m_M_relocations 25 (.ifCond .ne 9) 3 = true := by decide +kernel
def k_M_relocations_28 : List vm_I := [.inl (.aload_n 0)]
theorem kc_M_relocations_28 : vm_chk m_M_relocations 28 k_M_relocations_28 = some 29 := by decide +kernel
theorem v_M_relocations_29 : vm_okV m_M_relocations m_M_unlay 29 151 0 (765, 767, 37, 48, 768) = true := by decide +kernel
def k_M_relocations_32 : List vm_I := [.inr (.inl (.int 0, 0))]
theorem kc_M_relocations_32 : vm_chk m_M_relocations 32 k_M_relocations_32 = some 33 := by decide +kernel
theorem d_M_relocations_33 : vm_dec m_M_relocations 33 .ireturn 1 = true := by decide +kernel
def k_M_relocations_34 : List vm_I := [.inr (.inr (.inr (2, 1)))]
theorem kc_M_relocations_34 : vm_chk m_M_relocations 34 k_M_relocations_34 = some 37 := by decide +kernel
theorem d_M_relocations_37 : vm_dec m_M_relocations 37 (.goto (-22)) 3 = true := by decide +kernel
def k_M_relocations_40 : List vm_I := [.inr (.inl (.int 1, 0))]
theorem kc_M_relocations_40 : vm_chk m_M_relocations 40 k_M_relocations_40 = some 41 := by decide +kernel
theorem d_M_relocations_41 : vm_dec m_M_relocations 41 .ireturn 1 = true := by decide +kernel
def k_M_load_0 : List vm_I := [.inl (.aload_n 0), .inr (.inl (.int 0, 0)), .inr (.inr (.inl (1, 588, 61, 5, 0))), .inl (.iload_n 1), .inr (.inl (.int 0, 0)), .inr (.inl (.int 16128, 0))]
theorem kc_M_load_0 : vm_chk m_M_load 0 k_M_load_0 = some 10 := by decide +kernel
theorem v_M_load_10 : vm_okS m_M_load m_M_in 10 64 3 (667, 668, 48, 669) = true := by decide +kernel
theorem d_M_load_13 : vm_dec m_M_load 13 (.ifCond .eq 11) 3 = true := by decide +kernel
def k_M_load_16 : List vm_I := [.inl (.iload_n 1), .inr (.inl (.int 256, 0)), .inl .irem]
theorem kc_M_load_16 : vm_chk m_M_load 16 k_M_load_16 = some 21 := by decide +kernel
theorem d_M_load_21 : vm_dec m_M_load 21 (.ifCond .eq 6) 3 = true := by decide +kernel
def k_M_load_24 : List vm_I := [.inr (.inl (.int (-2), 0))]
theorem kc_M_load_24 : vm_chk m_M_load 24 k_M_load_24 = some 26 := by decide +kernel
theorem d_M_load_26 : vm_dec m_M_load 26 .ireturn 1 = true := by decide +kernel
def k_M_load_27 : List vm_I := [.inl (.aload_n 0), .inr (.inl (.int (-1), 0)), .inr (.inr (.inl (1, 607, 45, 5, 19))), .inl (.aload_n 0), .inr (.inl (.int 0, 0)), .inr (.inr (.inl (1, 606, 81, 5, 18))), .inl (.aload_n 0)]
theorem kc_M_load_27 : vm_chk m_M_load 27 k_M_load_27 = some 38 := by decide +kernel
theorem v_M_load_38 : vm_okV m_M_load m_M_isHeader 38 154 0 (694, 696, 22, 48, 697) = true := by decide +kernel
theorem d_M_load_41 : vm_dec m_M_load 41 (.ifCond .ne 11) 3 = true := by decide +kernel
def k_M_load_44 : List vm_I := [.inr (.inl (.int (-10), 0)), .inl (.aload_n 0), .inr (.inr (.inl (0, 606, 81, 5, 18))), .inl .isub]
theorem kc_M_load_44 : vm_chk m_M_load 44 k_M_load_44 = some 51 := by decide +kernel
theorem d_M_load_51 : vm_dec m_M_load 51 .ireturn 1 = true := by decide +kernel
def k_M_load_52 : List vm_I := [.inl (.aload_n 0), .inl (.aload_n 0), .inr (.inl (.int 16, 0))]
theorem kc_M_load_52 : vm_chk m_M_load 52 k_M_load_52 = some 56 := by decide +kernel
theorem v_M_load_56 : vm_okV m_M_load m_M_half 56 77 1 (702, 704, 24, 48, 705) = true := by decide +kernel
def k_M_load_59 : List vm_I := [.inr (.inl (.int 2, 0))]
theorem kc_M_load_59 : vm_chk m_M_load 59 k_M_load_59 = some 60 := by decide +kernel
theorem d_M_load_60 : vm_dec m_M_load 60 (.if_icmp .ne 7) 3 = true := by decide +kernel
def k_M_load_63 : List vm_I := [.inr (.inl (.int 0, 0))]
theorem kc_M_load_63 : vm_chk m_M_load 63 k_M_load_63 = some 64 := by decide +kernel
theorem d_M_load_64 : vm_dec m_M_load 64 (.goto 4) 3 = true := by decide +kernel
def k_M_load_67 : List vm_I := [.inl (.iload_n 1)]
theorem kc_M_load_67 : vm_chk m_M_load 67 k_M_load_67 = some 68 := by decide +kernel
def k_M_load_68 : List vm_I := [.inr (.inr (.inl (1, 603, 96, 5, 15))), .inl (.aload_n 0)]
theorem kc_M_load_68 : vm_chk m_M_load 68 k_M_load_68 = some 72 := by decide +kernel
theorem v_M_load_72 : vm_okV m_M_load m_M_areHeads 72 158 0 (711, 713, 26, 48, 714) = true := by decide +kernel
theorem d_M_load_75 : vm_dec m_M_load 75 (.ifCond .eq 10) 3 = true := by decide +kernel
def k_M_load_78 : List vm_I := [.inl (.aload_n 0)]
theorem kc_M_load_78 : vm_chk m_M_load 78 k_M_load_78 = some 79 := by decide +kernel
theorem v_M_load_79 : vm_okV m_M_load m_M_arePairs 79 161 0 (732, 734, 30, 48, 735) = true := by decide +kernel
theorem d_M_load_82 : vm_dec m_M_load 82 (.ifCond .ne 11) 3 = true := by decide +kernel
def k_M_load_85 : List vm_I := [.inr (.inl (.int (-10), 0)), .inl (.aload_n 0), .inr (.inr (.inl (0, 606, 81, 5, 18))), .inl .isub]
theorem kc_M_load_85 : vm_chk m_M_load 85 k_M_load_85 = some 92 := by decide +kernel
theorem d_M_load_92 : vm_dec m_M_load 92 .ireturn 1 = true := by decide +kernel
def k_M_load_93 : List vm_I := [.inl (.aload_n 0)]
theorem kc_M_load_93 : vm_chk m_M_load 93 k_M_load_93 = some 94 := by decide +kernel
theorem v_M_load_94 : vm_okV m_M_load m_M_lay 94 164 0 (738, 740, 31, 48, 741) = true := by decide +kernel
def k_M_load_97 : List vm_I := [.inl (.aload_n 0)]
theorem kc_M_load_97 : vm_chk m_M_load 97 k_M_load_97 = some 98 := by decide +kernel
theorem v_M_load_98 : vm_okV m_M_load m_M_relocations 98 167 0 (742, 744, 32, 48, 745) = true := by decide +kernel
theorem d_M_load_101 : vm_dec m_M_load 101 (.ifCond .ne 11) 3 = true := by decide +kernel
def k_M_load_104 : List vm_I := [.inr (.inl (.int (-10), 0)), .inl (.aload_n 0), .inr (.inr (.inl (0, 606, 81, 5, 18))), .inl .isub]
theorem kc_M_load_104 : vm_chk m_M_load 104 k_M_load_104 = some 111 := by decide +kernel
theorem d_M_load_111 : vm_dec m_M_load 111 .ireturn 1 = true := by decide +kernel
def k_M_load_112 : List vm_I := [.inl (.aload_n 0), .inl (.aload_n 0), .inr (.inl (.int 24, 0))]
theorem kc_M_load_112 : vm_chk m_M_load 112 k_M_load_112 = some 116 := by decide +kernel
theorem v_M_load_116 : vm_okV m_M_load m_M_word 116 88 1 (706, 708, 25, 48, 709) = true := by decide +kernel
def k_M_load_119 : List vm_I := [.inl .l2i, .inl (.aload_n 0), .inr (.inr (.inl (0, 603, 96, 5, 15))), .inl .iadd, .inr (.inr (.inl (1, 608, 49, 5, 20))), .inl (.aload_n 0), .inl (.aload_n 0), .inr (.inr (.inl (0, 602, 105, 5, 14))), .inr (.inr (.inl (1, 609, 52, 5, 21))), .inl (.aload_n 0), .inl (.aload_n 0), .inr (.inr (.inl (0, 603, 96, 5, 15))), .inr (.inr (.inl (1, 610, 55, 5, 22))), .inl (.aload_n 0), .inl .dup, .inr (.inr (.inl (0, 611, 170, 5, 23))), .inr (.inl (.int 1, 0)), .inl .iadd, .inr (.inr (.inl (1, 611, 170, 5, 23))), .inl (.aload_n 0), .inr (.inr (.inl (0, 605, 42, 5, 17))), .inr (.inl (.int 8, 0)), .inl .laload, .inr (.inl (.long 12, 736)), .inl .ldiv, .inl .l2i]
theorem kc_M_load_119 : vm_chk m_M_load 119 k_M_load_119 = some 166 := by decide +kernel
theorem d_M_load_166 : vm_dec m_M_load 166 .ireturn 1 = true := by decide +kernel
def k_M_told_0 : List vm_I := [.inl (.aload_n 0), .inr (.inl (.int 0, 0)), .inr (.inr (.inl (1, 588, 61, 5, 0))), .inl (.iload_n 1)]
theorem kc_M_told_0 : vm_chk m_M_told 0 k_M_told_0 = some 6 := by decide +kernel
theorem d_M_told_6 : vm_dec m_M_told 6 (.ifCond .ne 10) 3 = true := by decide +kernel
def k_M_told_9 : List vm_I := [.inl (.aload_n 0), .inr (.inr (.inl (0, 607, 45, 5, 19)))]
theorem kc_M_told_9 : vm_chk m_M_told 9 k_M_told_9 = some 13 := by decide +kernel
theorem d_M_told_13 : vm_dec m_M_told 13 (.goto 41) 3 = true := by decide +kernel
def k_M_told_16 : List vm_I := [.inl (.iload_n 1), .inr (.inl (.int 1, 0))]
theorem kc_M_told_16 : vm_chk m_M_told 16 k_M_told_16 = some 18 := by decide +kernel
theorem d_M_told_18 : vm_dec m_M_told 18 (.if_icmp .ne 10) 3 = true := by decide +kernel
def k_M_told_21 : List vm_I := [.inl (.aload_n 0), .inr (.inr (.inl (0, 608, 49, 5, 20)))]
theorem kc_M_told_21 : vm_chk m_M_told 21 k_M_told_21 = some 25 := by decide +kernel
theorem d_M_told_25 : vm_dec m_M_told 25 (.goto 29) 3 = true := by decide +kernel
def k_M_told_28 : List vm_I := [.inl (.iload_n 1), .inr (.inl (.int 2, 0))]
theorem kc_M_told_28 : vm_chk m_M_told 28 k_M_told_28 = some 30 := by decide +kernel
theorem d_M_told_30 : vm_dec m_M_told 30 (.if_icmp .ne 10) 3 = true := by decide +kernel
def k_M_told_33 : List vm_I := [.inl (.aload_n 0), .inr (.inr (.inl (0, 609, 52, 5, 21)))]
theorem kc_M_told_33 : vm_chk m_M_told 33 k_M_told_33 = some 37 := by decide +kernel
theorem d_M_told_37 : vm_dec m_M_told 37 (.goto 17) 3 = true := by decide +kernel
def k_M_told_40 : List vm_I := [.inl (.iload_n 1), .inr (.inl (.int 3, 0))]
theorem kc_M_told_40 : vm_chk m_M_told 40 k_M_told_40 = some 42 := by decide +kernel
theorem d_M_told_42 : vm_dec m_M_told 42 (.if_icmp .ne 10) 3 = true := by decide +kernel
def k_M_told_45 : List vm_I := [.inl (.aload_n 0), .inr (.inr (.inl (0, 610, 55, 5, 22)))]
theorem kc_M_told_45 : vm_chk m_M_told 45 k_M_told_45 = some 49 := by decide +kernel
theorem d_M_told_49 : vm_dec m_M_told 49 (.goto 5) 3 = true := by decide +kernel
def k_M_told_52 : List vm_I := [.inr (.inl (.int (-2), 0))]
theorem kc_M_told_52 : vm_chk m_M_told 52 k_M_told_52 = some 54 := by decide +kernel
theorem d_M_told_54 : vm_dec m_M_told 54 .ireturn 1 = true := by decide +kernel
def k_M_stack_0 : List vm_I := [.inl (.aload_n 0), .inr (.inl (.int 0, 0)), .inr (.inr (.inl (1, 588, 61, 5, 0))), .inl (.iload_n 1), .inr (.inl (.int 1, 0)), .inr (.inl (.int 16, 0))]
theorem kc_M_stack_0 : vm_chk m_M_stack 0 k_M_stack_0 = some 9 := by decide +kernel
theorem v_M_stack_9 : vm_okS m_M_stack m_M_in 9 64 3 (667, 668, 48, 669) = true := by decide +kernel
theorem d_M_stack_12 : vm_dec m_M_stack 12 (.ifCond .ne 6) 3 = true := by decide +kernel
def k_M_stack_15 : List vm_I := [.inr (.inl (.int (-2), 0))]
theorem kc_M_stack_15 : vm_chk m_M_stack 15 k_M_stack_15 = some 17 := by decide +kernel
theorem d_M_stack_17 : vm_dec m_M_stack 17 .ireturn 1 = true := by decide +kernel
def k_M_stack_18 : List vm_I := [.inr (.inl (.int 16384, 0)), .inr (.inl (.int 256, 0)), .inl (.iload_n 1), .inl .imul, .inl .isub, .inl (.istore_n 2), .inl (.aload_n 0)]
theorem kc_M_stack_18 : vm_chk m_M_stack 18 k_M_stack_18 = some 29 := by decide +kernel
theorem v_M_stack_29 : vm_okV m_M_stack m_M_mappedPages 29 101 0 (721, 723, 28, 48, 724) = true := by decide +kernel
def k_M_stack_32 : List vm_I := [.inl (.iload_n 1), .inl .iadd, .inl (.aload_n 0), .inr (.inr (.inl (0, 589, 58, 5, 1)))]
theorem kc_M_stack_32 : vm_chk m_M_stack 32 k_M_stack_32 = some 38 := by decide +kernel
theorem d_M_stack_38 : vm_dec m_M_stack 38 (.if_icmp .gt 7) 3 = true := by decide +kernel
def k_M_stack_41 : List vm_I := [.inr (.inl (.int 1, 0))]
theorem kc_M_stack_41 : vm_chk m_M_stack 41 k_M_stack_41 = some 42 := by decide +kernel
theorem d_M_stack_42 : vm_dec m_M_stack 42 (.goto 4) 3 = true := by decide +kernel
def k_M_stack_45 : List vm_I := [.inr (.inl (.int 0, 0))]
theorem kc_M_stack_45 : vm_chk m_M_stack 45 k_M_stack_45 = some 46 := by decide +kernel
def k_M_stack_46 : List vm_I := [.inl (.istore_n 3), .inr (.inl (.int 64, 0)), .inl (.iload_n 1), .inl .isub, .inl (.istore 4)]
theorem kc_M_stack_46 : vm_chk m_M_stack 46 k_M_stack_46 = some 53 := by decide +kernel
def k_M_stack_53 : List vm_I := [.inl (.iload 4), .inr (.inl (.int 64, 0))]
theorem kc_M_stack_53 : vm_chk m_M_stack 53 k_M_stack_53 = some 57 := by decide +kernel
theorem d_M_stack_57 : vm_dec m_M_stack 57 (.if_icmp .ge 29) 3 = true := by decide +kernel
def k_M_stack_60 : List vm_I := [.inl (.iload_n 3)]
theorem kc_M_stack_60 : vm_chk m_M_stack 60 k_M_stack_60 = some 61 := by decide +kernel
theorem d_M_stack_61 : vm_dec m_M_stack 61 (.ifCond .eq 17) 3 = true := by decide +kernel
def k_M_stack_64 : List vm_I := [.inl (.aload_n 0), .inr (.inr (.inl (0, 592, 13, 5, 4))), .inl (.iload 4), .inl .baload]
theorem kc_M_stack_64 : vm_chk m_M_stack 64 k_M_stack_64 = some 71 := by decide +kernel
theorem d_M_stack_71 : vm_dec m_M_stack 71 (.ifCond .ne 7) 3 = true := by decide +kernel
def k_M_stack_74 : List vm_I := [.inr (.inl (.int 1, 0))]
theorem kc_M_stack_74 : vm_chk m_M_stack 74 k_M_stack_74 = some 75 := by decide +kernel
theorem d_M_stack_75 : vm_dec m_M_stack 75 (.goto 4) 3 = true := by decide +kernel
def k_M_stack_78 : List vm_I := [.inr (.inl (.int 0, 0))]
theorem kc_M_stack_78 : vm_chk m_M_stack 78 k_M_stack_78 = some 79 := by decide +kernel
def k_M_stack_79 : List vm_I := [.inl (.istore_n 3), .inr (.inr (.inr (4, 1)))]
theorem kc_M_stack_79 : vm_chk m_M_stack 79 k_M_stack_79 = some 83 := by decide +kernel
theorem d_M_stack_83 : vm_dec m_M_stack 83 (.goto (-30)) 3 = true := by decide +kernel
def k_M_stack_86 : List vm_I := [.inr (.inl (.int 0, 0)), .inl (.istore 4), .inr (.inl (.int 0, 0)), .inl (.istore 5)]
theorem kc_M_stack_86 : vm_chk m_M_stack 86 k_M_stack_86 = some 92 := by decide +kernel
def k_M_stack_92 : List vm_I := [.inl (.iload 5), .inl (.aload_n 0), .inr (.inr (.inl (0, 590, 68, 5, 2)))]
theorem kc_M_stack_92 : vm_chk m_M_stack 92 k_M_stack_92 = some 98 := by decide +kernel
theorem d_M_stack_98 : vm_dec m_M_stack 98 (.if_icmp .ge 40) 3 = true := by decide +kernel
def k_M_stack_101 : List vm_I := [.inl (.iload 4), .inl (.aload_n 0), .inr (.inr (.inl (0, 591, 7, 5, 3))), .inl (.iload 5), .inl .iaload]
theorem kc_M_stack_101 : vm_chk m_M_stack 101 k_M_stack_101 = some 110 := by decide +kernel
theorem d_M_stack_110 : vm_dec m_M_stack 110 (.ifCond .eq 14) 3 = true := by decide +kernel
def k_M_stack_113 : List vm_I := [.inl (.iload 5), .inl (.aload_n 0), .inr (.inr (.inl (0, 590, 68, 5, 2))), .inr (.inl (.int 1, 0)), .inl .isub]
theorem kc_M_stack_113 : vm_chk m_M_stack 113 k_M_stack_113 = some 121 := by decide +kernel
theorem d_M_stack_121 : vm_dec m_M_stack 121 (.if_icmp .ne 7) 3 = true := by decide +kernel
def k_M_stack_124 : List vm_I := [.inr (.inl (.int 1, 0))]
theorem kc_M_stack_124 : vm_chk m_M_stack 124 k_M_stack_124 = some 125 := by decide +kernel
theorem d_M_stack_125 : vm_dec m_M_stack 125 (.goto 4) 3 = true := by decide +kernel
def k_M_stack_128 : List vm_I := [.inr (.inl (.int 0, 0))]
theorem kc_M_stack_128 : vm_chk m_M_stack 128 k_M_stack_128 = some 129 := by decide +kernel
def k_M_stack_129 : List vm_I := [.inl .iadd, .inl (.istore 4), .inr (.inr (.inr (5, 1)))]
theorem kc_M_stack_129 : vm_chk m_M_stack 129 k_M_stack_129 = some 135 := by decide +kernel
theorem d_M_stack_135 : vm_dec m_M_stack 135 (.goto (-43)) 3 = true := by decide +kernel
def k_M_stack_138 : List vm_I := [.inl (.aload_n 0), .inr (.inr (.inl (0, 590, 68, 5, 2)))]
theorem kc_M_stack_138 : vm_chk m_M_stack 138 k_M_stack_138 = some 142 := by decide +kernel
theorem d_M_stack_142 : vm_dec m_M_stack 142 (.ifCond .le 26) 3 = true := by decide +kernel
def k_M_stack_145 : List vm_I := [.inl (.aload_n 0), .inr (.inr (.inl (0, 591, 7, 5, 3))), .inl (.aload_n 0), .inr (.inr (.inl (0, 590, 68, 5, 2))), .inr (.inl (.int 1, 0)), .inl .isub, .inl .iaload]
theorem kc_M_stack_145 : vm_chk m_M_stack 145 k_M_stack_145 = some 156 := by decide +kernel
theorem d_M_stack_156 : vm_dec m_M_stack 156 (.ifCond .eq 12) 3 = true := by decide +kernel
def k_M_stack_159 : List vm_I := [.inl (.aload_n 0), .inr (.inr (.inl (0, 590, 68, 5, 2))), .inr (.inl (.int 1, 0)), .inl .iadd]
theorem kc_M_stack_159 : vm_chk m_M_stack 159 k_M_stack_159 = some 165 := by decide +kernel
theorem d_M_stack_165 : vm_dec m_M_stack 165 (.goto 7) 3 = true := by decide +kernel
def k_M_stack_168 : List vm_I := [.inl (.aload_n 0), .inr (.inr (.inl (0, 590, 68, 5, 2)))]
theorem kc_M_stack_168 : vm_chk m_M_stack 168 k_M_stack_168 = some 172 := by decide +kernel
def k_M_stack_172 : List vm_I := [.inl (.istore 5), .inr (.inl (.int 16384, 0)), .inl (.iload 5), .inl .isub, .inl (.istore 6), .inl (.iload 6), .inr (.inl (.int 4, 0)), .inl (.iload 4), .inr (.inl (.int 3, 0)), .inl .iadd, .inl .imul, .inl .isub, .inl (.istore 7), .inl (.iload 7), .inl (.iload 7), .inr (.inl (.int 16, 0)), .inl .irem, .inr (.inl (.int 16, 0)), .inl .iadd, .inr (.inl (.int 16, 0)), .inl .irem, .inl .isub, .inl (.istore 7), .inl (.iload_n 3)]
theorem kc_M_stack_172 : vm_chk m_M_stack 172 k_M_stack_172 = some 210 := by decide +kernel
theorem d_M_stack_210 : vm_dec m_M_stack 210 (.ifCond .eq 9) 3 = true := by decide +kernel
def k_M_stack_213 : List vm_I := [.inl (.iload 7), .inl (.iload_n 2)]
theorem kc_M_stack_213 : vm_chk m_M_stack 213 k_M_stack_213 = some 216 := by decide +kernel
theorem d_M_stack_216 : vm_dec m_M_stack 216 (.if_icmp .ge 6) 3 = true := by decide +kernel
def k_M_stack_219 : List vm_I := [.inr (.inl (.int (-3), 0))]
theorem kc_M_stack_219 : vm_chk m_M_stack 219 k_M_stack_219 = some 221 := by decide +kernel
theorem d_M_stack_221 : vm_dec m_M_stack 221 .ireturn 1 = true := by decide +kernel
def k_M_stack_222 : List vm_I := [.inr (.inl (.int 64, 0)), .inl (.iload_n 1), .inl .isub, .inl (.istore 8)]
theorem kc_M_stack_222 : vm_chk m_M_stack 222 k_M_stack_222 = some 228 := by decide +kernel
def k_M_stack_228 : List vm_I := [.inl (.iload 8), .inr (.inl (.int 64, 0))]
theorem kc_M_stack_228 : vm_chk m_M_stack 228 k_M_stack_228 = some 232 := by decide +kernel
theorem d_M_stack_232 : vm_dec m_M_stack 232 (.if_icmp .ge 26) 3 = true := by decide +kernel
def k_M_stack_235 : List vm_I := [.inl (.aload_n 0), .inr (.inr (.inl (0, 592, 13, 5, 4))), .inl (.iload 8), .inr (.inl (.int 1, 0)), .inl .bastore, .inl (.aload_n 0), .inr (.inr (.inl (0, 593, 17, 5, 5))), .inl (.iload 8), .inr (.inl (.int 6, 0)), .inl .iastore, .inr (.inr (.inr (8, 1)))]
theorem kc_M_stack_235 : vm_chk m_M_stack 235 k_M_stack_235 = some 255 := by decide +kernel
theorem d_M_stack_255 : vm_dec m_M_stack 255 (.goto (-27)) 3 = true := by decide +kernel
def k_M_stack_258 : List vm_I := [.inl (.iload_n 2), .inl (.istore 8)]
theorem kc_M_stack_258 : vm_chk m_M_stack 258 k_M_stack_258 = some 261 := by decide +kernel
def k_M_stack_261 : List vm_I := [.inl (.iload 8), .inr (.inl (.int 16384, 0))]
theorem kc_M_stack_261 : vm_chk m_M_stack 261 k_M_stack_261 = some 266 := by decide +kernel
theorem d_M_stack_266 : vm_dec m_M_stack 266 (.if_icmp .ge 17) 3 = true := by decide +kernel
def k_M_stack_269 : List vm_I := [.inl (.aload_n 0), .inr (.inr (.inl (0, 594, 20, 5, 6))), .inl (.iload 8), .inr (.inl (.int 0, 0)), .inl .iastore, .inr (.inr (.inr (8, 1)))]
theorem kc_M_stack_269 : vm_chk m_M_stack 269 k_M_stack_269 = some 280 := by decide +kernel
theorem d_M_stack_280 : vm_dec m_M_stack 280 (.goto (-19)) 3 = true := by decide +kernel
def k_M_stack_283 : List vm_I := [.inl (.aload_n 0), .inl (.iload 7), .inl .i2l, .inl (.iload 4), .inl .i2l]
theorem kc_M_stack_283 : vm_chk m_M_stack 283 k_M_stack_283 = some 290 := by decide +kernel
theorem v_M_stack_290 : vm_okV m_M_stack m_M_put 290 142 2 (760, 762, 36, 48, 763) = true := by decide +kernel
def k_M_stack_293 : List vm_I := [.inr (.inl (.int 1, 0)), .inl (.istore 8), .inr (.inl (.int 1, 0)), .inl (.istore 9), .inr (.inl (.int 0, 0)), .inl (.istore 10)]
theorem kc_M_stack_293 : vm_chk m_M_stack 293 k_M_stack_293 = some 302 := by decide +kernel
def k_M_stack_302 : List vm_I := [.inl (.iload 10), .inl (.aload_n 0), .inr (.inr (.inl (0, 590, 68, 5, 2)))]
theorem kc_M_stack_302 : vm_chk m_M_stack 302 k_M_stack_302 = some 308 := by decide +kernel
theorem d_M_stack_308 : vm_dec m_M_stack 308 (.if_icmp .ge 69) 3 = true := by decide +kernel
def k_M_stack_311 : List vm_I := [.inl (.aload_n 0), .inr (.inr (.inl (0, 594, 20, 5, 6))), .inl (.iload 6), .inl (.iload 10), .inl .iadd, .inl (.aload_n 0), .inr (.inr (.inl (0, 591, 7, 5, 3))), .inl (.iload 10), .inl .iaload, .inl .iastore, .inl (.iload 9)]
theorem kc_M_stack_311 : vm_chk m_M_stack 311 k_M_stack_311 = some 330 := by decide +kernel
theorem d_M_stack_330 : vm_dec m_M_stack 330 (.ifCond .eq 24) 3 = true := by decide +kernel
def k_M_stack_333 : List vm_I := [.inl (.aload_n 0), .inl (.iload 7), .inr (.inl (.int 4, 0)), .inl (.iload 8), .inl .imul, .inl .iadd, .inl .i2l, .inl (.iload 6), .inl (.iload 10), .inl .iadd, .inl .i2l]
theorem kc_M_stack_333 : vm_chk m_M_stack 333 k_M_stack_333 = some 348 := by decide +kernel
theorem v_M_stack_348 : vm_okV m_M_stack m_M_put 348 142 2 (760, 762, 36, 48, 763) = true := by decide +kernel
def k_M_stack_351 : List vm_I := [.inr (.inr (.inr (8, 1)))]
theorem kc_M_stack_351 : vm_chk m_M_stack 351 k_M_stack_351 = some 354 := by decide +kernel
def k_M_stack_354 : List vm_I := [.inl (.aload_n 0), .inr (.inr (.inl (0, 591, 7, 5, 3))), .inl (.iload 10), .inl .iaload]
theorem kc_M_stack_354 : vm_chk m_M_stack 354 k_M_stack_354 = some 361 := by decide +kernel
theorem d_M_stack_361 : vm_dec m_M_stack 361 (.ifCond .ne 7) 3 = true := by decide +kernel
def k_M_stack_364 : List vm_I := [.inr (.inl (.int 1, 0))]
theorem kc_M_stack_364 : vm_chk m_M_stack 364 k_M_stack_364 = some 365 := by decide +kernel
theorem d_M_stack_365 : vm_dec m_M_stack 365 (.goto 4) 3 = true := by decide +kernel
def k_M_stack_368 : List vm_I := [.inr (.inl (.int 0, 0))]
theorem kc_M_stack_368 : vm_chk m_M_stack 368 k_M_stack_368 = some 369 := by decide +kernel
def k_M_stack_369 : List vm_I := [.inl (.istore 9), .inr (.inr (.inr (10, 1)))]
theorem kc_M_stack_369 : vm_chk m_M_stack 369 k_M_stack_369 = some 374 := by decide +kernel
theorem d_M_stack_374 : vm_dec m_M_stack 374 (.goto (-72)) 3 = true := by decide +kernel
def k_M_stack_377 : List vm_I := [.inl (.aload_n 0), .inr (.inl (.int 0, 0)), .inr (.inr (.inl (1, 590, 68, 5, 2))), .inl (.iload 7)]
theorem kc_M_stack_377 : vm_chk m_M_stack 377 k_M_stack_377 = some 384 := by decide +kernel
theorem d_M_stack_384 : vm_dec m_M_stack 384 .ireturn 1 = true := by decide +kernel
def k_M_refusal_0 : List vm_I := [.inl (.iload_n 2)]
theorem kc_M_refusal_0 : vm_chk m_M_refusal 0 k_M_refusal_0 = some 1 := by decide +kernel
theorem v_M_refusal_1 : vm_okS m_M_refusal m_M_isWide 1 73 1 (679, 680, 48, 681) = true := by decide +kernel
theorem d_M_refusal_4 : vm_dec m_M_refusal 4 (.ifCond .ne 6) 3 = true := by decide +kernel
def k_M_refusal_7 : List vm_I := [.inr (.inl (.int (-4), 0))]
theorem kc_M_refusal_7 : vm_chk m_M_refusal 7 k_M_refusal_7 = some 9 := by decide +kernel
theorem d_M_refusal_9 : vm_dec m_M_refusal 9 .ireturn 1 = true := by decide +kernel
def k_M_refusal_10 : List vm_I := [.inl (.iload_n 1), .inl (.iload_n 2), .inl .irem]
theorem kc_M_refusal_10 : vm_chk m_M_refusal 10 k_M_refusal_10 = some 13 := by decide +kernel
theorem d_M_refusal_13 : vm_dec m_M_refusal 13 (.ifCond .eq 6) 3 = true := by decide +kernel
def k_M_refusal_16 : List vm_I := [.inr (.inl (.int (-3), 0))]
theorem kc_M_refusal_16 : vm_chk m_M_refusal 16 k_M_refusal_16 = some 18 := by decide +kernel
theorem d_M_refusal_18 : vm_dec m_M_refusal 18 .ireturn 1 = true := by decide +kernel
def k_M_refusal_19 : List vm_I := [.inl (.iload_n 1), .inr (.inl (.int 0, 0)), .inr (.inl (.int 16384, 0)), .inl (.iload_n 2), .inl .isub]
theorem kc_M_refusal_19 : vm_chk m_M_refusal 19 k_M_refusal_19 = some 26 := by decide +kernel
theorem v_M_refusal_26 : vm_okS m_M_refusal m_M_in 26 64 3 (667, 668, 48, 669) = true := by decide +kernel
theorem d_M_refusal_29 : vm_dec m_M_refusal 29 (.ifCond .eq 16) 3 = true := by decide +kernel
def k_M_refusal_32 : List vm_I := [.inl (.aload_n 0), .inr (.inr (.inl (0, 592, 13, 5, 4))), .inl (.iload_n 1), .inr (.inl (.int 256, 0)), .inl .idiv, .inl .baload]
theorem kc_M_refusal_32 : vm_chk m_M_refusal 32 k_M_refusal_32 = some 42 := by decide +kernel
theorem d_M_refusal_42 : vm_dec m_M_refusal 42 (.ifCond .ne 5) 3 = true := by decide +kernel
def k_M_refusal_45 : List vm_I := [.inr (.inl (.int (-1), 0))]
theorem kc_M_refusal_45 : vm_chk m_M_refusal 45 k_M_refusal_45 = some 46 := by decide +kernel
theorem d_M_refusal_46 : vm_dec m_M_refusal 46 .ireturn 1 = true := by decide +kernel
def k_M_refusal_47 : List vm_I := [.inl (.aload_n 0), .inr (.inr (.inl (0, 593, 17, 5, 5))), .inl (.iload_n 1), .inr (.inl (.int 256, 0)), .inl .idiv, .inl .iaload, .inl (.iload_n 3), .inl .iand]
theorem kc_M_refusal_47 : vm_chk m_M_refusal 47 k_M_refusal_47 = some 59 := by decide +kernel
theorem d_M_refusal_59 : vm_dec m_M_refusal 59 (.ifCond .ne 8) 3 = true := by decide +kernel
def k_M_refusal_62 : List vm_I := [.inr (.inl (.int (-2), 0))]
theorem kc_M_refusal_62 : vm_chk m_M_refusal 62 k_M_refusal_62 = some 64 := by decide +kernel
theorem d_M_refusal_64 : vm_dec m_M_refusal 64 (.goto 4) 3 = true := by decide +kernel
def k_M_refusal_67 : List vm_I := [.inr (.inl (.int 0, 0))]
theorem kc_M_refusal_67 : vm_chk m_M_refusal 67 k_M_refusal_67 = some 68 := by decide +kernel
theorem d_M_refusal_68 : vm_dec m_M_refusal 68 .ireturn 1 = true := by decide +kernel
def k_M_have_0 : List vm_I := [.inl (.aload_n 0), .inl (.iload_n 1), .inl (.iload_n 2), .inl (.iload_n 3)]
theorem kc_M_have_0 : vm_chk m_M_have 0 k_M_have_0 = some 4 := by decide +kernel
theorem v_M_have_4 : vm_okV m_M_have m_M_refusal 4 173 3 (785, 787, 39, 48, 788) = true := by decide +kernel
def k_M_have_7 : List vm_I := [.inl (.istore 4), .inl (.iload 4)]
theorem kc_M_have_7 : vm_chk m_M_have 7 k_M_have_7 = some 11 := by decide +kernel
theorem d_M_have_11 : vm_dec m_M_have 11 (.ifCond .eq 7) 3 = true := by decide +kernel
def k_M_have_14 : List vm_I := [.inl (.iload 4), .inl .i2l]
theorem kc_M_have_14 : vm_chk m_M_have 14 k_M_have_14 = some 17 := by decide +kernel
theorem d_M_have_17 : vm_dec m_M_have 17 .lreturn 1 = true := by decide +kernel
def k_M_have_18 : List vm_I := [.inr (.inl (.long 0, 0)), .inl (.lstore 5), .inl (.iload_n 2), .inr (.inl (.int 1, 0)), .inl .isub, .inl (.istore 7)]
theorem kc_M_have_18 : vm_chk m_M_have 18 k_M_have_18 = some 26 := by decide +kernel
def k_M_have_26 : List vm_I := [.inl (.iload 7)]
theorem kc_M_have_26 : vm_chk m_M_have 26 k_M_have_26 = some 28 := by decide +kernel
theorem d_M_have_28 : vm_dec m_M_have 28 (.ifCond .lt 27) 3 = true := by decide +kernel
def k_M_have_31 : List vm_I := [.inl (.lload 5), .inr (.inl (.int 8, 0)), .inl .lshl, .inl (.aload_n 0), .inr (.inr (.inl (0, 594, 20, 5, 6))), .inl (.iload_n 1), .inl (.iload 7), .inl .iadd, .inl .iaload, .inl .i2l, .inl .lor, .inl (.lstore 5), .inr (.inr (.inr (7, (-1))))]
theorem kc_M_have_31 : vm_chk m_M_have 31 k_M_have_31 = some 52 := by decide +kernel
theorem d_M_have_52 : vm_dec m_M_have 52 (.goto (-26)) 3 = true := by decide +kernel
def k_M_have_55 : List vm_I := [.inl (.lload 5)]
theorem kc_M_have_55 : vm_chk m_M_have 55 k_M_have_55 = some 57 := by decide +kernel
theorem d_M_have_57 : vm_dec m_M_have 57 .lreturn 1 = true := by decide +kernel
def k_M_read_0 : List vm_I := [.inl (.aload_n 0), .inr (.inl (.int 0, 0)), .inr (.inr (.inl (1, 588, 61, 5, 0))), .inl (.aload_n 0), .inl (.iload_n 1), .inl (.iload_n 2), .inr (.inl (.int 4, 0))]
theorem kc_M_read_0 : vm_chk m_M_read 0 k_M_read_0 = some 9 := by decide +kernel
theorem v_M_read_9 : vm_okV m_M_read m_M_have 9 177 3 (781, 783, 38, 48, 784) = true := by decide +kernel
theorem d_M_read_12 : vm_dec m_M_read 12 .lreturn 1 = true := by decide +kernel
def k_M_write_0 : List vm_I := [.inl (.aload_n 0), .inr (.inl (.int 0, 0)), .inr (.inr (.inl (1, 588, 61, 5, 0))), .inl (.aload_n 0), .inl (.iload_n 1), .inl (.iload_n 2), .inr (.inl (.int 2, 0))]
theorem kc_M_write_0 : vm_chk m_M_write 0 k_M_write_0 = some 9 := by decide +kernel
theorem v_M_write_9 : vm_okV m_M_write m_M_refusal 9 173 3 (785, 787, 39, 48, 788) = true := by decide +kernel
def k_M_write_12 : List vm_I := [.inl (.istore 4), .inr (.inl (.int 0, 0)), .inl (.istore 5)]
theorem kc_M_write_12 : vm_chk m_M_write 12 k_M_write_12 = some 17 := by decide +kernel
def k_M_write_17 : List vm_I := [.inl (.iload 5), .inl (.iload_n 2)]
theorem kc_M_write_17 : vm_chk m_M_write 17 k_M_write_17 = some 20 := by decide +kernel
theorem d_M_write_20 : vm_dec m_M_write 20 (.if_icmp .ge 34) 3 = true := by decide +kernel
def k_M_write_23 : List vm_I := [.inl (.iload 4)]
theorem kc_M_write_23 : vm_chk m_M_write 23 k_M_write_23 = some 25 := by decide +kernel
theorem d_M_write_25 : vm_dec m_M_write 25 (.ifCond .ne 29) 3 = true := by decide +kernel
def k_M_write_28 : List vm_I := [.inl (.aload_n 0), .inr (.inr (.inl (0, 594, 20, 5, 6))), .inl (.iload_n 1), .inl (.iload 5), .inl .iadd, .inl (.iload_n 3), .inr (.inl (.int 8, 0)), .inl (.iload 5), .inl .imul, .inl .ishr, .inr (.inl (.int 255, 0)), .inl .iand, .inl .iastore, .inr (.inr (.inr (5, 1)))]
theorem kc_M_write_28 : vm_chk m_M_write 28 k_M_write_28 = some 51 := by decide +kernel
theorem d_M_write_51 : vm_dec m_M_write 51 (.goto (-34)) 3 = true := by decide +kernel
def k_M_write_54 : List vm_I := [.inl (.iload 4)]
theorem kc_M_write_54 : vm_chk m_M_write 54 k_M_write_54 = some 56 := by decide +kernel
theorem d_M_write_56 : vm_dec m_M_write 56 .ireturn 1 = true := by decide +kernel
def k_M_fetch_0 : List vm_I := [.inl (.aload_n 0), .inr (.inl (.int 0, 0)), .inr (.inr (.inl (1, 588, 61, 5, 0))), .inl (.aload_n 0), .inl (.iload_n 1), .inr (.inl (.int 4, 0)), .inr (.inl (.int 1, 0))]
theorem kc_M_fetch_0 : vm_chk m_M_fetch 0 k_M_fetch_0 = some 9 := by decide +kernel
theorem v_M_fetch_9 : vm_okV m_M_fetch m_M_have 9 177 3 (781, 783, 38, 48, 784) = true := by decide +kernel
theorem d_M_fetch_12 : vm_dec m_M_fetch 12 .lreturn 1 = true := by decide +kernel
def k_M_isPage_0 : List vm_I := [.inl (.iload_n 0), .inr (.inl (.int 0, 0)), .inr (.inl (.int 63, 0))]
theorem kc_M_isPage_0 : vm_chk m_M_isPage 0 k_M_isPage_0 = some 4 := by decide +kernel
theorem v_M_isPage_4 : vm_okS m_M_isPage m_M_in 4 64 3 (667, 668, 48, 669) = true := by decide +kernel
theorem d_M_isPage_7 : vm_dec m_M_isPage 7 .ireturn 1 = true := by decide +kernel
def k_M_protect_0 : List vm_I := [.inl (.aload_n 0), .inr (.inl (.int 0, 0)), .inr (.inr (.inl (1, 588, 61, 5, 0))), .inl (.iload_n 1)]
theorem kc_M_protect_0 : vm_chk m_M_protect 0 k_M_protect_0 = some 6 := by decide +kernel
theorem v_M_protect_6 : vm_okS m_M_protect m_M_isPage 6 181 1 (801, 802, 48, 803) = true := by decide +kernel
theorem d_M_protect_9 : vm_dec m_M_protect 9 (.ifCond .eq 13) 3 = true := by decide +kernel
def k_M_protect_12 : List vm_I := [.inl (.iload_n 2), .inr (.inl (.int 0, 0)), .inr (.inl (.int 7, 0))]
theorem kc_M_protect_12 : vm_chk m_M_protect 12 k_M_protect_12 = some 16 := by decide +kernel
theorem v_M_protect_16 : vm_okS m_M_protect m_M_in 16 64 3 (667, 668, 48, 669) = true := by decide +kernel
theorem d_M_protect_19 : vm_dec m_M_protect 19 (.ifCond .ne 6) 3 = true := by decide +kernel
def k_M_protect_22 : List vm_I := [.inr (.inl (.int (-2), 0))]
theorem kc_M_protect_22 : vm_chk m_M_protect 22 k_M_protect_22 = some 24 := by decide +kernel
theorem d_M_protect_24 : vm_dec m_M_protect 24 .ireturn 1 = true := by decide +kernel
def k_M_protect_25 : List vm_I := [.inl (.aload_n 0), .inr (.inr (.inl (0, 592, 13, 5, 4))), .inl (.iload_n 1), .inl .baload]
theorem kc_M_protect_25 : vm_chk m_M_protect 25 k_M_protect_25 = some 31 := by decide +kernel
theorem d_M_protect_31 : vm_dec m_M_protect 31 (.ifCond .ne 6) 3 = true := by decide +kernel
def k_M_protect_34 : List vm_I := [.inr (.inl (.int (-3), 0))]
theorem kc_M_protect_34 : vm_chk m_M_protect 34 k_M_protect_34 = some 36 := by decide +kernel
theorem d_M_protect_36 : vm_dec m_M_protect 36 .ireturn 1 = true := by decide +kernel
def k_M_protect_37 : List vm_I := [.inl (.aload_n 0), .inr (.inr (.inl (0, 593, 17, 5, 5))), .inl (.iload_n 1), .inl .iaload, .inl (.istore_n 3), .inl (.aload_n 0), .inr (.inr (.inl (0, 593, 17, 5, 5))), .inl (.iload_n 1), .inl (.iload_n 2), .inl .iastore, .inl (.iload_n 3)]
theorem kc_M_protect_37 : vm_chk m_M_protect 37 k_M_protect_37 = some 52 := by decide +kernel
theorem d_M_protect_52 : vm_dec m_M_protect 52 .ireturn 1 = true := by decide +kernel
def k_M_unmap_0 : List vm_I := [.inl (.aload_n 0), .inr (.inl (.int 0, 0)), .inr (.inr (.inl (1, 588, 61, 5, 0))), .inl (.iload_n 1)]
theorem kc_M_unmap_0 : vm_chk m_M_unmap 0 k_M_unmap_0 = some 6 := by decide +kernel
theorem v_M_unmap_6 : vm_okS m_M_unmap m_M_isPage 6 181 1 (801, 802, 48, 803) = true := by decide +kernel
theorem d_M_unmap_9 : vm_dec m_M_unmap 9 (.ifCond .eq 15) 3 = true := by decide +kernel
def k_M_unmap_12 : List vm_I := [.inl (.iload_n 2), .inr (.inl (.int 1, 0)), .inr (.inl (.int 64, 0)), .inl (.iload_n 1), .inl .isub]
theorem kc_M_unmap_12 : vm_chk m_M_unmap 12 k_M_unmap_12 = some 18 := by decide +kernel
theorem v_M_unmap_18 : vm_okS m_M_unmap m_M_in 18 64 3 (667, 668, 48, 669) = true := by decide +kernel
theorem d_M_unmap_21 : vm_dec m_M_unmap 21 (.ifCond .ne 6) 3 = true := by decide +kernel
def k_M_unmap_24 : List vm_I := [.inr (.inl (.int (-2), 0))]
theorem kc_M_unmap_24 : vm_chk m_M_unmap 24 k_M_unmap_24 = some 26 := by decide +kernel
theorem d_M_unmap_26 : vm_dec m_M_unmap 26 .ireturn 1 = true := by decide +kernel
def k_M_unmap_27 : List vm_I := [.inr (.inl (.int 0, 0)), .inl (.istore_n 3), .inl (.iload_n 1), .inl (.istore 4)]
theorem kc_M_unmap_27 : vm_chk m_M_unmap 27 k_M_unmap_27 = some 32 := by decide +kernel
def k_M_unmap_32 : List vm_I := [.inl (.iload 4), .inl (.iload_n 1), .inl (.iload_n 2), .inl .iadd]
theorem kc_M_unmap_32 : vm_chk m_M_unmap 32 k_M_unmap_32 = some 37 := by decide +kernel
theorem d_M_unmap_37 : vm_dec m_M_unmap 37 (.if_icmp .ge 35) 3 = true := by decide +kernel
def k_M_unmap_40 : List vm_I := [.inl (.iload_n 3), .inl (.aload_n 0), .inr (.inr (.inl (0, 592, 13, 5, 4))), .inl (.iload 4), .inl .baload]
theorem kc_M_unmap_40 : vm_chk m_M_unmap 40 k_M_unmap_40 = some 48 := by decide +kernel
theorem d_M_unmap_48 : vm_dec m_M_unmap 48 (.ifCond .eq 7) 3 = true := by decide +kernel
def k_M_unmap_51 : List vm_I := [.inr (.inl (.int 1, 0))]
theorem kc_M_unmap_51 : vm_chk m_M_unmap 51 k_M_unmap_51 = some 52 := by decide +kernel
theorem d_M_unmap_52 : vm_dec m_M_unmap 52 (.goto 4) 3 = true := by decide +kernel
def k_M_unmap_55 : List vm_I := [.inr (.inl (.int 0, 0))]
theorem kc_M_unmap_55 : vm_chk m_M_unmap 55 k_M_unmap_55 = some 56 := by decide +kernel
def k_M_unmap_56 : List vm_I := [.inl .iadd, .inl (.istore_n 3), .inl (.aload_n 0), .inr (.inr (.inl (0, 592, 13, 5, 4))), .inl (.iload 4), .inr (.inl (.int 0, 0)), .inl .bastore, .inr (.inr (.inr (4, 1)))]
theorem kc_M_unmap_56 : vm_chk m_M_unmap 56 k_M_unmap_56 = some 69 := by decide +kernel
theorem d_M_unmap_69 : vm_dec m_M_unmap 69 (.goto (-37)) 3 = true := by decide +kernel
def k_M_unmap_72 : List vm_I := [.inl (.iload_n 3)]
theorem kc_M_unmap_72 : vm_chk m_M_unmap 72 k_M_unmap_72 = some 73 := by decide +kernel
theorem d_M_unmap_73 : vm_dec m_M_unmap 73 .ireturn 1 = true := by decide +kernel
def k_M_rights_0 : List vm_I := [.inl (.aload_n 0), .inr (.inl (.int 0, 0)), .inr (.inr (.inl (1, 588, 61, 5, 0))), .inl (.iload_n 1)]
theorem kc_M_rights_0 : vm_chk m_M_rights 0 k_M_rights_0 = some 6 := by decide +kernel
theorem v_M_rights_6 : vm_okS m_M_rights m_M_isPage 6 181 1 (801, 802, 48, 803) = true := by decide +kernel
theorem d_M_rights_9 : vm_dec m_M_rights 9 (.ifCond .ne 8) 3 = true := by decide +kernel
def k_M_rights_12 : List vm_I := [.inr (.inl (.int (-2), 0))]
theorem kc_M_rights_12 : vm_chk m_M_rights 12 k_M_rights_12 = some 14 := by decide +kernel
theorem d_M_rights_14 : vm_dec m_M_rights 14 (.goto 22) 3 = true := by decide +kernel
def k_M_rights_17 : List vm_I := [.inl (.aload_n 0), .inr (.inr (.inl (0, 592, 13, 5, 4))), .inl (.iload_n 1), .inl .baload]
theorem kc_M_rights_17 : vm_chk m_M_rights 17 k_M_rights_17 = some 23 := by decide +kernel
theorem d_M_rights_23 : vm_dec m_M_rights 23 (.ifCond .eq 12) 3 = true := by decide +kernel
def k_M_rights_26 : List vm_I := [.inl (.aload_n 0), .inr (.inr (.inl (0, 593, 17, 5, 5))), .inl (.iload_n 1), .inl .iaload]
theorem kc_M_rights_26 : vm_chk m_M_rights 26 k_M_rights_26 = some 32 := by decide +kernel
theorem d_M_rights_32 : vm_dec m_M_rights 32 (.goto 4) 3 = true := by decide +kernel
def k_M_rights_35 : List vm_I := [.inr (.inl (.int (-1), 0))]
theorem kc_M_rights_35 : vm_chk m_M_rights 35 k_M_rights_35 = some 36 := by decide +kernel
theorem d_M_rights_36 : vm_dec m_M_rights 36 .ireturn 1 = true := by decide +kernel
def k_M_with_0 : List vm_I := [.inr (.inl (.int 0, 0)), .inl (.istore_n 2), .inr (.inl (.int 0, 0)), .inl (.istore_n 3)]
theorem kc_M_with_0 : vm_chk m_M_with 0 k_M_with_0 = some 4 := by decide +kernel
def k_M_with_4 : List vm_I := [.inl (.iload_n 3), .inr (.inl (.int 64, 0))]
theorem kc_M_with_4 : vm_chk m_M_with 4 k_M_with_4 = some 7 := by decide +kernel
theorem d_M_with_7 : vm_dec m_M_with 7 (.if_icmp .ge 37) 3 = true := by decide +kernel
def k_M_with_10 : List vm_I := [.inl (.iload_n 2), .inl (.aload_n 0), .inr (.inr (.inl (0, 592, 13, 5, 4))), .inl (.iload_n 3), .inl .baload]
theorem kc_M_with_10 : vm_chk m_M_with 10 k_M_with_10 = some 17 := by decide +kernel
theorem d_M_with_17 : vm_dec m_M_with 17 (.ifCond .eq 18) 3 = true := by decide +kernel
def k_M_with_20 : List vm_I := [.inl (.aload_n 0), .inr (.inr (.inl (0, 593, 17, 5, 5))), .inl (.iload_n 3), .inl .iaload, .inl (.iload_n 1), .inl .iand]
theorem kc_M_with_20 : vm_chk m_M_with 20 k_M_with_20 = some 28 := by decide +kernel
theorem d_M_with_28 : vm_dec m_M_with 28 (.ifCond .eq 7) 3 = true := by decide +kernel
def k_M_with_31 : List vm_I := [.inr (.inl (.int 1, 0))]
theorem kc_M_with_31 : vm_chk m_M_with 31 k_M_with_31 = some 32 := by decide +kernel
theorem d_M_with_32 : vm_dec m_M_with 32 (.goto 4) 3 = true := by decide +kernel
def k_M_with_35 : List vm_I := [.inr (.inl (.int 0, 0))]
theorem kc_M_with_35 : vm_chk m_M_with 35 k_M_with_35 = some 36 := by decide +kernel
def k_M_with_36 : List vm_I := [.inl .iadd, .inl (.istore_n 2), .inr (.inr (.inr (3, 1)))]
theorem kc_M_with_36 : vm_chk m_M_with 36 k_M_with_36 = some 41 := by decide +kernel
theorem d_M_with_41 : vm_dec m_M_with 41 (.goto (-37)) 3 = true := by decide +kernel
def k_M_with_44 : List vm_I := [.inl (.iload_n 2)]
theorem kc_M_with_44 : vm_chk m_M_with 44 k_M_with_44 = some 45 := by decide +kernel
theorem d_M_with_45 : vm_dec m_M_with 45 .ireturn 1 = true := by decide +kernel
def k_M_count_0 : List vm_I := [.inl (.aload_n 0), .inr (.inl (.int 0, 0)), .inr (.inr (.inl (1, 588, 61, 5, 0))), .inl (.iload_n 1)]
theorem kc_M_count_0 : vm_chk m_M_count 0 k_M_count_0 = some 6 := by decide +kernel
theorem d_M_count_6 : vm_dec m_M_count 6 (.tableswitch 80 0 6 #[42, 47, 53, 59, 65, 70, 75]) 42 = true := by decide +kernel
def k_M_count_48 : List vm_I := [.inl (.aload_n 0)]
theorem kc_M_count_48 : vm_chk m_M_count 48 k_M_count_48 = some 49 := by decide +kernel
theorem v_M_count_49 : vm_okV m_M_count m_M_mappedPages 49 101 0 (721, 723, 28, 48, 724) = true := by decide +kernel
theorem d_M_count_52 : vm_dec m_M_count 52 .ireturn 1 = true := by decide +kernel
def k_M_count_53 : List vm_I := [.inl (.aload_n 0), .inr (.inl (.int 1, 0))]
theorem kc_M_count_53 : vm_chk m_M_count 53 k_M_count_53 = some 55 := by decide +kernel
theorem v_M_count_55 : vm_okV m_M_count m_M_with 55 184 1 (816, 818, 40, 48, 819) = true := by decide +kernel
theorem d_M_count_58 : vm_dec m_M_count 58 .ireturn 1 = true := by decide +kernel
def k_M_count_59 : List vm_I := [.inl (.aload_n 0), .inr (.inl (.int 2, 0))]
theorem kc_M_count_59 : vm_chk m_M_count 59 k_M_count_59 = some 61 := by decide +kernel
theorem v_M_count_61 : vm_okV m_M_count m_M_with 61 184 1 (816, 818, 40, 48, 819) = true := by decide +kernel
theorem d_M_count_64 : vm_dec m_M_count 64 .ireturn 1 = true := by decide +kernel
def k_M_count_65 : List vm_I := [.inl (.aload_n 0), .inr (.inl (.int 4, 0))]
theorem kc_M_count_65 : vm_chk m_M_count 65 k_M_count_65 = some 67 := by decide +kernel
theorem v_M_count_67 : vm_okV m_M_count m_M_with 67 184 1 (816, 818, 40, 48, 819) = true := by decide +kernel
theorem d_M_count_70 : vm_dec m_M_count 70 .ireturn 1 = true := by decide +kernel
def k_M_count_71 : List vm_I := [.inl (.aload_n 0), .inr (.inr (.inl (0, 590, 68, 5, 2)))]
theorem kc_M_count_71 : vm_chk m_M_count 71 k_M_count_71 = some 75 := by decide +kernel
theorem d_M_count_75 : vm_dec m_M_count 75 .ireturn 1 = true := by decide +kernel
def k_M_count_76 : List vm_I := [.inl (.aload_n 0), .inr (.inr (.inl (0, 611, 170, 5, 23)))]
theorem kc_M_count_76 : vm_chk m_M_count 76 k_M_count_76 = some 80 := by decide +kernel
theorem d_M_count_80 : vm_dec m_M_count 80 .ireturn 1 = true := by decide +kernel
def k_M_count_81 : List vm_I := [.inl (.aload_n 0), .inr (.inr (.inl (0, 589, 58, 5, 1)))]
theorem kc_M_count_81 : vm_chk m_M_count 81 k_M_count_81 = some 85 := by decide +kernel
theorem d_M_count_85 : vm_dec m_M_count 85 .ireturn 1 = true := by decide +kernel
def k_M_count_86 : List vm_I := [.inr (.inl (.int (-2), 0))]
theorem kc_M_count_86 : vm_chk m_M_count 86 k_M_count_86 = some 88 := by decide +kernel
theorem d_M_count_88 : vm_dec m_M_count 88 .ireturn 1 = true := by decide +kernel
def k_M_sum_0 : List vm_I := [.inl (.aload_n 0), .inr (.inl (.int 0, 0)), .inr (.inr (.inl (1, 588, 61, 5, 0))), .inl (.iload_n 2)]
theorem kc_M_sum_0 : vm_chk m_M_sum 0 k_M_sum_0 = some 6 := by decide +kernel
theorem d_M_sum_6 : vm_dec m_M_sum 6 (.ifCond .lt 22) 3 = true := by decide +kernel
def k_M_sum_9 : List vm_I := [.inl (.iload_n 2)]
theorem kc_M_sum_9 : vm_chk m_M_sum 9 k_M_sum_9 = some 10 := by decide +kernel
theorem d_M_sum_10 : vm_dec m_M_sum 10 (.ifCond .le 20) 3 = true := by decide +kernel
def k_M_sum_13 : List vm_I := [.inl (.iload_n 1)]
theorem kc_M_sum_13 : vm_chk m_M_sum 13 k_M_sum_13 = some 14 := by decide +kernel
theorem v_M_sum_14 : vm_okS m_M_sum m_M_isPage 14 181 1 (801, 802, 48, 803) = true := by decide +kernel
theorem d_M_sum_17 : vm_dec m_M_sum 17 (.ifCond .eq 11) 3 = true := by decide +kernel
def k_M_sum_20 : List vm_I := [.inl (.iload_n 2), .inr (.inl (.int 64, 0)), .inl (.iload_n 1), .inl .isub]
theorem kc_M_sum_20 : vm_chk m_M_sum 20 k_M_sum_20 = some 25 := by decide +kernel
theorem d_M_sum_25 : vm_dec m_M_sum 25 (.if_icmp .le 5) 3 = true := by decide +kernel
def k_M_sum_28 : List vm_I := [.inr (.inl (.int 0, 0))]
theorem kc_M_sum_28 : vm_chk m_M_sum 28 k_M_sum_28 = some 29 := by decide +kernel
theorem d_M_sum_29 : vm_dec m_M_sum 29 .ireturn 1 = true := by decide +kernel
def k_M_sum_30 : List vm_I := [.inr (.inl (.int 7, 0)), .inl (.istore_n 3), .inr (.inl (.int 256, 0)), .inl (.iload_n 1), .inl .imul, .inl (.istore 4)]
theorem kc_M_sum_30 : vm_chk m_M_sum 30 k_M_sum_30 = some 40 := by decide +kernel
def k_M_sum_40 : List vm_I := [.inl (.iload 4), .inr (.inl (.int 256, 0)), .inl (.iload_n 1), .inl (.iload_n 2), .inl .iadd, .inl .imul]
theorem kc_M_sum_40 : vm_chk m_M_sum 40 k_M_sum_40 = some 49 := by decide +kernel
theorem d_M_sum_49 : vm_dec m_M_sum 49 (.if_icmp .ge 42) 3 = true := by decide +kernel
def k_M_sum_52 : List vm_I := [.inr (.inl (.int 31, 0)), .inl (.iload_n 3), .inl .imul, .inl (.aload_n 0), .inr (.inr (.inl (0, 592, 13, 5, 4))), .inl (.iload 4), .inr (.inl (.int 256, 0)), .inl .idiv, .inl .baload]
theorem kc_M_sum_52 : vm_chk m_M_sum 52 k_M_sum_52 = some 67 := by decide +kernel
theorem d_M_sum_67 : vm_dec m_M_sum 67 (.ifCond .eq 13) 3 = true := by decide +kernel
def k_M_sum_70 : List vm_I := [.inl (.aload_n 0), .inr (.inr (.inl (0, 594, 20, 5, 6))), .inl (.iload 4), .inl .iaload]
theorem kc_M_sum_70 : vm_chk m_M_sum 70 k_M_sum_70 = some 77 := by decide +kernel
theorem d_M_sum_77 : vm_dec m_M_sum 77 (.goto 6) 3 = true := by decide +kernel
def k_M_sum_80 : List vm_I := [.inr (.inl (.int 1000, 0))]
theorem kc_M_sum_80 : vm_chk m_M_sum 80 k_M_sum_80 = some 83 := by decide +kernel
def k_M_sum_83 : List vm_I := [.inl .iadd, .inl (.istore_n 3), .inr (.inr (.inr (4, 1)))]
theorem kc_M_sum_83 : vm_chk m_M_sum 83 k_M_sum_83 = some 88 := by decide +kernel
theorem d_M_sum_88 : vm_dec m_M_sum 88 (.goto (-48)) 3 = true := by decide +kernel
def k_M_sum_91 : List vm_I := [.inl (.iload_n 3)]
theorem kc_M_sum_91 : vm_chk m_M_sum 91 k_M_sum_91 = some 92 := by decide +kernel
theorem d_M_sum_92 : vm_dec m_M_sum 92 .ireturn 1 = true := by decide +kernel
