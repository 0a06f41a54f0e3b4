def k_L_init_0 : List vm_I := [.inl (.aload_n 0)]
theorem kc_L_init_0 : vm_chk m_L_init 0 k_L_init_0 = some 1 := by decide +kernel
theorem d_L_init_1 : vm_dec m_L_init 1 (.invokespecial 1) 3 = true := by decide +kernel
def k_L_init_4 : List vm_I := [.inl (.aload_n 0)]
theorem kc_L_init_4 : vm_chk m_L_init 4 k_L_init_4 = some 5 := by decide +kernel
-- L_init_5 [5, 'new', '#7', 'class ImageLoader$Tape']
def k_L_init_8 : List vm_I := [.inl .dup]
theorem kc_L_init_8 : vm_chk m_L_init 8 k_L_init_8 = some 9 := by decide +kernel
-- theorem v_L_init_9 : vm_okI_ m_L_init m_T_init 9 9 0 (60, 61, 43, 62) = true := by decide +kernel
def k_L_init_12 : List vm_I := [.inr (.inr (.inl (3, 181, 10, 4, 0))), .inl (.aload_n 0)]
theorem kc_L_init_12 : vm_chk m_L_init 12 k_L_init_12 = some 16 := by decide +kernel
-- L_init_16 [16, 'new', '#16', 'class ImageLoader$Space']
def k_L_init_19 : List vm_I := [.inl .dup, .inr (.inl (.int 1, 0)), .inr (.inl (.int 64, 0)), .inl (.iload_n 1)]
theorem kc_L_init_19 : vm_chk m_L_init 19 k_L_init_19 = some 24 := by decide +kernel
theorem v_L_init_24 : vm_okS m_L_init m_J_min 24 18 2 (74, 75, 45, 76) = true := by decide +kernel
theorem v_L_init_27 : vm_okS m_L_init m_J_max 27 24 2 (77, 78, 45, 79) = true := by decide +kernel
-- theorem v_L_init_30 : vm_okI_ m_L_init m_P_init 30 27 1 (80, 81, 44, 82) = true := by decide +kernel
def k_L_init_33 : List vm_I := [.inr (.inr (.inl (3, 182, 30, 4, 1))), .inl (.aload_n 0)]
theorem kc_L_init_33 : vm_chk m_L_init 33 k_L_init_33 = some 37 := by decide +kernel
-- L_init_37 [37, 'new', '#34', 'class ImageLoader$Image']
def k_L_init_40 : List vm_I := [.inl .dup]
theorem kc_L_init_40 : vm_chk m_L_init 40 k_L_init_40 = some 41 := by decide +kernel
-- theorem v_L_init_41 : vm_okI_ m_L_init m_I_init 41 36 0 (100, 101, 46, 102) = true := by decide +kernel
def k_L_init_44 : List vm_I := [.inr (.inr (.inl (3, 183, 37, 4, 2))), .inl (.aload_n 0), .inr (.inl (.int (-1), 0)), .inr (.inr (.inl (1, 184, 41, 4, 3))), .inl (.aload_n 0), .inr (.inl (.int (-1), 0)), .inr (.inr (.inl (1, 185, 45, 4, 4))), .inl (.aload_n 0), .inr (.inl (.int (-1), 0)), .inr (.inr (.inl (1, 186, 48, 4, 5))), .inl (.aload_n 0), .inr (.inl (.int (-1), 0)), .inr (.inr (.inl (1, 187, 51, 4, 6))), .inl (.aload_n 0), .inr (.inl (.int 0, 0)), .inr (.inr (.inl (1, 188, 54, 4, 7)))]
theorem kc_L_init_44 : vm_chk m_L_init 44 k_L_init_44 = some 72 := by decide +kernel
theorem d_L_init_72 : vm_dec m_L_init 72 .return_ 1 = true := by decide +kernel
def k_L_add_0 : List vm_I := [.inl (.iload_n 3), .inr (.inl (.int 1, 0))]
theorem kc_L_add_0 : vm_chk m_L_add 0 k_L_add_0 = some 2 := by decide +kernel
theorem d_L_add_2 : vm_dec m_L_add 2 (.if_icmp .lt 9) 3 = true := by decide +kernel
def k_L_add_5 : List vm_I := [.inl (.iload_n 3), .inr (.inl (.int 8, 0))]
theorem kc_L_add_5 : vm_chk m_L_add 5 k_L_add_5 = some 8 := by decide +kernel
theorem d_L_add_8 : vm_dec m_L_add 8 (.if_icmp .le 6) 3 = true := by decide +kernel
def k_L_add_11 : List vm_I := [.inr (.inl (.int (-2), 0))]
theorem kc_L_add_11 : vm_chk m_L_add 11 k_L_add_11 = some 13 := by decide +kernel
theorem d_L_add_13 : vm_dec m_L_add 13 .ireturn 1 = true := by decide +kernel
def k_L_add_14 : List vm_I := [.inl (.aload_n 0), .inr (.inr (.inl (0, 181, 10, 4, 0))), .inl (.iload_n 3)]
theorem kc_L_add_14 : vm_chk m_L_add 14 k_L_add_14 = some 19 := by decide +kernel
theorem v_L_add_19 : vm_okV m_L_add m_T_hasRoomFor 19 57 1 (210, 211, 212, 43, 213) = true := by decide +kernel
theorem d_L_add_22 : vm_dec m_L_add 22 (.ifCond .ne 6) 3 = true := by decide +kernel
def k_L_add_25 : List vm_I := [.inr (.inl (.int (-3), 0))]
theorem kc_L_add_25 : vm_chk m_L_add 25 k_L_add_25 = some 27 := by decide +kernel
theorem d_L_add_27 : vm_dec m_L_add 27 .ireturn 1 = true := by decide +kernel
def k_L_add_28 : List vm_I := [.inr (.inl (.int 0, 0)), .inl (.istore 4)]
theorem kc_L_add_28 : vm_chk m_L_add 28 k_L_add_28 = some 31 := by decide +kernel
def k_L_add_31 : List vm_I := [.inl (.iload 4), .inl (.iload_n 3)]
theorem kc_L_add_31 : vm_chk m_L_add 31 k_L_add_31 = some 34 := by decide +kernel
theorem d_L_add_34 : vm_dec m_L_add 34 (.if_icmp .ge 24) 3 = true := by decide +kernel
def k_L_add_37 : List vm_I := [.inl (.aload_n 0), .inr (.inr (.inl (0, 181, 10, 4, 0))), .inl (.lload_n 1), .inr (.inl (.int 8, 0)), .inl (.iload 4), .inl .imul, .inl .lushr, .inl .l2i]
theorem kc_L_add_37 : vm_chk m_L_add 37 k_L_add_37 = some 49 := by decide +kernel
theorem v_L_add_49 : vm_okV m_L_add m_T_append 49 61 1 (214, 215, 216, 43, 217) = true := by decide +kernel
def k_L_add_52 : List vm_I := [.inr (.inr (.inr (4, 1)))]
theorem kc_L_add_52 : vm_chk m_L_add 52 k_L_add_52 = some 55 := by decide +kernel
theorem d_L_add_55 : vm_dec m_L_add 55 (.goto (-24)) 3 = true := by decide +kernel
def k_L_add_58 : List vm_I := [.inl (.aload_n 0), .inr (.inr (.inl (0, 181, 10, 4, 0)))]
theorem kc_L_add_58 : vm_chk m_L_add 58 k_L_add_58 = some 62 := by decide +kernel
theorem v_L_add_62 : vm_okV m_L_add m_T_size 62 64 0 (218, 219, 220, 43, 221) = true := by decide +kernel
theorem d_L_add_65 : vm_dec m_L_add 65 .ireturn 1 = true := by decide +kernel
def k_L_zeros_0 : List vm_I := [.inl (.iload_n 1), .inr (.inl (.int 1, 0))]
theorem kc_L_zeros_0 : vm_chk m_L_zeros 0 k_L_zeros_0 = some 2 := by decide +kernel
theorem d_L_zeros_2 : vm_dec m_L_zeros 2 (.if_icmp .lt 10) 3 = true := by decide +kernel
def k_L_zeros_5 : List vm_I := [.inl (.iload_n 1), .inr (.inl (.int 900, 0))]
theorem kc_L_zeros_5 : vm_chk m_L_zeros 5 k_L_zeros_5 = some 9 := by decide +kernel
theorem d_L_zeros_9 : vm_dec m_L_zeros 9 (.if_icmp .le 6) 3 = true := by decide +kernel
def k_L_zeros_12 : List vm_I := [.inr (.inl (.int (-2), 0))]
theorem kc_L_zeros_12 : vm_chk m_L_zeros 12 k_L_zeros_12 = some 14 := by decide +kernel
theorem d_L_zeros_14 : vm_dec m_L_zeros 14 .ireturn 1 = true := by decide +kernel
def k_L_zeros_15 : List vm_I := [.inl (.aload_n 0), .inr (.inr (.inl (0, 181, 10, 4, 0))), .inl (.iload_n 1)]
theorem kc_L_zeros_15 : vm_chk m_L_zeros 15 k_L_zeros_15 = some 20 := by decide +kernel
theorem v_L_zeros_20 : vm_okV m_L_zeros m_T_hasRoomFor 20 57 1 (210, 211, 212, 43, 213) = true := by decide +kernel
theorem d_L_zeros_23 : vm_dec m_L_zeros 23 (.ifCond .ne 6) 3 = true := by decide +kernel
def k_L_zeros_26 : List vm_I := [.inr (.inl (.int (-3), 0))]
theorem kc_L_zeros_26 : vm_chk m_L_zeros 26 k_L_zeros_26 = some 28 := by decide +kernel
theorem d_L_zeros_28 : vm_dec m_L_zeros 28 .ireturn 1 = true := by decide +kernel
def k_L_zeros_29 : List vm_I := [.inr (.inl (.int 0, 0)), .inl (.istore_n 2)]
theorem kc_L_zeros_29 : vm_chk m_L_zeros 29 k_L_zeros_29 = some 31 := by decide +kernel
def k_L_zeros_31 : List vm_I := [.inl (.iload_n 2), .inl (.iload_n 1)]
theorem kc_L_zeros_31 : vm_chk m_L_zeros 31 k_L_zeros_31 = some 33 := by decide +kernel
theorem d_L_zeros_33 : vm_dec m_L_zeros 33 (.if_icmp .ge 17) 3 = true := by decide +kernel
def k_L_zeros_36 : List vm_I := [.inl (.aload_n 0), .inr (.inr (.inl (0, 181, 10, 4, 0))), .inr (.inl (.int 0, 0))]
theorem kc_L_zeros_36 : vm_chk m_L_zeros 36 k_L_zeros_36 = some 41 := by decide +kernel
theorem v_L_zeros_41 : vm_okV m_L_zeros m_T_append 41 61 1 (214, 215, 216, 43, 217) = true := by decide +kernel
def k_L_zeros_44 : List vm_I := [.inr (.inr (.inr (2, 1)))]
theorem kc_L_zeros_44 : vm_chk m_L_zeros 44 k_L_zeros_44 = some 47 := by decide +kernel
theorem d_L_zeros_47 : vm_dec m_L_zeros 47 (.goto (-16)) 3 = true := by decide +kernel
def k_L_zeros_50 : List vm_I := [.inl (.aload_n 0), .inr (.inr (.inl (0, 181, 10, 4, 0)))]
theorem kc_L_zeros_50 : vm_chk m_L_zeros 50 k_L_zeros_50 = some 54 := by decide +kernel
theorem v_L_zeros_54 : vm_okV m_L_zeros m_T_size 54 64 0 (218, 219, 220, 43, 221) = true := by decide +kernel
theorem d_L_zeros_57 : vm_dec m_L_zeros 57 .ireturn 1 = true := by decide +kernel
def k_L_poke_0 : List vm_I := [.inl (.iload_n 2)]
theorem kc_L_poke_0 : vm_chk m_L_poke 0 k_L_poke_0 = some 1 := by decide +kernel
theorem v_L_poke_1 : vm_okS m_L_poke m_L_isSize 1 68 1 (230, 231, 42, 232) = true := by decide +kernel
theorem d_L_poke_4 : vm_dec m_L_poke 4 (.ifCond .eq 17) 3 = true := by decide +kernel
def k_L_poke_7 : List vm_I := [.inl (.aload_n 0), .inr (.inr (.inl (0, 181, 10, 4, 0))), .inl (.iload_n 1), .inl .i2l, .inl (.iload_n 2), .inl .i2l]
theorem kc_L_poke_7 : vm_chk m_L_poke 7 k_L_poke_7 = some 15 := by decide +kernel
theorem v_L_poke_15 : vm_okV m_L_poke m_T_has 15 71 2 (233, 234, 235, 43, 236) = true := by decide +kernel
theorem d_L_poke_18 : vm_dec m_L_poke 18 (.ifCond .ne 6) 3 = true := by decide +kernel
def k_L_poke_21 : List vm_I := [.inr (.inl (.int (-2), 0))]
theorem kc_L_poke_21 : vm_chk m_L_poke 21 k_L_poke_21 = some 23 := by decide +kernel
theorem d_L_poke_23 : vm_dec m_L_poke 23 .ireturn 1 = true := by decide +kernel
def k_L_poke_24 : List vm_I := [.inr (.inl (.int 0, 0)), .inl (.istore 4)]
theorem kc_L_poke_24 : vm_chk m_L_poke 24 k_L_poke_24 = some 27 := by decide +kernel
def k_L_poke_27 : List vm_I := [.inl (.iload 4), .inl (.iload_n 2)]
theorem kc_L_poke_27 : vm_chk m_L_poke 27 k_L_poke_27 = some 30 := by decide +kernel
theorem d_L_poke_30 : vm_dec m_L_poke 30 (.if_icmp .ge 27) 3 = true := by decide +kernel
def k_L_poke_33 : List vm_I := [.inl (.aload_n 0), .inr (.inr (.inl (0, 181, 10, 4, 0))), .inl (.iload_n 1), .inl (.iload 4), .inl .iadd, .inl (.iload_n 3), .inr (.inl (.int 8, 0)), .inl (.iload 4), .inl .imul, .inl .iushr]
theorem kc_L_poke_33 : vm_chk m_L_poke 33 k_L_poke_33 = some 48 := by decide +kernel
theorem v_L_poke_48 : vm_okV m_L_poke m_T_setByte 48 75 2 (237, 238, 239, 43, 240) = true := by decide +kernel
def k_L_poke_51 : List vm_I := [.inr (.inr (.inr (4, 1)))]
theorem kc_L_poke_51 : vm_chk m_L_poke 51 k_L_poke_51 = some 54 := by decide +kernel
theorem d_L_poke_54 : vm_dec m_L_poke 54 (.goto (-27)) 3 = true := by decide +kernel
def k_L_poke_57 : List vm_I := [.inr (.inl (.int 0, 0))]
theorem kc_L_poke_57 : vm_chk m_L_poke 57 k_L_poke_57 = some 58 := by decide +kernel
theorem d_L_poke_58 : vm_dec m_L_poke 58 .ireturn 1 = true := by decide +kernel
def k_L_peek_0 : List vm_I := [.inl (.aload_n 0), .inr (.inr (.inl (0, 181, 10, 4, 0))), .inl (.iload_n 1), .inl .i2l, .inr (.inl (.long 1, 0))]
theorem kc_L_peek_0 : vm_chk m_L_peek 0 k_L_peek_0 = some 7 := by decide +kernel
theorem v_L_peek_7 : vm_okV m_L_peek m_T_has 7 71 2 (233, 234, 235, 43, 236) = true := by decide +kernel
theorem d_L_peek_10 : vm_dec m_L_peek 10 (.ifCond .eq 14) 3 = true := by decide +kernel
def k_L_peek_13 : List vm_I := [.inl (.aload_n 0), .inr (.inr (.inl (0, 181, 10, 4, 0))), .inl (.iload_n 1)]
theorem kc_L_peek_13 : vm_chk m_L_peek 13 k_L_peek_13 = some 18 := by decide +kernel
theorem v_L_peek_18 : vm_okV m_L_peek m_T_byteAt 18 79 1 (245, 246, 247, 43, 248) = true := by decide +kernel
theorem d_L_peek_21 : vm_dec m_L_peek 21 (.goto 4) 3 = true := by decide +kernel
def k_L_peek_24 : List vm_I := [.inr (.inl (.int (-1), 0))]
theorem kc_L_peek_24 : vm_chk m_L_peek 24 k_L_peek_24 = some 25 := by decide +kernel
theorem d_L_peek_25 : vm_dec m_L_peek 25 .ireturn 1 = true := by decide +kernel
def k_L_cut_0 : List vm_I := [.inl (.aload_n 0), .inr (.inr (.inl (0, 181, 10, 4, 0)))]
theorem kc_L_cut_0 : vm_chk m_L_cut 0 k_L_cut_0 = some 4 := by decide +kernel
theorem v_L_cut_4 : vm_okV m_L_cut m_T_size 4 64 0 (218, 219, 220, 43, 221) = true := by decide +kernel
def k_L_cut_7 : List vm_I := [.inl (.istore_n 2), .inl (.iload_n 1)]
theorem kc_L_cut_7 : vm_chk m_L_cut 7 k_L_cut_7 = some 9 := by decide +kernel
theorem d_L_cut_9 : vm_dec m_L_cut 9 (.ifCond .lt 8) 3 = true := by decide +kernel
def k_L_cut_12 : List vm_I := [.inl (.iload_n 1), .inl (.iload_n 2)]
theorem kc_L_cut_12 : vm_chk m_L_cut 12 k_L_cut_12 = some 14 := by decide +kernel
theorem d_L_cut_14 : vm_dec m_L_cut 14 (.if_icmp .le 6) 3 = true := by decide +kernel
def k_L_cut_17 : List vm_I := [.inr (.inl (.int (-2), 0))]
theorem kc_L_cut_17 : vm_chk m_L_cut 17 k_L_cut_17 = some 19 := by decide +kernel
theorem d_L_cut_19 : vm_dec m_L_cut 19 .ireturn 1 = true := by decide +kernel
def k_L_cut_20 : List vm_I := [.inl (.aload_n 0), .inr (.inr (.inl (0, 181, 10, 4, 0))), .inl (.iload_n 1)]
theorem kc_L_cut_20 : vm_chk m_L_cut 20 k_L_cut_20 = some 25 := by decide +kernel
theorem v_L_cut_25 : vm_okV m_L_cut m_T_shorten 25 83 1 (253, 254, 255, 43, 256) = true := by decide +kernel
def k_L_cut_28 : List vm_I := [.inl (.iload_n 2), .inl (.iload_n 1), .inl .isub]
theorem kc_L_cut_28 : vm_chk m_L_cut 28 k_L_cut_28 = some 31 := by decide +kernel
theorem d_L_cut_31 : vm_dec m_L_cut 31 .ireturn 1 = true := by decide +kernel
def k_L_load_0 : List vm_I := [.inl (.iload_n 1)]
theorem kc_L_load_0 : vm_chk m_L_load 0 k_L_load_0 = some 1 := by decide +kernel
theorem d_L_load_1 : vm_dec m_L_load 1 (.ifCond .lt 18) 3 = true := by decide +kernel
def k_L_load_4 : List vm_I := [.inl (.iload_n 1), .inr (.inl (.int 16128, 0))]
theorem kc_L_load_4 : vm_chk m_L_load 4 k_L_load_4 = some 8 := by decide +kernel
theorem d_L_load_8 : vm_dec m_L_load 8 (.if_icmp .gt 11) 3 = true := by decide +kernel
def k_L_load_11 : List vm_I := [.inl (.iload_n 1), .inr (.inl (.int 256, 0)), .inl .irem]
theorem kc_L_load_11 : vm_chk m_L_load 11 k_L_load_11 = some 16 := by decide +kernel
theorem d_L_load_16 : vm_dec m_L_load 16 (.ifCond .eq 6) 3 = true := by decide +kernel
def k_L_load_19 : List vm_I := [.inr (.inl (.int (-2), 0))]
theorem kc_L_load_19 : vm_chk m_L_load 19 k_L_load_19 = some 21 := by decide +kernel
theorem d_L_load_21 : vm_dec m_L_load 21 .ireturn 1 = true := by decide +kernel
def k_L_load_22 : List vm_I := [.inl (.aload_n 0), .inr (.inr (.inl (0, 183, 37, 4, 2))), .inl (.aload_n 0), .inr (.inr (.inl (0, 181, 10, 4, 0))), .inl (.aload_n 0), .inr (.inr (.inl (0, 182, 30, 4, 1))), .inl (.iload_n 1)]
theorem kc_L_load_22 : vm_chk m_L_load 22 k_L_load_22 = some 35 := by decide +kernel
theorem v_L_load_35 : vm_okV m_L_load m_I_bring 35 86 3 (261, 262, 263, 46, 264) = true := by decide +kernel
def k_L_load_38 : List vm_I := [.inl (.istore_n 2), .inl (.iload_n 2)]
theorem kc_L_load_38 : vm_chk m_L_load 38 k_L_load_38 = some 40 := by decide +kernel
theorem d_L_load_40 : vm_dec m_L_load 40 (.ifCond .eq 19) 3 = true := by decide +kernel
def k_L_load_43 : List vm_I := [.inl (.aload_n 0), .inl (.aload_n 0), .inr (.inr (.inl (0, 183, 37, 4, 2)))]
theorem kc_L_load_43 : vm_chk m_L_load 43 k_L_load_43 = some 48 := by decide +kernel
theorem v_L_load_48 : vm_okV m_L_load m_I_faultPlace 48 90 0 (459, 460, 461, 46, 462) = true := by decide +kernel
def k_L_load_51 : List vm_I := [.inr (.inr (.inl (1, 184, 41, 4, 3))), .inr (.inl (.int (-10), 0)), .inl (.iload_n 2), .inl .isub]
theorem kc_L_load_51 : vm_chk m_L_load 51 k_L_load_51 = some 58 := by decide +kernel
theorem d_L_load_58 : vm_dec m_L_load 58 .ireturn 1 = true := by decide +kernel
def k_L_load_59 : List vm_I := [.inl (.aload_n 0), .inr (.inl (.int (-1), 0)), .inr (.inr (.inl (1, 184, 41, 4, 3))), .inl (.aload_n 0), .inl (.aload_n 0), .inr (.inr (.inl (0, 183, 37, 4, 2)))]
theorem kc_L_load_59 : vm_chk m_L_load 59 k_L_load_59 = some 69 := by decide +kernel
theorem v_L_load_69 : vm_okV m_L_load m_I_entry 69 92 0 (463, 464, 465, 46, 466) = true := by decide +kernel
def k_L_load_72 : List vm_I := [.inr (.inr (.inl (1, 185, 45, 4, 4))), .inl (.aload_n 0), .inl (.aload_n 0), .inr (.inr (.inl (0, 183, 37, 4, 2)))]
theorem kc_L_load_72 : vm_chk m_L_load 72 k_L_load_72 = some 80 := by decide +kernel
theorem v_L_load_80 : vm_okV m_L_load m_I_pagesWanted 80 95 0 (467, 468, 469, 46, 470) = true := by decide +kernel
def k_L_load_83 : List vm_I := [.inr (.inr (.inl (1, 186, 48, 4, 5))), .inl (.aload_n 0), .inl (.aload_n 0), .inr (.inr (.inl (0, 183, 37, 4, 2)))]
theorem kc_L_load_83 : vm_chk m_L_load 83 k_L_load_83 = some 91 := by decide +kernel
theorem v_L_load_91 : vm_okV m_L_load m_I_base 91 98 0 (471, 472, 473, 46, 474) = true := by decide +kernel
def k_L_load_94 : List vm_I := [.inr (.inr (.inl (1, 187, 51, 4, 6))), .inl (.aload_n 0), .inl .dup, .inr (.inr (.inl (0, 188, 54, 4, 7))), .inr (.inl (.int 1, 0)), .inl .iadd, .inr (.inr (.inl (1, 188, 54, 4, 7))), .inl (.aload_n 0), .inr (.inr (.inl (0, 183, 37, 4, 2)))]
theorem kc_L_load_94 : vm_chk m_L_load 94 k_L_load_94 = some 111 := by decide +kernel
theorem v_L_load_111 : vm_okV m_L_load m_I_relocationCount 111 101 0 (475, 476, 477, 46, 478) = true := by decide +kernel
theorem d_L_load_114 : vm_dec m_L_load 114 .ireturn 1 = true := by decide +kernel
def k_L_told_0 : List vm_I := [.inl (.iload_n 1)]
theorem kc_L_told_0 : vm_chk m_L_told 0 k_L_told_0 = some 1 := by decide +kernel
theorem d_L_told_1 : vm_dec m_L_told 1 (.tableswitch 51 0 3 #[31, 36, 41, 46]) 31 = true := by decide +kernel
def k_L_told_32 : List vm_I := [.inl (.aload_n 0), .inr (.inr (.inl (0, 184, 41, 4, 3)))]
theorem kc_L_told_32 : vm_chk m_L_told 32 k_L_told_32 = some 36 := by decide +kernel
theorem d_L_told_36 : vm_dec m_L_told 36 .ireturn 1 = true := by decide +kernel
def k_L_told_37 : List vm_I := [.inl (.aload_n 0), .inr (.inr (.inl (0, 185, 45, 4, 4)))]
theorem kc_L_told_37 : vm_chk m_L_told 37 k_L_told_37 = some 41 := by decide +kernel
theorem d_L_told_41 : vm_dec m_L_told 41 .ireturn 1 = true := by decide +kernel
def k_L_told_42 : List vm_I := [.inl (.aload_n 0), .inr (.inr (.inl (0, 186, 48, 4, 5)))]
theorem kc_L_told_42 : vm_chk m_L_told 42 k_L_told_42 = some 46 := by decide +kernel
theorem d_L_told_46 : vm_dec m_L_told 46 .ireturn 1 = true := by decide +kernel
def k_L_told_47 : List vm_I := [.inl (.aload_n 0), .inr (.inr (.inl (0, 187, 51, 4, 6)))]
theorem kc_L_told_47 : vm_chk m_L_told 47 k_L_told_47 = some 51 := by decide +kernel
theorem d_L_told_51 : vm_dec m_L_told 51 .ireturn 1 = true := by decide +kernel
def k_L_told_52 : List vm_I := [.inr (.inl (.int (-2), 0))]
theorem kc_L_told_52 : vm_chk m_L_told 52 k_L_told_52 = some 54 := by decide +kernel
theorem d_L_told_54 : vm_dec m_L_told 54 .ireturn 1 = true := by decide +kernel
def k_L_stack_0 : List vm_I := [.inl (.iload_n 1), .inr (.inl (.int 1, 0))]
theorem kc_L_stack_0 : vm_chk m_L_stack 0 k_L_stack_0 = some 2 := by decide +kernel
theorem d_L_stack_2 : vm_dec m_L_stack 2 (.if_icmp .lt 9) 3 = true := by decide +kernel
def k_L_stack_5 : List vm_I := [.inl (.iload_n 1), .inr (.inl (.int 16, 0))]
theorem kc_L_stack_5 : vm_chk m_L_stack 5 k_L_stack_5 = some 8 := by decide +kernel
theorem d_L_stack_8 : vm_dec m_L_stack 8 (.if_icmp .le 6) 3 = true := by decide +kernel
def k_L_stack_11 : List vm_I := [.inr (.inl (.int (-2), 0))]
theorem kc_L_stack_11 : vm_chk m_L_stack 11 k_L_stack_11 = some 13 := by decide +kernel
theorem d_L_stack_13 : vm_dec m_L_stack 13 .ireturn 1 = true := by decide +kernel
def k_L_stack_14 : List vm_I := [.inr (.inl (.int 64, 0)), .inl (.iload_n 1), .inl .isub, .inl (.istore_n 2), .inl (.aload_n 0), .inr (.inr (.inl (0, 182, 30, 4, 1))), .inl (.iload_n 2), .inr (.inl (.int 63, 0))]
theorem kc_L_stack_14 : vm_chk m_L_stack 14 k_L_stack_14 = some 26 := by decide +kernel
theorem v_L_stack_26 : vm_okV m_L_stack m_P_anyMapped 26 104 2 (487, 332, 333, 44, 334) = true := by decide +kernel
theorem d_L_stack_29 : vm_dec m_L_stack 29 (.ifCond .ne 14) 3 = true := by decide +kernel
def k_L_stack_32 : List vm_I := [.inl (.iload_n 1), .inl (.aload_n 0), .inr (.inr (.inl (0, 182, 30, 4, 1)))]
theorem kc_L_stack_32 : vm_chk m_L_stack 32 k_L_stack_32 = some 37 := by decide +kernel
theorem v_L_stack_37 : vm_okV m_L_stack m_P_freeFrames 37 108 0 (488, 357, 358, 44, 359) = true := by decide +kernel
theorem d_L_stack_40 : vm_dec m_L_stack 40 (.if_icmp .le 6) 3 = true := by decide +kernel
def k_L_stack_43 : List vm_I := [.inr (.inl (.int (-3), 0))]
theorem kc_L_stack_43 : vm_chk m_L_stack 43 k_L_stack_43 = some 45 := by decide +kernel
theorem d_L_stack_45 : vm_dec m_L_stack 45 .ireturn 1 = true := by decide +kernel
def k_L_stack_46 : List vm_I := [.inl (.aload_n 0)]
theorem kc_L_stack_46 : vm_chk m_L_stack 46 k_L_stack_46 = some 47 := by decide +kernel
theorem v_L_stack_47 : vm_okV m_L_stack m_L_stackPointer 47 111 0 (489, 491, 18, 42, 492) = true := by decide +kernel
def k_L_stack_50 : List vm_I := [.inl (.istore_n 3), .inl (.iload_n 3), .inl (.iload_n 2), .inr (.inl (.int 256, 0)), .inl .imul]
theorem kc_L_stack_50 : vm_chk m_L_stack 50 k_L_stack_50 = some 57 := by decide +kernel
theorem d_L_stack_57 : vm_dec m_L_stack 57 (.if_icmp .ge 6) 3 = true := by decide +kernel
def k_L_stack_60 : List vm_I := [.inr (.inl (.int (-3), 0))]
theorem kc_L_stack_60 : vm_chk m_L_stack 60 k_L_stack_60 = some 62 := by decide +kernel
theorem d_L_stack_62 : vm_dec m_L_stack 62 .ireturn 1 = true := by decide +kernel
def k_L_stack_63 : List vm_I := [.inl (.aload_n 0), .inr (.inr (.inl (0, 182, 30, 4, 1))), .inl (.iload_n 2), .inr (.inl (.int 63, 0)), .inr (.inl (.int 6, 0))]
theorem kc_L_stack_63 : vm_chk m_L_stack 63 k_L_stack_63 = some 72 := by decide +kernel
theorem v_L_stack_72 : vm_okV m_L_stack m_P_mapAll 72 114 3 (508, 401, 402, 44, 403) = true := by decide +kernel
def k_L_stack_75 : List vm_I := [.inl (.aload_n 0), .inl (.iload_n 3)]
theorem kc_L_stack_75 : vm_chk m_L_stack 75 k_L_stack_75 = some 77 := by decide +kernel
theorem v_L_stack_77 : vm_okV m_L_stack m_L_layArguments 77 118 1 (509, 511, 21, 42, 512) = true := by decide +kernel
def k_L_stack_80 : List vm_I := [.inl (.aload_n 0), .inr (.inr (.inl (0, 181, 10, 4, 0))), .inr (.inl (.int 0, 0))]
theorem kc_L_stack_80 : vm_chk m_L_stack 80 k_L_stack_80 = some 85 := by decide +kernel
theorem v_L_stack_85 : vm_okV m_L_stack m_T_shorten 85 83 1 (253, 254, 255, 43, 256) = true := by decide +kernel
def k_L_stack_88 : List vm_I := [.inl (.iload_n 3)]
theorem kc_L_stack_88 : vm_chk m_L_stack 88 k_L_stack_88 = some 89 := by decide +kernel
theorem d_L_stack_89 : vm_dec m_L_stack 89 .ireturn 1 = true := by decide +kernel
def k_L_read_0 : List vm_I := [.inl (.aload_n 0), .inr (.inr (.inl (0, 182, 30, 4, 1))), .inl (.iload_n 1), .inl (.iload_n 2), .inr (.inl (.int 4, 0))]
theorem kc_L_read_0 : vm_chk m_L_read 0 k_L_read_0 = some 7 := by decide +kernel
theorem v_L_read_7 : vm_okV m_L_read m_P_refusal 7 121 3 (519, 520, 521, 44, 522) = true := by decide +kernel
def k_L_read_10 : List vm_I := [.inl (.istore_n 3), .inl (.iload_n 3)]
theorem kc_L_read_10 : vm_chk m_L_read 10 k_L_read_10 = some 12 := by decide +kernel
theorem d_L_read_12 : vm_dec m_L_read 12 (.ifCond .ne 15) 3 = true := by decide +kernel
def k_L_read_15 : List vm_I := [.inl (.aload_n 0), .inr (.inr (.inl (0, 182, 30, 4, 1))), .inl (.iload_n 1), .inl (.iload_n 2)]
theorem kc_L_read_15 : vm_chk m_L_read 15 k_L_read_15 = some 21 := by decide +kernel
theorem v_L_read_21 : vm_okV m_L_read m_P_number 21 125 2 (527, 435, 436, 44, 437) = true := by decide +kernel
theorem d_L_read_24 : vm_dec m_L_read 24 (.goto 5) 3 = true := by decide +kernel
def k_L_read_27 : List vm_I := [.inl (.iload_n 3), .inl .i2l]
theorem kc_L_read_27 : vm_chk m_L_read 27 k_L_read_27 = some 29 := by decide +kernel
theorem d_L_read_29 : vm_dec m_L_read 29 .lreturn 1 = true := by decide +kernel
def k_L_write_0 : List vm_I := [.inl (.aload_n 0), .inr (.inr (.inl (0, 182, 30, 4, 1))), .inl (.iload_n 1), .inl (.iload_n 2), .inr (.inl (.int 2, 0))]
theorem kc_L_write_0 : vm_chk m_L_write 0 k_L_write_0 = some 7 := by decide +kernel
theorem v_L_write_7 : vm_okV m_L_write m_P_refusal 7 121 3 (519, 520, 521, 44, 522) = true := by decide +kernel
def k_L_write_10 : List vm_I := [.inl (.istore 4), .inl (.iload 4)]
theorem kc_L_write_10 : vm_chk m_L_write 10 k_L_write_10 = some 14 := by decide +kernel
theorem d_L_write_14 : vm_dec m_L_write 14 (.ifCond .ne 13) 3 = true := by decide +kernel
def k_L_write_17 : List vm_I := [.inl (.aload_n 0), .inr (.inr (.inl (0, 182, 30, 4, 1))), .inl (.iload_n 1), .inl (.iload_n 2), .inl (.iload_n 3)]
theorem kc_L_write_17 : vm_chk m_L_write 17 k_L_write_17 = some 24 := by decide +kernel
theorem v_L_write_24 : vm_okV m_L_write m_P_setNumber 24 129 3 (513, 448, 449, 44, 450) = true := by decide +kernel
def k_L_write_27 : List vm_I := [.inl (.iload 4)]
theorem kc_L_write_27 : vm_chk m_L_write 27 k_L_write_27 = some 29 := by decide +kernel
theorem d_L_write_29 : vm_dec m_L_write 29 .ireturn 1 = true := by decide +kernel
def k_L_fetch_0 : List vm_I := [.inl (.aload_n 0), .inr (.inr (.inl (0, 182, 30, 4, 1))), .inl (.iload_n 1), .inr (.inl (.int 4, 0)), .inr (.inl (.int 1, 0))]
theorem kc_L_fetch_0 : vm_chk m_L_fetch 0 k_L_fetch_0 = some 7 := by decide +kernel
theorem v_L_fetch_7 : vm_okV m_L_fetch m_P_refusal 7 121 3 (519, 520, 521, 44, 522) = true := by decide +kernel
def k_L_fetch_10 : List vm_I := [.inl (.istore_n 2), .inl (.iload_n 2)]
theorem kc_L_fetch_10 : vm_chk m_L_fetch 10 k_L_fetch_10 = some 12 := by decide +kernel
theorem d_L_fetch_12 : vm_dec m_L_fetch 12 (.ifCond .ne 15) 3 = true := by decide +kernel
def k_L_fetch_15 : List vm_I := [.inl (.aload_n 0), .inr (.inr (.inl (0, 182, 30, 4, 1))), .inl (.iload_n 1), .inr (.inl (.int 4, 0))]
theorem kc_L_fetch_15 : vm_chk m_L_fetch 15 k_L_fetch_15 = some 21 := by decide +kernel
theorem v_L_fetch_21 : vm_okV m_L_fetch m_P_number 21 125 2 (527, 435, 436, 44, 437) = true := by decide +kernel
theorem d_L_fetch_24 : vm_dec m_L_fetch 24 (.goto 5) 3 = true := by decide +kernel
def k_L_fetch_27 : List vm_I := [.inl (.iload_n 2), .inl .i2l]
theorem kc_L_fetch_27 : vm_chk m_L_fetch 27 k_L_fetch_27 = some 29 := by decide +kernel
theorem d_L_fetch_29 : vm_dec m_L_fetch 29 .lreturn 1 = true := by decide +kernel
def k_L_protect_0 : List vm_I := [.inl (.iload_n 1)]
theorem kc_L_protect_0 : vm_chk m_L_protect 0 k_L_protect_0 = some 1 := by decide +kernel
theorem v_L_protect_1 : vm_okS m_L_protect m_L_isPage 1 132 1 (540, 340, 42, 341) = true := by decide +kernel
theorem d_L_protect_4 : vm_dec m_L_protect 4 (.ifCond .eq 13) 3 = true := by decide +kernel
def k_L_protect_7 : List vm_I := [.inl (.iload_n 2)]
theorem kc_L_protect_7 : vm_chk m_L_protect 7 k_L_protect_7 = some 8 := by decide +kernel
theorem d_L_protect_8 : vm_dec m_L_protect 8 (.ifCond .lt 9) 3 = true := by decide +kernel
def k_L_protect_11 : List vm_I := [.inl (.iload_n 2), .inr (.inl (.int 7, 0))]
theorem kc_L_protect_11 : vm_chk m_L_protect 11 k_L_protect_11 = some 14 := by decide +kernel
theorem d_L_protect_14 : vm_dec m_L_protect 14 (.if_icmp .le 6) 3 = true := by decide +kernel
def k_L_protect_17 : List vm_I := [.inr (.inl (.int (-2), 0))]
theorem kc_L_protect_17 : vm_chk m_L_protect 17 k_L_protect_17 = some 19 := by decide +kernel
theorem d_L_protect_19 : vm_dec m_L_protect 19 .ireturn 1 = true := by decide +kernel
def k_L_protect_20 : List vm_I := [.inl (.aload_n 0), .inr (.inr (.inl (0, 182, 30, 4, 1))), .inl (.iload_n 1)]
theorem kc_L_protect_20 : vm_chk m_L_protect 20 k_L_protect_20 = some 25 := by decide +kernel
theorem v_L_protect_25 : vm_okV m_L_protect m_P_rightsOf 25 135 1 (541, 336, 337, 44, 338) = true := by decide +kernel
def k_L_protect_28 : List vm_I := [.inl (.istore_n 3), .inl (.iload_n 3), .inr (.inl (.int (-1), 0))]
theorem kc_L_protect_28 : vm_chk m_L_protect 28 k_L_protect_28 = some 31 := by decide +kernel
theorem d_L_protect_31 : vm_dec m_L_protect 31 (.if_icmp .ne 6) 3 = true := by decide +kernel
def k_L_protect_34 : List vm_I := [.inr (.inl (.int (-3), 0))]
theorem kc_L_protect_34 : vm_chk m_L_protect 34 k_L_protect_34 = some 36 := by decide +kernel
theorem d_L_protect_36 : vm_dec m_L_protect 36 .ireturn 1 = true := by decide +kernel
def k_L_protect_37 : List vm_I := [.inl (.aload_n 0), .inr (.inr (.inl (0, 182, 30, 4, 1))), .inl (.iload_n 1), .inl (.iload_n 2)]
theorem kc_L_protect_37 : vm_chk m_L_protect 37 k_L_protect_37 = some 43 := by decide +kernel
theorem v_L_protect_43 : vm_okV m_L_protect m_P_setRights 43 138 2 (542, 405, 406, 44, 407) = true := by decide +kernel
def k_L_protect_46 : List vm_I := [.inl (.iload_n 3)]
theorem kc_L_protect_46 : vm_chk m_L_protect 46 k_L_protect_46 = some 47 := by decide +kernel
theorem d_L_protect_47 : vm_dec m_L_protect 47 .ireturn 1 = true := by decide +kernel
def k_L_unmap_0 : List vm_I := [.inl (.iload_n 2), .inr (.inl (.int 1, 0))]
theorem kc_L_unmap_0 : vm_chk m_L_unmap 0 k_L_unmap_0 = some 2 := by decide +kernel
theorem d_L_unmap_2 : vm_dec m_L_unmap 2 (.if_icmp .lt 11) 3 = true := by decide +kernel
def k_L_unmap_5 : List vm_I := [.inl (.iload_n 1), .inl (.iload_n 2)]
theorem kc_L_unmap_5 : vm_chk m_L_unmap 5 k_L_unmap_5 = some 7 := by decide +kernel
theorem v_L_unmap_7 : vm_okS m_L_unmap m_L_arePages 7 141 2 (547, 548, 42, 549) = true := by decide +kernel
theorem d_L_unmap_10 : vm_dec m_L_unmap 10 (.ifCond .ne 6) 3 = true := by decide +kernel
def k_L_unmap_13 : List vm_I := [.inr (.inl (.int (-2), 0))]
theorem kc_L_unmap_13 : vm_chk m_L_unmap 13 k_L_unmap_13 = some 15 := by decide +kernel
theorem d_L_unmap_15 : vm_dec m_L_unmap 15 .ireturn 1 = true := by decide +kernel
def k_L_unmap_16 : List vm_I := [.inl (.aload_n 0), .inr (.inr (.inl (0, 182, 30, 4, 1)))]
theorem kc_L_unmap_16 : vm_chk m_L_unmap 16 k_L_unmap_16 = some 20 := by decide +kernel
theorem v_L_unmap_20 : vm_okV m_L_unmap m_P_mappedPages 20 144 0 (550, 551, 552, 44, 553) = true := by decide +kernel
def k_L_unmap_23 : List vm_I := [.inl (.istore_n 3), .inl (.aload_n 0), .inr (.inr (.inl (0, 182, 30, 4, 1))), .inl (.iload_n 1), .inl (.iload_n 1), .inl (.iload_n 2), .inl .iadd, .inr (.inl (.int 1, 0)), .inl .isub]
theorem kc_L_unmap_23 : vm_chk m_L_unmap 23 k_L_unmap_23 = some 34 := by decide +kernel
theorem v_L_unmap_34 : vm_okV m_L_unmap m_P_releaseAll 34 147 2 (554, 456, 457, 44, 458) = true := by decide +kernel
def k_L_unmap_37 : List vm_I := [.inl (.iload_n 3), .inl (.aload_n 0), .inr (.inr (.inl (0, 182, 30, 4, 1)))]
theorem kc_L_unmap_37 : vm_chk m_L_unmap 37 k_L_unmap_37 = some 42 := by decide +kernel
theorem v_L_unmap_42 : vm_okV m_L_unmap m_P_mappedPages 42 144 0 (550, 551, 552, 44, 553) = true := by decide +kernel
def k_L_unmap_45 : List vm_I := [.inl .isub]
theorem kc_L_unmap_45 : vm_chk m_L_unmap 45 k_L_unmap_45 = some 46 := by decide +kernel
theorem d_L_unmap_46 : vm_dec m_L_unmap 46 .ireturn 1 = true := by decide +kernel
def k_L_rights_0 : List vm_I := [.inl (.iload_n 1)]
theorem kc_L_rights_0 : vm_chk m_L_rights 0 k_L_rights_0 = some 1 := by decide +kernel
theorem v_L_rights_1 : vm_okS m_L_rights m_L_isPage 1 132 1 (540, 340, 42, 341) = true := by decide +kernel
theorem d_L_rights_4 : vm_dec m_L_rights 4 (.ifCond .eq 14) 3 = true := by decide +kernel
def k_L_rights_7 : List vm_I := [.inl (.aload_n 0), .inr (.inr (.inl (0, 182, 30, 4, 1))), .inl (.iload_n 1)]
theorem kc_L_rights_7 : vm_chk m_L_rights 7 k_L_rights_7 = some 12 := by decide +kernel
theorem v_L_rights_12 : vm_okV m_L_rights m_P_rightsOf 12 135 1 (541, 336, 337, 44, 338) = true := by decide +kernel
theorem d_L_rights_15 : vm_dec m_L_rights 15 (.goto 5) 3 = true := by decide +kernel
def k_L_rights_18 : List vm_I := [.inr (.inl (.int (-2), 0))]
theorem kc_L_rights_18 : vm_chk m_L_rights 18 k_L_rights_18 = some 20 := by decide +kernel
theorem d_L_rights_20 : vm_dec m_L_rights 20 .ireturn 1 = true := by decide +kernel
def k_L_count_0 : List vm_I := [.inl (.iload_n 1)]
theorem kc_L_count_0 : vm_chk m_L_count 0 k_L_count_0 = some 1 := by decide +kernel
theorem d_L_count_1 : vm_dec m_L_count 1 (.tableswitch 99 0 6 #[43, 51, 60, 69, 78, 86, 91]) 43 = true := by decide +kernel
def k_L_count_44 : List vm_I := [.inl (.aload_n 0), .inr (.inr (.inl (0, 182, 30, 4, 1)))]
theorem kc_L_count_44 : vm_chk m_L_count 44 k_L_count_44 = some 48 := by decide +kernel
theorem v_L_count_48 : vm_okV m_L_count m_P_mappedPages 48 144 0 (550, 551, 552, 44, 553) = true := by decide +kernel
theorem d_L_count_51 : vm_dec m_L_count 51 .ireturn 1 = true := by decide +kernel
def k_L_count_52 : List vm_I := [.inl (.aload_n 0), .inr (.inr (.inl (0, 182, 30, 4, 1))), .inr (.inl (.int 1, 0))]
theorem kc_L_count_52 : vm_chk m_L_count 52 k_L_count_52 = some 57 := by decide +kernel
theorem v_L_count_57 : vm_okV m_L_count m_P_pagesWith 57 150 1 (563, 564, 565, 44, 566) = true := by decide +kernel
theorem d_L_count_60 : vm_dec m_L_count 60 .ireturn 1 = true := by decide +kernel
def k_L_count_61 : List vm_I := [.inl (.aload_n 0), .inr (.inr (.inl (0, 182, 30, 4, 1))), .inr (.inl (.int 2, 0))]
theorem kc_L_count_61 : vm_chk m_L_count 61 k_L_count_61 = some 66 := by decide +kernel
theorem v_L_count_66 : vm_okV m_L_count m_P_pagesWith 66 150 1 (563, 564, 565, 44, 566) = true := by decide +kernel
theorem d_L_count_69 : vm_dec m_L_count 69 .ireturn 1 = true := by decide +kernel
def k_L_count_70 : List vm_I := [.inl (.aload_n 0), .inr (.inr (.inl (0, 182, 30, 4, 1))), .inr (.inl (.int 4, 0))]
theorem kc_L_count_70 : vm_chk m_L_count 70 k_L_count_70 = some 75 := by decide +kernel
theorem v_L_count_75 : vm_okV m_L_count m_P_pagesWith 75 150 1 (563, 564, 565, 44, 566) = true := by decide +kernel
theorem d_L_count_78 : vm_dec m_L_count 78 .ireturn 1 = true := by decide +kernel
def k_L_count_79 : List vm_I := [.inl (.aload_n 0), .inr (.inr (.inl (0, 181, 10, 4, 0)))]
theorem kc_L_count_79 : vm_chk m_L_count 79 k_L_count_79 = some 83 := by decide +kernel
theorem v_L_count_83 : vm_okV m_L_count m_T_size 83 64 0 (218, 219, 220, 43, 221) = true := by decide +kernel
theorem d_L_count_86 : vm_dec m_L_count 86 .ireturn 1 = true := by decide +kernel
def k_L_count_87 : List vm_I := [.inl (.aload_n 0), .inr (.inr (.inl (0, 188, 54, 4, 7)))]
theorem kc_L_count_87 : vm_chk m_L_count 87 k_L_count_87 = some 91 := by decide +kernel
theorem d_L_count_91 : vm_dec m_L_count 91 .ireturn 1 = true := by decide +kernel
def k_L_count_92 : List vm_I := [.inl (.aload_n 0), .inr (.inr (.inl (0, 182, 30, 4, 1)))]
theorem kc_L_count_92 : vm_chk m_L_count 92 k_L_count_92 = some 96 := by decide +kernel
theorem v_L_count_96 : vm_okV m_L_count m_P_frames 96 153 0 (567, 568, 569, 44, 570) = true := by decide +kernel
theorem d_L_count_99 : vm_dec m_L_count 99 .ireturn 1 = true := by decide +kernel
def k_L_count_100 : List vm_I := [.inr (.inl (.int (-2), 0))]
theorem kc_L_count_100 : vm_chk m_L_count 100 k_L_count_100 = some 102 := by decide +kernel
theorem d_L_count_102 : vm_dec m_L_count 102 .ireturn 1 = true := by decide +kernel
def k_L_sum_0 : List vm_I := [.inl (.iload_n 1), .inl (.iload_n 2)]
theorem kc_L_sum_0 : vm_chk m_L_sum 0 k_L_sum_0 = some 2 := by decide +kernel
theorem v_L_sum_2 : vm_okS m_L_sum m_L_arePages 2 141 2 (547, 548, 42, 549) = true := by decide +kernel
theorem d_L_sum_5 : vm_dec m_L_sum 5 (.ifCond .ne 5) 3 = true := by decide +kernel
def k_L_sum_8 : List vm_I := [.inr (.inl (.int 0, 0))]
theorem kc_L_sum_8 : vm_chk m_L_sum 8 k_L_sum_8 = some 9 := by decide +kernel
theorem d_L_sum_9 : vm_dec m_L_sum 9 .ireturn 1 = true := by decide +kernel
def k_L_sum_10 : List vm_I := [.inr (.inl (.int 7, 0)), .inl (.istore_n 3), .inr (.inl (.int 0, 0)), .inl (.istore 4)]
theorem kc_L_sum_10 : vm_chk m_L_sum 10 k_L_sum_10 = some 16 := by decide +kernel
def k_L_sum_16 : List vm_I := [.inl (.iload 4), .inl (.iload_n 2)]
theorem kc_L_sum_16 : vm_chk m_L_sum 16 k_L_sum_16 = some 19 := by decide +kernel
theorem d_L_sum_19 : vm_dec m_L_sum 19 (.if_icmp .ge 22) 3 = true := by decide +kernel
def k_L_sum_22 : List vm_I := [.inl (.aload_n 0), .inr (.inr (.inl (0, 182, 30, 4, 1))), .inl (.iload_n 3), .inl (.iload_n 1), .inl (.iload 4), .inl .iadd]
theorem kc_L_sum_22 : vm_chk m_L_sum 22 k_L_sum_22 = some 31 := by decide +kernel
theorem v_L_sum_31 : vm_okV m_L_sum m_P_sumOn 31 156 2 (575, 576, 577, 44, 578) = true := by decide +kernel
def k_L_sum_34 : List vm_I := [.inl (.istore_n 3), .inr (.inr (.inr (4, 1)))]
theorem kc_L_sum_34 : vm_chk m_L_sum 34 k_L_sum_34 = some 38 := by decide +kernel
theorem d_L_sum_38 : vm_dec m_L_sum 38 (.goto (-22)) 3 = true := by decide +kernel
def k_L_sum_41 : List vm_I := [.inl (.iload_n 3)]
theorem kc_L_sum_41 : vm_chk m_L_sum 41 k_L_sum_41 = some 42 := by decide +kernel
theorem d_L_sum_42 : vm_dec m_L_sum 42 .ireturn 1 = true := by decide +kernel
def k_L_stackPointer_0 : List vm_I := [.inl (.aload_n 0)]
theorem kc_L_stackPointer_0 : vm_chk m_L_stackPointer 0 k_L_stackPointer_0 = some 1 := by decide +kernel
theorem v_L_stackPointer_1 : vm_okV m_L_stackPointer m_L_argumentCount 1 159 0 (493, 495, 19, 42, 496) = true := by decide +kernel
def k_L_stackPointer_4 : List vm_I := [.inr (.inl (.int 3, 0)), .inl .iadd, .inl (.istore_n 1), .inr (.inl (.int 16384, 0)), .inl (.aload_n 0)]
theorem kc_L_stackPointer_4 : vm_chk m_L_stackPointer 4 k_L_stackPointer_4 = some 11 := by decide +kernel
theorem v_L_stackPointer_11 : vm_okV m_L_stackPointer m_L_argumentBytes 11 162 0 (501, 503, 20, 42, 504) = true := by decide +kernel
def k_L_stackPointer_14 : List vm_I := [.inl .isub, .inr (.inl (.int 4, 0)), .inl (.iload_n 1), .inl .imul, .inl .isub, .inl (.istore_n 2), .inl (.iload_n 2), .inl (.iload_n 2), .inr (.inl (.int 16, 0))]
theorem kc_L_stackPointer_14 : vm_chk m_L_stackPointer 14 k_L_stackPointer_14 = some 24 := by decide +kernel
theorem v_L_stackPointer_24 : vm_okS m_L_stackPointer m_J_floorMod 24 165 2 (505, 506, 45, 507) = true := by decide +kernel
def k_L_stackPointer_27 : List vm_I := [.inl .isub]
theorem kc_L_stackPointer_27 : vm_chk m_L_stackPointer 27 k_L_stackPointer_27 = some 28 := by decide +kernel
theorem d_L_stackPointer_28 : vm_dec m_L_stackPointer 28 .ireturn 1 = true := by decide +kernel
def k_L_argumentBytes_0 : List vm_I := [.inl (.aload_n 0), .inr (.inr (.inl (0, 181, 10, 4, 0)))]
theorem kc_L_argumentBytes_0 : vm_chk m_L_argumentBytes 0 k_L_argumentBytes_0 = some 4 := by decide +kernel
theorem v_L_argumentBytes_4 : vm_okV m_L_argumentBytes m_T_size 4 64 0 (218, 219, 220, 43, 221) = true := by decide +kernel
def k_L_argumentBytes_7 : List vm_I := [.inl (.aload_n 0), .inr (.inr (.inl (0, 181, 10, 4, 0)))]
theorem kc_L_argumentBytes_7 : vm_chk m_L_argumentBytes 7 k_L_argumentBytes_7 = some 11 := by decide +kernel
theorem v_L_argumentBytes_11 : vm_okV m_L_argumentBytes m_T_lacksLastZero 11 168 0 (497, 498, 499, 43, 500) = true := by decide +kernel
theorem d_L_argumentBytes_14 : vm_dec m_L_argumentBytes 14 (.ifCond .eq 7) 3 = true := by decide +kernel
def k_L_argumentBytes_17 : List vm_I := [.inr (.inl (.int 1, 0))]
theorem kc_L_argumentBytes_17 : vm_chk m_L_argumentBytes 17 k_L_argumentBytes_17 = some 18 := by decide +kernel
theorem d_L_argumentBytes_18 : vm_dec m_L_argumentBytes 18 (.goto 4) 3 = true := by decide +kernel
def k_L_argumentBytes_21 : List vm_I := [.inr (.inl (.int 0, 0))]
theorem kc_L_argumentBytes_21 : vm_chk m_L_argumentBytes 21 k_L_argumentBytes_21 = some 22 := by decide +kernel
def k_L_argumentBytes_22 : List vm_I := [.inl .iadd]
theorem kc_L_argumentBytes_22 : vm_chk m_L_argumentBytes 22 k_L_argumentBytes_22 = some 23 := by decide +kernel
theorem d_L_argumentBytes_23 : vm_dec m_L_argumentBytes 23 .ireturn 1 = true := by decide +kernel
def k_L_argumentCount_0 : List vm_I := [.inl (.aload_n 0), .inr (.inr (.inl (0, 181, 10, 4, 0)))]
theorem kc_L_argumentCount_0 : vm_chk m_L_argumentCount 0 k_L_argumentCount_0 = some 4 := by decide +kernel
theorem v_L_argumentCount_4 : vm_okV m_L_argumentCount m_T_lacksLastZero 4 168 0 (497, 498, 499, 43, 500) = true := by decide +kernel
theorem d_L_argumentCount_7 : vm_dec m_L_argumentCount 7 (.ifCond .eq 7) 3 = true := by decide +kernel
def k_L_argumentCount_10 : List vm_I := [.inr (.inl (.int 1, 0))]
theorem kc_L_argumentCount_10 : vm_chk m_L_argumentCount 10 k_L_argumentCount_10 = some 11 := by decide +kernel
theorem d_L_argumentCount_11 : vm_dec m_L_argumentCount 11 (.goto 4) 3 = true := by decide +kernel
def k_L_argumentCount_14 : List vm_I := [.inr (.inl (.int 0, 0))]
theorem kc_L_argumentCount_14 : vm_chk m_L_argumentCount 14 k_L_argumentCount_14 = some 15 := by decide +kernel
def k_L_argumentCount_15 : List vm_I := [.inl (.istore_n 1), .inr (.inl (.int 0, 0)), .inl (.istore_n 2)]
theorem kc_L_argumentCount_15 : vm_chk m_L_argumentCount 15 k_L_argumentCount_15 = some 18 := by decide +kernel
def k_L_argumentCount_18 : List vm_I := [.inl (.iload_n 2), .inl (.aload_n 0), .inr (.inr (.inl (0, 181, 10, 4, 0)))]
theorem kc_L_argumentCount_18 : vm_chk m_L_argumentCount 18 k_L_argumentCount_18 = some 23 := by decide +kernel
theorem v_L_argumentCount_23 : vm_okV m_L_argumentCount m_T_size 23 64 0 (218, 219, 220, 43, 221) = true := by decide +kernel
theorem d_L_argumentCount_26 : vm_dec m_L_argumentCount 26 (.if_icmp .ge 23) 3 = true := by decide +kernel
def k_L_argumentCount_29 : List vm_I := [.inl (.aload_n 0), .inr (.inr (.inl (0, 181, 10, 4, 0))), .inl (.iload_n 2)]
theorem kc_L_argumentCount_29 : vm_chk m_L_argumentCount 29 k_L_argumentCount_29 = some 34 := by decide +kernel
theorem v_L_argumentCount_34 : vm_okV m_L_argumentCount m_T_byteAt 34 79 1 (245, 246, 247, 43, 248) = true := by decide +kernel
theorem d_L_argumentCount_37 : vm_dec m_L_argumentCount 37 (.ifCond .ne 6) 3 = true := by decide +kernel
def k_L_argumentCount_40 : List vm_I := [.inr (.inr (.inr (1, 1)))]
theorem kc_L_argumentCount_40 : vm_chk m_L_argumentCount 40 k_L_argumentCount_40 = some 43 := by decide +kernel
def k_L_argumentCount_43 : List vm_I := [.inr (.inr (.inr (2, 1)))]
theorem kc_L_argumentCount_43 : vm_chk m_L_argumentCount 43 k_L_argumentCount_43 = some 46 := by decide +kernel
theorem d_L_argumentCount_46 : vm_dec m_L_argumentCount 46 (.goto (-28)) 3 = true := by decide +kernel
def k_L_argumentCount_49 : List vm_I := [.inl (.iload_n 1)]
theorem kc_L_argumentCount_49 : vm_chk m_L_argumentCount 49 k_L_argumentCount_49 = some 50 := by decide +kernel
theorem d_L_argumentCount_50 : vm_dec m_L_argumentCount 50 .ireturn 1 = true := by decide +kernel
def k_L_layArguments_0 : List vm_I := [.inr (.inl (.int 16384, 0)), .inl (.aload_n 0)]
theorem kc_L_layArguments_0 : vm_chk m_L_layArguments 0 k_L_layArguments_0 = some 4 := by decide +kernel
theorem v_L_layArguments_4 : vm_okV m_L_layArguments m_L_argumentBytes 4 162 0 (501, 503, 20, 42, 504) = true := by decide +kernel
def k_L_layArguments_7 : List vm_I := [.inl .isub, .inl (.istore_n 2), .inl (.iload_n 1), .inr (.inl (.int 4, 0)), .inl .iadd, .inl (.istore_n 3), .inr (.inl (.int 1, 0)), .inl (.istore 4), .inl (.aload_n 0), .inr (.inr (.inl (0, 182, 30, 4, 1))), .inl (.iload_n 1), .inr (.inl (.int 4, 0)), .inl (.aload_n 0)]
theorem kc_L_layArguments_7 : vm_chk m_L_layArguments 7 k_L_layArguments_7 = some 23 := by decide +kernel
theorem v_L_layArguments_23 : vm_okV m_L_layArguments m_L_argumentCount 23 159 0 (493, 495, 19, 42, 496) = true := by decide +kernel
theorem v_L_layArguments_26 : vm_okV m_L_layArguments m_P_setNumber 26 129 3 (513, 448, 449, 44, 450) = true := by decide +kernel
def k_L_layArguments_29 : List vm_I := [.inr (.inl (.int 0, 0)), .inl (.istore 5)]
theorem kc_L_layArguments_29 : vm_chk m_L_layArguments 29 k_L_layArguments_29 = some 32 := by decide +kernel
def k_L_layArguments_32 : List vm_I := [.inl (.iload 5), .inl (.aload_n 0), .inr (.inr (.inl (0, 181, 10, 4, 0)))]
theorem kc_L_layArguments_32 : vm_chk m_L_layArguments 32 k_L_layArguments_32 = some 38 := by decide +kernel
theorem v_L_layArguments_38 : vm_okV m_L_layArguments m_T_size 38 64 0 (218, 219, 220, 43, 221) = true := by decide +kernel
theorem d_L_layArguments_41 : vm_dec m_L_layArguments 41 (.if_icmp .ge 69) 3 = true := by decide +kernel
def k_L_layArguments_44 : List vm_I := [.inl (.iload 4)]
theorem kc_L_layArguments_44 : vm_chk m_L_layArguments 44 k_L_layArguments_44 = some 46 := by decide +kernel
theorem d_L_layArguments_46 : vm_dec m_L_layArguments 46 (.ifCond .eq 19) 3 = true := by decide +kernel
def k_L_layArguments_49 : List vm_I := [.inl (.aload_n 0), .inr (.inr (.inl (0, 182, 30, 4, 1))), .inl (.iload_n 3), .inr (.inl (.int 4, 0)), .inl (.iload_n 2), .inl (.iload 5), .inl .iadd]
theorem kc_L_layArguments_49 : vm_chk m_L_layArguments 49 k_L_layArguments_49 = some 59 := by decide +kernel
theorem v_L_layArguments_59 : vm_okV m_L_layArguments m_P_setNumber 59 129 3 (513, 448, 449, 44, 450) = true := by decide +kernel
def k_L_layArguments_62 : List vm_I := [.inr (.inr (.inr (3, 4)))]
theorem kc_L_layArguments_62 : vm_chk m_L_layArguments 62 k_L_layArguments_62 = some 65 := by decide +kernel
def k_L_layArguments_65 : List vm_I := [.inl (.aload_n 0), .inr (.inr (.inl (0, 182, 30, 4, 1))), .inl (.iload_n 2), .inl (.iload 5), .inl .iadd, .inl (.aload_n 0), .inr (.inr (.inl (0, 181, 10, 4, 0))), .inl (.iload 5)]
theorem kc_L_layArguments_65 : vm_chk m_L_layArguments 65 k_L_layArguments_65 = some 79 := by decide +kernel
theorem v_L_layArguments_79 : vm_okV m_L_layArguments m_T_byteAt 79 79 1 (245, 246, 247, 43, 248) = true := by decide +kernel
theorem v_L_layArguments_82 : vm_okV m_L_layArguments m_P_setByte 82 172 2 (514, 413, 414, 44, 415) = true := by decide +kernel
def k_L_layArguments_85 : List vm_I := [.inl (.aload_n 0), .inr (.inr (.inl (0, 181, 10, 4, 0))), .inl (.iload 5)]
theorem kc_L_layArguments_85 : vm_chk m_L_layArguments 85 k_L_layArguments_85 = some 91 := by decide +kernel
theorem v_L_layArguments_91 : vm_okV m_L_layArguments m_T_byteAt 91 79 1 (245, 246, 247, 43, 248) = true := by decide +kernel
theorem d_L_layArguments_94 : vm_dec m_L_layArguments 94 (.ifCond .ne 7) 3 = true := by decide +kernel
def k_L_layArguments_97 : List vm_I := [.inr (.inl (.int 1, 0))]
theorem kc_L_layArguments_97 : vm_chk m_L_layArguments 97 k_L_layArguments_97 = some 98 := by decide +kernel
theorem d_L_layArguments_98 : vm_dec m_L_layArguments 98 (.goto 4) 3 = true := by decide +kernel
def k_L_layArguments_101 : List vm_I := [.inr (.inl (.int 0, 0))]
theorem kc_L_layArguments_101 : vm_chk m_L_layArguments 101 k_L_layArguments_101 = some 102 := by decide +kernel
def k_L_layArguments_102 : List vm_I := [.inl (.istore 4), .inr (.inr (.inr (5, 1)))]
theorem kc_L_layArguments_102 : vm_chk m_L_layArguments 102 k_L_layArguments_102 = some 107 := by decide +kernel
theorem d_L_layArguments_107 : vm_dec m_L_layArguments 107 (.goto (-75)) 3 = true := by decide +kernel
theorem d_L_layArguments_110 : vm_dec m_L_layArguments 110 .return_ 1 = true := by decide +kernel
def k_L_isSize_0 : List vm_I := [.inl (.iload_n 0), .inr (.inl (.int 1, 0))]
theorem kc_L_isSize_0 : vm_chk m_L_isSize 0 k_L_isSize_0 = some 2 := by decide +kernel
theorem d_L_isSize_2 : vm_dec m_L_isSize 2 (.if_icmp .eq 13) 3 = true := by decide +kernel
def k_L_isSize_5 : List vm_I := [.inl (.iload_n 0), .inr (.inl (.int 2, 0))]
theorem kc_L_isSize_5 : vm_chk m_L_isSize 5 k_L_isSize_5 = some 7 := by decide +kernel
theorem d_L_isSize_7 : vm_dec m_L_isSize 7 (.if_icmp .eq 8) 3 = true := by decide +kernel
def k_L_isSize_10 : List vm_I := [.inl (.iload_n 0), .inr (.inl (.int 4, 0))]
theorem kc_L_isSize_10 : vm_chk m_L_isSize 10 k_L_isSize_10 = some 12 := by decide +kernel
theorem d_L_isSize_12 : vm_dec m_L_isSize 12 (.if_icmp .ne 7) 3 = true := by decide +kernel
def k_L_isSize_15 : List vm_I := [.inr (.inl (.int 1, 0))]
theorem kc_L_isSize_15 : vm_chk m_L_isSize 15 k_L_isSize_15 = some 16 := by decide +kernel
theorem d_L_isSize_16 : vm_dec m_L_isSize 16 (.goto 4) 3 = true := by decide +kernel
def k_L_isSize_19 : List vm_I := [.inr (.inl (.int 0, 0))]
theorem kc_L_isSize_19 : vm_chk m_L_isSize 19 k_L_isSize_19 = some 20 := by decide +kernel
theorem d_L_isSize_20 : vm_dec m_L_isSize 20 .ireturn 1 = true := by decide +kernel
def k_L_isPage_0 : List vm_I := [.inl (.iload_n 0)]
theorem kc_L_isPage_0 : vm_chk m_L_isPage 0 k_L_isPage_0 = some 1 := by decide +kernel
theorem d_L_isPage_1 : vm_dec m_L_isPage 1 (.ifCond .lt 13) 3 = true := by decide +kernel
def k_L_isPage_4 : List vm_I := [.inl (.iload_n 0), .inr (.inl (.int 64, 0))]
theorem kc_L_isPage_4 : vm_chk m_L_isPage 4 k_L_isPage_4 = some 7 := by decide +kernel
theorem d_L_isPage_7 : vm_dec m_L_isPage 7 (.if_icmp .ge 7) 3 = true := by decide +kernel
def k_L_isPage_10 : List vm_I := [.inr (.inl (.int 1, 0))]
theorem kc_L_isPage_10 : vm_chk m_L_isPage 10 k_L_isPage_10 = some 11 := by decide +kernel
theorem d_L_isPage_11 : vm_dec m_L_isPage 11 (.goto 4) 3 = true := by decide +kernel
def k_L_isPage_14 : List vm_I := [.inr (.inl (.int 0, 0))]
theorem kc_L_isPage_14 : vm_chk m_L_isPage 14 k_L_isPage_14 = some 15 := by decide +kernel
theorem d_L_isPage_15 : vm_dec m_L_isPage 15 .ireturn 1 = true := by decide +kernel
def k_L_arePages_0 : List vm_I := [.inl (.iload_n 1)]
theorem kc_L_arePages_0 : vm_chk m_L_arePages 0 k_L_arePages_0 = some 1 := by decide +kernel
theorem d_L_arePages_1 : vm_dec m_L_arePages 1 (.ifCond .eq 25) 3 = true := by decide +kernel
def k_L_arePages_4 : List vm_I := [.inl (.iload_n 1)]
theorem kc_L_arePages_4 : vm_chk m_L_arePages 4 k_L_arePages_4 = some 5 := by decide +kernel
theorem d_L_arePages_5 : vm_dec m_L_arePages 5 (.ifCond .le 25) 3 = true := by decide +kernel
def k_L_arePages_8 : List vm_I := [.inl (.iload_n 1), .inr (.inl (.int 64, 0))]
theorem kc_L_arePages_8 : vm_chk m_L_arePages 8 k_L_arePages_8 = some 11 := by decide +kernel
theorem d_L_arePages_11 : vm_dec m_L_arePages 11 (.if_icmp .gt 19) 3 = true := by decide +kernel
def k_L_arePages_14 : List vm_I := [.inl (.iload_n 0)]
theorem kc_L_arePages_14 : vm_chk m_L_arePages 14 k_L_arePages_14 = some 15 := by decide +kernel
theorem d_L_arePages_15 : vm_dec m_L_arePages 15 (.ifCond .lt 15) 3 = true := by decide +kernel
def k_L_arePages_18 : List vm_I := [.inl (.iload_n 0), .inr (.inl (.int 64, 0)), .inl (.iload_n 1), .inl .isub]
theorem kc_L_arePages_18 : vm_chk m_L_arePages 18 k_L_arePages_18 = some 23 := by decide +kernel
theorem d_L_arePages_23 : vm_dec m_L_arePages 23 (.if_icmp .gt 7) 3 = true := by decide +kernel
def k_L_arePages_26 : List vm_I := [.inr (.inl (.int 1, 0))]
theorem kc_L_arePages_26 : vm_chk m_L_arePages 26 k_L_arePages_26 = some 27 := by decide +kernel
theorem d_L_arePages_27 : vm_dec m_L_arePages 27 (.goto 4) 3 = true := by decide +kernel
def k_L_arePages_30 : List vm_I := [.inr (.inl (.int 0, 0))]
theorem kc_L_arePages_30 : vm_chk m_L_arePages 30 k_L_arePages_30 = some 31 := by decide +kernel
theorem d_L_arePages_31 : vm_dec m_L_arePages 31 .ireturn 1 = true := by decide +kernel
def k_P_init_0 : List vm_I := [.inl (.aload_n 0)]
theorem kc_P_init_0 : vm_chk m_P_init 0 k_P_init_0 = some 1 := by decide +kernel
theorem d_P_init_1 : vm_dec m_P_init 1 (.invokespecial 3) 3 = true := by decide +kernel
def k_P_init_4 : List vm_I := [.inl (.aload_n 0), .inl (.iload_n 1), .inr (.inr (.inl (3, 86, 9, 2, 2))), .inl (.aload_n 0), .inr (.inl (.int 16384, 0))]
theorem kc_P_init_4 : vm_chk m_P_init 4 k_P_init_4 = some 13 := by decide +kernel
-- P_init_13 [13, 'newarray', 'byte', '']
def k_P_init_15 : List vm_I := [.inr (.inr (.inl (3, 84, 15, 2, 0))), .inl (.aload_n 0), .inr (.inl (.int 64, 0))]
theorem kc_P_init_15 : vm_chk m_P_init 15 k_P_init_15 = some 21 := by decide +kernel
-- P_init_21 [21, 'newarray', 'int', '']
def k_P_init_23 : List vm_I := [.inr (.inr (.inl (3, 85, 19, 2, 1))), .inr (.inl (.int 0, 0)), .inl (.istore_n 2)]
theorem kc_P_init_23 : vm_chk m_P_init 23 k_P_init_23 = some 28 := by decide +kernel
def k_P_init_28 : List vm_I := [.inl (.iload_n 2), .inr (.inl (.int 64, 0))]
theorem kc_P_init_28 : vm_chk m_P_init 28 k_P_init_28 = some 31 := by decide +kernel
theorem d_P_init_31 : vm_dec m_P_init 31 (.if_icmp .ge 16) 3 = true := by decide +kernel
def k_P_init_34 : List vm_I := [.inl (.aload_n 0), .inr (.inr (.inl (0, 85, 19, 2, 1))), .inl (.iload_n 2), .inr (.inl (.int (-1), 0)), .inl .iastore, .inr (.inr (.inr (2, 1)))]
theorem kc_P_init_34 : vm_chk m_P_init 34 k_P_init_34 = some 44 := by decide +kernel
theorem d_P_init_44 : vm_dec m_P_init 44 (.goto (-16)) 3 = true := by decide +kernel
def k_P_init_47 : List vm_I := [.inl (.aload_n 0), .inr (.inl (.int 0, 0)), .inr (.inr (.inl (1, 87, 23, 2, 3)))]
theorem kc_P_init_47 : vm_chk m_P_init 47 k_P_init_47 = some 52 := by decide +kernel
theorem d_P_init_52 : vm_dec m_P_init 52 .return_ 1 = true := by decide +kernel
def k_P_frames_0 : List vm_I := [.inl (.aload_n 0), .inr (.inr (.inl (0, 86, 9, 2, 2)))]
theorem kc_P_frames_0 : vm_chk m_P_frames 0 k_P_frames_0 = some 4 := by decide +kernel
theorem d_P_frames_4 : vm_dec m_P_frames 4 .ireturn 1 = true := by decide +kernel
def k_P_mappedPages_0 : List vm_I := [.inl (.aload_n 0), .inr (.inr (.inl (0, 87, 23, 2, 3)))]
theorem kc_P_mappedPages_0 : vm_chk m_P_mappedPages 0 k_P_mappedPages_0 = some 4 := by decide +kernel
theorem d_P_mappedPages_4 : vm_dec m_P_mappedPages 4 .ireturn 1 = true := by decide +kernel
def k_P_freeFrames_0 : List vm_I := [.inl (.aload_n 0), .inr (.inr (.inl (0, 86, 9, 2, 2))), .inl (.aload_n 0), .inr (.inr (.inl (0, 87, 23, 2, 3))), .inl .isub]
theorem kc_P_freeFrames_0 : vm_chk m_P_freeFrames 0 k_P_freeFrames_0 = some 9 := by decide +kernel
theorem d_P_freeFrames_9 : vm_dec m_P_freeFrames 9 .ireturn 1 = true := by decide +kernel
def k_P_rightsOf_0 : List vm_I := [.inl (.iload_n 1)]
theorem kc_P_rightsOf_0 : vm_chk m_P_rightsOf 0 k_P_rightsOf_0 = some 1 := by decide +kernel
theorem v_P_rightsOf_1 : vm_okN m_P_rightsOf m_L_isPage 1 26 1 (5, 340, 42, 341) = true := by decide +kernel
theorem d_P_rightsOf_4 : vm_dec m_P_rightsOf 4 (.ifCond .eq 12) 3 = true := by decide +kernel
def k_P_rightsOf_7 : List vm_I := [.inl (.aload_n 0), .inr (.inr (.inl (0, 85, 19, 2, 1))), .inl (.iload_n 1), .inl .iaload]
theorem kc_P_rightsOf_7 : vm_chk m_P_rightsOf 7 k_P_rightsOf_7 = some 13 := by decide +kernel
theorem d_P_rightsOf_13 : vm_dec m_P_rightsOf 13 (.goto 4) 3 = true := by decide +kernel
def k_P_rightsOf_16 : List vm_I := [.inr (.inl (.int (-1), 0))]
theorem kc_P_rightsOf_16 : vm_chk m_P_rightsOf 16 k_P_rightsOf_16 = some 17 := by decide +kernel
theorem d_P_rightsOf_17 : vm_dec m_P_rightsOf 17 .ireturn 1 = true := by decide +kernel
def k_P_setRights_0 : List vm_I := [.inl (.iload_n 1)]
theorem kc_P_setRights_0 : vm_chk m_P_setRights 0 k_P_setRights_0 = some 1 := by decide +kernel
theorem v_P_setRights_1 : vm_okN m_P_setRights m_L_isPage 1 26 1 (5, 340, 42, 341) = true := by decide +kernel
theorem d_P_setRights_4 : vm_dec m_P_setRights 4 (.ifCond .eq 10) 3 = true := by decide +kernel
def k_P_setRights_7 : List vm_I := [.inl (.aload_n 0), .inr (.inr (.inl (0, 85, 19, 2, 1))), .inl (.iload_n 1), .inl (.iload_n 2), .inl .iastore]
theorem kc_P_setRights_7 : vm_chk m_P_setRights 7 k_P_setRights_7 = some 14 := by decide +kernel
theorem d_P_setRights_14 : vm_dec m_P_setRights 14 .return_ 1 = true := by decide +kernel
def k_P_anyMapped_0 : List vm_I := [.inl (.iload_n 1), .inl (.istore_n 3)]
theorem kc_P_anyMapped_0 : vm_chk m_P_anyMapped 0 k_P_anyMapped_0 = some 2 := by decide +kernel
def k_P_anyMapped_2 : List vm_I := [.inl (.iload_n 3), .inl (.iload_n 2)]
theorem kc_P_anyMapped_2 : vm_chk m_P_anyMapped 2 k_P_anyMapped_2 = some 4 := by decide +kernel
theorem d_P_anyMapped_4 : vm_dec m_P_anyMapped 4 (.if_icmp .gt 20) 3 = true := by decide +kernel
def k_P_anyMapped_7 : List vm_I := [.inl (.aload_n 0), .inl (.iload_n 3)]
theorem kc_P_anyMapped_7 : vm_chk m_P_anyMapped 7 k_P_anyMapped_7 = some 9 := by decide +kernel
theorem v_P_anyMapped_9 : vm_okV m_P_anyMapped m_P_rightsOf 9 30 1 (335, 336, 337, 44, 338) = true := by decide +kernel
def k_P_anyMapped_12 : List vm_I := [.inr (.inl (.int (-1), 0))]
theorem kc_P_anyMapped_12 : vm_chk m_P_anyMapped 12 k_P_anyMapped_12 = some 13 := by decide +kernel
theorem d_P_anyMapped_13 : vm_dec m_P_anyMapped 13 (.if_icmp .eq 5) 3 = true := by decide +kernel
def k_P_anyMapped_16 : List vm_I := [.inr (.inl (.int 1, 0))]
theorem kc_P_anyMapped_16 : vm_chk m_P_anyMapped 16 k_P_anyMapped_16 = some 17 := by decide +kernel
theorem d_P_anyMapped_17 : vm_dec m_P_anyMapped 17 .ireturn 1 = true := by decide +kernel
def k_P_anyMapped_18 : List vm_I := [.inr (.inr (.inr (3, 1)))]
theorem kc_P_anyMapped_18 : vm_chk m_P_anyMapped 18 k_P_anyMapped_18 = some 21 := by decide +kernel
theorem d_P_anyMapped_21 : vm_dec m_P_anyMapped 21 (.goto (-19)) 3 = true := by decide +kernel
def k_P_anyMapped_24 : List vm_I := [.inr (.inl (.int 0, 0))]
theorem kc_P_anyMapped_24 : vm_chk m_P_anyMapped 24 k_P_anyMapped_24 = some 25 := by decide +kernel
theorem d_P_anyMapped_25 : vm_dec m_P_anyMapped 25 .ireturn 1 = true := by decide +kernel
def k_P_pagesWith_0 : List vm_I := [.inr (.inl (.int 0, 0)), .inl (.istore_n 2), .inr (.inl (.int 0, 0)), .inl (.istore_n 3)]
theorem kc_P_pagesWith_0 : vm_chk m_P_pagesWith 0 k_P_pagesWith_0 = some 4 := by decide +kernel
def k_P_pagesWith_4 : List vm_I := [.inl (.iload_n 3), .inr (.inl (.int 64, 0))]
theorem kc_P_pagesWith_4 : vm_chk m_P_pagesWith 4 k_P_pagesWith_4 = some 7 := by decide +kernel
theorem d_P_pagesWith_7 : vm_dec m_P_pagesWith 7 (.if_icmp .ge 32) 3 = true := by decide +kernel
def k_P_pagesWith_10 : List vm_I := [.inl (.aload_n 0), .inl (.iload_n 3)]
theorem kc_P_pagesWith_10 : vm_chk m_P_pagesWith 10 k_P_pagesWith_10 = some 12 := by decide +kernel
theorem v_P_pagesWith_12 : vm_okV m_P_pagesWith m_P_rightsOf 12 30 1 (335, 336, 337, 44, 338) = true := by decide +kernel
def k_P_pagesWith_15 : List vm_I := [.inl (.istore 4), .inl (.iload 4), .inr (.inl (.int (-1), 0))]
theorem kc_P_pagesWith_15 : vm_chk m_P_pagesWith 15 k_P_pagesWith_15 = some 20 := by decide +kernel
theorem d_P_pagesWith_20 : vm_dec m_P_pagesWith 20 (.if_icmp .eq 13) 3 = true := by decide +kernel
def k_P_pagesWith_23 : List vm_I := [.inl (.iload 4), .inl (.iload_n 1), .inl .iand]
theorem kc_P_pagesWith_23 : vm_chk m_P_pagesWith 23 k_P_pagesWith_23 = some 27 := by decide +kernel
theorem d_P_pagesWith_27 : vm_dec m_P_pagesWith 27 (.ifCond .eq 6) 3 = true := by decide +kernel
def k_P_pagesWith_30 : List vm_I := [.inr (.inr (.inr (2, 1)))]
theorem kc_P_pagesWith_30 : vm_chk m_P_pagesWith 30 k_P_pagesWith_30 = some 33 := by decide +kernel
def k_P_pagesWith_33 : List vm_I := [.inr (.inr (.inr (3, 1)))]
theorem kc_P_pagesWith_33 : vm_chk m_P_pagesWith 33 k_P_pagesWith_33 = some 36 := by decide +kernel
theorem d_P_pagesWith_36 : vm_dec m_P_pagesWith 36 (.goto (-32)) 3 = true := by decide +kernel
def k_P_pagesWith_39 : List vm_I := [.inl (.iload_n 2)]
theorem kc_P_pagesWith_39 : vm_chk m_P_pagesWith 39 k_P_pagesWith_39 = some 40 := by decide +kernel
theorem d_P_pagesWith_40 : vm_dec m_P_pagesWith 40 .ireturn 1 = true := by decide +kernel
def k_P_mapAll_0 : List vm_I := [.inl (.iload_n 1), .inl (.istore 4)]
theorem kc_P_mapAll_0 : vm_chk m_P_mapAll 0 k_P_mapAll_0 = some 3 := by decide +kernel
def k_P_mapAll_3 : List vm_I := [.inl (.iload 4), .inl (.iload_n 2)]
theorem kc_P_mapAll_3 : vm_chk m_P_mapAll 3 k_P_mapAll_3 = some 6 := by decide +kernel
theorem d_P_mapAll_6 : vm_dec m_P_mapAll 6 (.if_icmp .gt 50) 3 = true := by decide +kernel
def k_P_mapAll_9 : List vm_I := [.inl (.iload 4)]
theorem kc_P_mapAll_9 : vm_chk m_P_mapAll 9 k_P_mapAll_9 = some 11 := by decide +kernel
theorem v_P_mapAll_11 : vm_okN m_P_mapAll m_L_isPage 11 26 1 (5, 340, 42, 341) = true := by decide +kernel
theorem d_P_mapAll_14 : vm_dec m_P_mapAll 14 (.ifCond .eq 36) 3 = true := by decide +kernel
def k_P_mapAll_17 : List vm_I := [.inl (.aload_n 0), .inl (.iload 4)]
theorem kc_P_mapAll_17 : vm_chk m_P_mapAll 17 k_P_mapAll_17 = some 20 := by decide +kernel
theorem v_P_mapAll_20 : vm_okV m_P_mapAll m_P_rightsOf 20 30 1 (335, 336, 337, 44, 338) = true := by decide +kernel
def k_P_mapAll_23 : List vm_I := [.inr (.inl (.int (-1), 0))]
theorem kc_P_mapAll_23 : vm_chk m_P_mapAll 23 k_P_mapAll_23 = some 24 := by decide +kernel
theorem d_P_mapAll_24 : vm_dec m_P_mapAll 24 (.if_icmp .ne 26) 3 = true := by decide +kernel
def k_P_mapAll_27 : List vm_I := [.inl (.aload_n 0), .inl (.iload 4), .inl (.iload_n 3)]
theorem kc_P_mapAll_27 : vm_chk m_P_mapAll 27 k_P_mapAll_27 = some 31 := by decide +kernel
theorem v_P_mapAll_31 : vm_okV m_P_mapAll m_P_setRights 31 34 2 (404, 405, 406, 44, 407) = true := by decide +kernel
def k_P_mapAll_34 : List vm_I := [.inl (.aload_n 0), .inl .dup, .inr (.inr (.inl (0, 87, 23, 2, 3))), .inr (.inl (.int 1, 0)), .inl .iadd, .inr (.inr (.inl (1, 87, 23, 2, 3))), .inl (.aload_n 0), .inl (.iload 4)]
theorem kc_P_mapAll_34 : vm_chk m_P_mapAll 34 k_P_mapAll_34 = some 47 := by decide +kernel
theorem v_P_mapAll_47 : vm_okV m_P_mapAll m_P_clear 47 38 1 (408, 410, 12, 44, 411) = true := by decide +kernel
def k_P_mapAll_50 : List vm_I := [.inr (.inr (.inr (4, 1)))]
theorem kc_P_mapAll_50 : vm_chk m_P_mapAll 50 k_P_mapAll_50 = some 53 := by decide +kernel
theorem d_P_mapAll_53 : vm_dec m_P_mapAll 53 (.goto (-50)) 3 = true := by decide +kernel
theorem d_P_mapAll_56 : vm_dec m_P_mapAll 56 .return_ 1 = true := by decide +kernel
def k_P_clear_0 : List vm_I := [.inr (.inl (.int 0, 0)), .inl (.istore_n 2)]
theorem kc_P_clear_0 : vm_chk m_P_clear 0 k_P_clear_0 = some 2 := by decide +kernel
def k_P_clear_2 : List vm_I := [.inl (.iload_n 2), .inr (.inl (.int 256, 0))]
theorem kc_P_clear_2 : vm_chk m_P_clear 2 k_P_clear_2 = some 6 := by decide +kernel
theorem d_P_clear_6 : vm_dec m_P_clear 6 (.if_icmp .ge 21) 3 = true := by decide +kernel
def k_P_clear_9 : List vm_I := [.inl (.aload_n 0), .inl (.iload_n 1), .inr (.inl (.int 256, 0)), .inl .imul, .inl (.iload_n 2), .inl .iadd, .inr (.inl (.int 0, 0))]
theorem kc_P_clear_9 : vm_chk m_P_clear 9 k_P_clear_9 = some 18 := by decide +kernel
theorem v_P_clear_18 : vm_okV m_P_clear m_P_setByte 18 42 2 (412, 413, 414, 44, 415) = true := by decide +kernel
def k_P_clear_21 : List vm_I := [.inr (.inr (.inr (2, 1)))]
theorem kc_P_clear_21 : vm_chk m_P_clear 21 k_P_clear_21 = some 24 := by decide +kernel
theorem d_P_clear_24 : vm_dec m_P_clear 24 (.goto (-22)) 3 = true := by decide +kernel
theorem d_P_clear_27 : vm_dec m_P_clear 27 .return_ 1 = true := by decide +kernel
def k_P_releaseAll_0 : List vm_I := [.inl (.iload_n 1), .inl (.istore_n 3)]
theorem kc_P_releaseAll_0 : vm_chk m_P_releaseAll 0 k_P_releaseAll_0 = some 2 := by decide +kernel
def k_P_releaseAll_2 : List vm_I := [.inl (.iload_n 3), .inl (.iload_n 2)]
theorem kc_P_releaseAll_2 : vm_chk m_P_releaseAll 2 k_P_releaseAll_2 = some 4 := by decide +kernel
theorem d_P_releaseAll_4 : vm_dec m_P_releaseAll 4 (.if_icmp .gt 34) 3 = true := by decide +kernel
def k_P_releaseAll_7 : List vm_I := [.inl (.aload_n 0), .inl (.iload_n 3)]
theorem kc_P_releaseAll_7 : vm_chk m_P_releaseAll 7 k_P_releaseAll_7 = some 9 := by decide +kernel
theorem v_P_releaseAll_9 : vm_okV m_P_releaseAll m_P_rightsOf 9 30 1 (335, 336, 337, 44, 338) = true := by decide +kernel
def k_P_releaseAll_12 : List vm_I := [.inr (.inl (.int (-1), 0))]
theorem kc_P_releaseAll_12 : vm_chk m_P_releaseAll 12 k_P_releaseAll_12 = some 13 := by decide +kernel
theorem d_P_releaseAll_13 : vm_dec m_P_releaseAll 13 (.if_icmp .eq 19) 3 = true := by decide +kernel
def k_P_releaseAll_16 : List vm_I := [.inl (.aload_n 0), .inl (.iload_n 3), .inr (.inl (.int (-1), 0))]
theorem kc_P_releaseAll_16 : vm_chk m_P_releaseAll 16 k_P_releaseAll_16 = some 19 := by decide +kernel
theorem v_P_releaseAll_19 : vm_okV m_P_releaseAll m_P_setRights 19 34 2 (404, 405, 406, 44, 407) = true := by decide +kernel
def k_P_releaseAll_22 : List vm_I := [.inl (.aload_n 0), .inl .dup, .inr (.inr (.inl (0, 87, 23, 2, 3))), .inr (.inl (.int 1, 0)), .inl .isub, .inr (.inr (.inl (1, 87, 23, 2, 3)))]
theorem kc_P_releaseAll_22 : vm_chk m_P_releaseAll 22 k_P_releaseAll_22 = some 32 := by decide +kernel
def k_P_releaseAll_32 : List vm_I := [.inr (.inr (.inr (3, 1)))]
theorem kc_P_releaseAll_32 : vm_chk m_P_releaseAll 32 k_P_releaseAll_32 = some 35 := by decide +kernel
theorem d_P_releaseAll_35 : vm_dec m_P_releaseAll 35 (.goto (-33)) 3 = true := by decide +kernel
theorem d_P_releaseAll_38 : vm_dec m_P_releaseAll 38 .return_ 1 = true := by decide +kernel
def k_P_refusal_0 : List vm_I := [.inl (.iload_n 2)]
theorem kc_P_refusal_0 : vm_chk m_P_refusal 0 k_P_refusal_0 = some 1 := by decide +kernel
theorem v_P_refusal_1 : vm_okN m_P_refusal m_L_isSize 1 45 1 (6, 231, 42, 232) = true := by decide +kernel
theorem d_P_refusal_4 : vm_dec m_P_refusal 4 (.ifCond .ne 6) 3 = true := by decide +kernel
def k_P_refusal_7 : List vm_I := [.inr (.inl (.int (-4), 0))]
theorem kc_P_refusal_7 : vm_chk m_P_refusal 7 k_P_refusal_7 = some 9 := by decide +kernel
theorem d_P_refusal_9 : vm_dec m_P_refusal 9 .ireturn 1 = true := by decide +kernel
def k_P_refusal_10 : List vm_I := [.inl (.iload_n 1), .inl (.iload_n 2), .inr (.inl (.int 1, 0)), .inl .isub, .inl .iand]
theorem kc_P_refusal_10 : vm_chk m_P_refusal 10 k_P_refusal_10 = some 15 := by decide +kernel
theorem d_P_refusal_15 : vm_dec m_P_refusal 15 (.ifCond .eq 6) 3 = true := by decide +kernel
def k_P_refusal_18 : List vm_I := [.inr (.inl (.int (-3), 0))]
theorem kc_P_refusal_18 : vm_chk m_P_refusal 18 k_P_refusal_18 = some 20 := by decide +kernel
theorem d_P_refusal_20 : vm_dec m_P_refusal 20 .ireturn 1 = true := by decide +kernel
def k_P_refusal_21 : List vm_I := [.inl (.aload_n 0), .inl (.iload_n 1), .inr (.inl (.int 256, 0))]
theorem kc_P_refusal_21 : vm_chk m_P_refusal 21 k_P_refusal_21 = some 26 := by decide +kernel
theorem v_P_refusal_26 : vm_okS m_P_refusal m_J_floorDiv 26 48 2 (524, 525, 45, 526) = true := by decide +kernel
theorem v_P_refusal_29 : vm_okV m_P_refusal m_P_rightsOf 29 30 1 (335, 336, 337, 44, 338) = true := by decide +kernel
def k_P_refusal_32 : List vm_I := [.inl (.istore 4), .inl (.iload 4), .inr (.inl (.int (-1), 0))]
theorem kc_P_refusal_32 : vm_chk m_P_refusal 32 k_P_refusal_32 = some 37 := by decide +kernel
theorem d_P_refusal_37 : vm_dec m_P_refusal 37 (.if_icmp .ne 5) 3 = true := by decide +kernel
def k_P_refusal_40 : List vm_I := [.inr (.inl (.int (-1), 0))]
theorem kc_P_refusal_40 : vm_chk m_P_refusal 40 k_P_refusal_40 = some 41 := by decide +kernel
theorem d_P_refusal_41 : vm_dec m_P_refusal 41 .ireturn 1 = true := by decide +kernel
def k_P_refusal_42 : List vm_I := [.inl (.iload 4), .inl (.iload_n 3), .inl .iand]
theorem kc_P_refusal_42 : vm_chk m_P_refusal 42 k_P_refusal_42 = some 46 := by decide +kernel
theorem d_P_refusal_46 : vm_dec m_P_refusal 46 (.ifCond .eq 7) 3 = true := by decide +kernel
def k_P_refusal_49 : List vm_I := [.inr (.inl (.int 0, 0))]
theorem kc_P_refusal_49 : vm_chk m_P_refusal 49 k_P_refusal_49 = some 50 := by decide +kernel
theorem d_P_refusal_50 : vm_dec m_P_refusal 50 (.goto 5) 3 = true := by decide +kernel
def k_P_refusal_53 : List vm_I := [.inr (.inl (.int (-2), 0))]
theorem kc_P_refusal_53 : vm_chk m_P_refusal 53 k_P_refusal_53 = some 55 := by decide +kernel
theorem d_P_refusal_55 : vm_dec m_P_refusal 55 .ireturn 1 = true := by decide +kernel
def k_P_byteAt_0 : List vm_I := [.inl (.iload_n 1)]
theorem kc_P_byteAt_0 : vm_chk m_P_byteAt 0 k_P_byteAt_0 = some 1 := by decide +kernel
theorem d_P_byteAt_1 : vm_dec m_P_byteAt 1 (.ifCond .lt 25) 3 = true := by decide +kernel
def k_P_byteAt_4 : List vm_I := [.inl (.iload_n 1), .inl (.aload_n 0), .inr (.inr (.inl (0, 84, 15, 2, 0))), .inl .arraylength]
theorem kc_P_byteAt_4 : vm_chk m_P_byteAt 4 k_P_byteAt_4 = some 10 := by decide +kernel
theorem d_P_byteAt_10 : vm_dec m_P_byteAt 10 (.if_icmp .ge 16) 3 = true := by decide +kernel
def k_P_byteAt_13 : List vm_I := [.inl (.aload_n 0), .inr (.inr (.inl (0, 84, 15, 2, 0))), .inl (.iload_n 1), .inl .baload, .inr (.inl (.int 255, 0)), .inl .iand]
theorem kc_P_byteAt_13 : vm_chk m_P_byteAt 13 k_P_byteAt_13 = some 23 := by decide +kernel
theorem d_P_byteAt_23 : vm_dec m_P_byteAt 23 (.goto 4) 3 = true := by decide +kernel
def k_P_byteAt_26 : List vm_I := [.inr (.inl (.int 0, 0))]
theorem kc_P_byteAt_26 : vm_chk m_P_byteAt 26 k_P_byteAt_26 = some 27 := by decide +kernel
theorem d_P_byteAt_27 : vm_dec m_P_byteAt 27 .ireturn 1 = true := by decide +kernel
def k_P_setByte_0 : List vm_I := [.inl (.iload_n 1)]
theorem kc_P_setByte_0 : vm_chk m_P_setByte 0 k_P_setByte_0 = some 1 := by decide +kernel
theorem d_P_setByte_1 : vm_dec m_P_setByte 1 (.ifCond .lt 20) 3 = true := by decide +kernel
def k_P_setByte_4 : List vm_I := [.inl (.iload_n 1), .inl (.aload_n 0), .inr (.inr (.inl (0, 84, 15, 2, 0))), .inl .arraylength]
theorem kc_P_setByte_4 : vm_chk m_P_setByte 4 k_P_setByte_4 = some 10 := by decide +kernel
theorem d_P_setByte_10 : vm_dec m_P_setByte 10 (.if_icmp .ge 11) 3 = true := by decide +kernel
def k_P_setByte_13 : List vm_I := [.inl (.aload_n 0), .inr (.inr (.inl (0, 84, 15, 2, 0))), .inl (.iload_n 1), .inl (.iload_n 2), .inl .i2b, .inl .bastore]
theorem kc_P_setByte_13 : vm_chk m_P_setByte 13 k_P_setByte_13 = some 21 := by decide +kernel
theorem d_P_setByte_21 : vm_dec m_P_setByte 21 .return_ 1 = true := by decide +kernel
def k_P_number_0 : List vm_I := [.inr (.inl (.long 0, 0)), .inl (.lstore_n 3), .inr (.inl (.int 0, 0)), .inl (.istore 5)]
theorem kc_P_number_0 : vm_chk m_P_number 0 k_P_number_0 = some 5 := by decide +kernel
def k_P_number_5 : List vm_I := [.inl (.iload 5), .inl (.iload_n 2)]
theorem kc_P_number_5 : vm_chk m_P_number 5 k_P_number_5 = some 8 := by decide +kernel
theorem d_P_number_8 : vm_dec m_P_number 8 (.if_icmp .ge 27) 3 = true := by decide +kernel
def k_P_number_11 : List vm_I := [.inl (.lload_n 3), .inl (.aload_n 0), .inl (.iload_n 1), .inl (.iload 5), .inl .iadd]
theorem kc_P_number_11 : vm_chk m_P_number 11 k_P_number_11 = some 17 := by decide +kernel
theorem v_P_number_17 : vm_okV m_P_number m_P_byteAt 17 54 1 (438, 439, 440, 44, 441) = true := by decide +kernel
def k_P_number_20 : List vm_I := [.inl .i2l, .inr (.inl (.int 8, 0)), .inl (.iload 5), .inl .imul, .inl .lshl, .inl .lor, .inl (.lstore_n 3), .inr (.inr (.inr (5, 1)))]
theorem kc_P_number_20 : vm_chk m_P_number 20 k_P_number_20 = some 32 := by decide +kernel
theorem d_P_number_32 : vm_dec m_P_number 32 (.goto (-27)) 3 = true := by decide +kernel
def k_P_number_35 : List vm_I := [.inl (.lload_n 3)]
theorem kc_P_number_35 : vm_chk m_P_number 35 k_P_number_35 = some 36 := by decide +kernel
theorem d_P_number_36 : vm_dec m_P_number 36 .lreturn 1 = true := by decide +kernel
def k_P_setNumber_0 : List vm_I := [.inr (.inl (.int 0, 0)), .inl (.istore 4)]
theorem kc_P_setNumber_0 : vm_chk m_P_setNumber 0 k_P_setNumber_0 = some 3 := by decide +kernel
def k_P_setNumber_3 : List vm_I := [.inl (.iload 4), .inl (.iload_n 2)]
theorem kc_P_setNumber_3 : vm_chk m_P_setNumber 3 k_P_setNumber_3 = some 6 := by decide +kernel
theorem d_P_setNumber_6 : vm_dec m_P_setNumber 6 (.if_icmp .ge 24) 3 = true := by decide +kernel
def k_P_setNumber_9 : List vm_I := [.inl (.aload_n 0), .inl (.iload_n 1), .inl (.iload 4), .inl .iadd, .inl (.iload_n 3), .inr (.inl (.int 8, 0)), .inl (.iload 4), .inl .imul, .inl .iushr]
theorem kc_P_setNumber_9 : vm_chk m_P_setNumber 9 k_P_setNumber_9 = some 21 := by decide +kernel
theorem v_P_setNumber_21 : vm_okV m_P_setNumber m_P_setByte 21 42 2 (412, 413, 414, 44, 415) = true := by decide +kernel
def k_P_setNumber_24 : List vm_I := [.inr (.inr (.inr (4, 1)))]
theorem kc_P_setNumber_24 : vm_chk m_P_setNumber 24 k_P_setNumber_24 = some 27 := by decide +kernel
theorem d_P_setNumber_27 : vm_dec m_P_setNumber 27 (.goto (-24)) 3 = true := by decide +kernel
theorem d_P_setNumber_30 : vm_dec m_P_setNumber 30 .return_ 1 = true := by decide +kernel
def k_P_sumOn_0 : List vm_I := [.inl (.aload_n 0), .inl (.iload_n 2)]
theorem kc_P_sumOn_0 : vm_chk m_P_sumOn 0 k_P_sumOn_0 = some 2 := by decide +kernel
theorem v_P_sumOn_2 : vm_okV m_P_sumOn m_P_rightsOf 2 30 1 (335, 336, 337, 44, 338) = true := by decide +kernel
def k_P_sumOn_5 : List vm_I := [.inr (.inl (.int (-1), 0))]
theorem kc_P_sumOn_5 : vm_chk m_P_sumOn 5 k_P_sumOn_5 = some 6 := by decide +kernel
theorem d_P_sumOn_6 : vm_dec m_P_sumOn 6 (.if_icmp .eq 7) 3 = true := by decide +kernel
def k_P_sumOn_9 : List vm_I := [.inr (.inl (.int 1, 0))]
theorem kc_P_sumOn_9 : vm_chk m_P_sumOn 9 k_P_sumOn_9 = some 10 := by decide +kernel
theorem d_P_sumOn_10 : vm_dec m_P_sumOn 10 (.goto 4) 3 = true := by decide +kernel
def k_P_sumOn_13 : List vm_I := [.inr (.inl (.int 0, 0))]
theorem kc_P_sumOn_13 : vm_chk m_P_sumOn 13 k_P_sumOn_13 = some 14 := by decide +kernel
def k_P_sumOn_14 : List vm_I := [.inl (.istore_n 3), .inl (.iload_n 1), .inl (.istore 4), .inr (.inl (.int 0, 0)), .inl (.istore 5)]
theorem kc_P_sumOn_14 : vm_chk m_P_sumOn 14 k_P_sumOn_14 = some 21 := by decide +kernel
def k_P_sumOn_21 : List vm_I := [.inl (.iload 5), .inr (.inl (.int 256, 0))]
theorem kc_P_sumOn_21 : vm_chk m_P_sumOn 21 k_P_sumOn_21 = some 26 := by decide +kernel
theorem d_P_sumOn_26 : vm_dec m_P_sumOn 26 (.if_icmp .ge 39) 3 = true := by decide +kernel
def k_P_sumOn_29 : List vm_I := [.inr (.inl (.int 31, 0)), .inl (.iload 4), .inl .imul, .inl (.iload_n 3)]
theorem kc_P_sumOn_29 : vm_chk m_P_sumOn 29 k_P_sumOn_29 = some 35 := by decide +kernel
theorem d_P_sumOn_35 : vm_dec m_P_sumOn 35 (.ifCond .eq 18) 3 = true := by decide +kernel
def k_P_sumOn_38 : List vm_I := [.inl (.aload_n 0), .inl (.iload_n 2), .inr (.inl (.int 256, 0)), .inl .imul, .inl (.iload 5), .inl .iadd]
theorem kc_P_sumOn_38 : vm_chk m_P_sumOn 38 k_P_sumOn_38 = some 47 := by decide +kernel
theorem v_P_sumOn_47 : vm_okV m_P_sumOn m_P_byteAt 47 54 1 (438, 439, 440, 44, 441) = true := by decide +kernel
theorem d_P_sumOn_50 : vm_dec m_P_sumOn 50 (.goto 6) 3 = true := by decide +kernel
def k_P_sumOn_53 : List vm_I := [.inr (.inl (.int 1000, 0))]
theorem kc_P_sumOn_53 : vm_chk m_P_sumOn 53 k_P_sumOn_53 = some 56 := by decide +kernel
def k_P_sumOn_56 : List vm_I := [.inl .iadd, .inl (.istore 4), .inr (.inr (.inr (5, 1)))]
theorem kc_P_sumOn_56 : vm_chk m_P_sumOn 56 k_P_sumOn_56 = some 62 := by decide +kernel
theorem d_P_sumOn_62 : vm_dec m_P_sumOn 62 (.goto (-41)) 3 = true := by decide +kernel
def k_P_sumOn_65 : List vm_I := [.inl (.iload 4)]
theorem kc_P_sumOn_65 : vm_chk m_P_sumOn 65 k_P_sumOn_65 = some 67 := by decide +kernel
theorem d_P_sumOn_67 : vm_dec m_P_sumOn 67 .ireturn 1 = true := by decide +kernel
