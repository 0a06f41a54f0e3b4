def k_W_cell_0 : List vm_I := [.inl (.iload_n 1), .inl (.aload_n 0), .inl .arraylength]
theorem kc_W_cell_0 : vm_chk m_W_cell 0 k_W_cell_0 = some 3 := by decide +kernel
theorem d_W_cell_3 : vm_dec m_W_cell 3 (.if_icmp .ge 9) 3 = true := by decide +kernel
def k_W_cell_6 : List vm_I := [.inl (.aload_n 0), .inl (.iload_n 1), .inl .iaload]
theorem kc_W_cell_6 : vm_chk m_W_cell 6 k_W_cell_6 = some 9 := by decide +kernel
theorem d_W_cell_9 : vm_dec m_W_cell 9 (.goto 4) 3 = true := by decide +kernel
def k_W_cell_12 : List vm_I := [.inr (.inl (.int 0, 0))]
theorem kc_W_cell_12 : vm_chk m_W_cell 12 k_W_cell_12 = some 13 := by decide +kernel
theorem d_W_cell_13 : vm_dec m_W_cell 13 .ireturn 1 = true := by decide +kernel
-- W_law_0 [0, 'new', '#7', 'class ImageLoader']
def k_W_law_3 : List vm_I := [.inl .dup, .inl (.aload_n 0), .inr (.inl (.int 0, 0))]
theorem kc_W_law_3 : vm_chk m_W_law 3 k_W_law_3 = some 6 := by decide +kernel
theorem v_W_law_6 : vm_okS m_W_law m_W_cell 6 9 2 (579, 580, 41, 581) = true := by decide +kernel
-- theorem v_W_law_9 : vm_okI_ m_W_law m_L_init 9 15 1 (52, 53, 42, 54) = true := by decide +kernel
def k_W_law_12 : List vm_I := [.inl (.astore_n 1)]
theorem kc_W_law_12 : vm_chk m_W_law 12 k_W_law_12 = some 13 := by decide +kernel
-- W_law_13 [13, 'new', '#18', 'class ImageLoaderModel']
def k_W_law_16 : List vm_I := [.inl .dup, .inl (.aload_n 0), .inr (.inl (.int 0, 0))]
theorem kc_W_law_16 : vm_chk m_W_law 16 k_W_law_16 = some 19 := by decide +kernel
theorem v_W_law_19 : vm_okS m_W_law m_W_cell 19 9 2 (579, 580, 41, 581) = true := by decide +kernel
-- theorem v_W_law_22 : vm_okI_ m_W_law m_M_init 22 20 1 (584, 585, 48, 586) = true := by decide +kernel
def k_W_law_25 : List vm_I := [.inl (.astore_n 2), .inr (.inl (.int 1, 0)), .inl (.istore_n 3)]
theorem kc_W_law_25 : vm_chk m_W_law 25 k_W_law_25 = some 28 := by decide +kernel
def k_W_law_28 : List vm_I := [.inl (.iload_n 3), .inl (.aload_n 0), .inl .arraylength, .inr (.inl (.int 4, 0)), .inl .isub]
theorem kc_W_law_28 : vm_chk m_W_law 28 k_W_law_28 = some 33 := by decide +kernel
theorem d_W_law_33 : vm_dec m_W_law 33 (.if_icmp .gt 583) 3 = true := by decide +kernel
def k_W_law_36 : List vm_I := [.inl (.aload_n 0), .inl (.iload_n 3), .inl .iaload, .inr (.inl (.int 15, 0)), .inl .iand]
theorem kc_W_law_36 : vm_chk m_W_law 36 k_W_law_36 = some 42 := by decide +kernel
theorem d_W_law_42 : vm_dec m_W_law 42 (.tableswitch 568 0 15 #[78, 141, 164, 207, 230, 253, 276, 299, 322, 356, 399, 423, 456, 489, 512, 535]) 78 = true := by decide +kernel
def k_W_law_120 : List vm_I := [.inl (.aload_n 1), .inl (.aload_n 0), .inl (.iload_n 3), .inr (.inl (.int 1, 0)), .inl .iadd, .inl .iaload, .inl .i2l, .inr (.inl (.int 32, 0)), .inl .lshl, .inl (.aload_n 0), .inl (.iload_n 3), .inr (.inl (.int 2, 0)), .inl .iadd, .inl .iaload, .inl .i2l, .inr (.inl (.long 4294967295, 824)), .inl .land, .inl .lor, .inl (.aload_n 0), .inl (.iload_n 3), .inr (.inl (.int 3, 0)), .inl .iadd, .inl .iaload]
theorem kc_W_law_120 : vm_chk m_W_law 120 k_W_law_120 = some 146 := by decide +kernel
theorem v_W_law_146 : vm_okV m_W_law m_L_add 146 23 2 (206, 207, 208, 42, 209) = true := by decide +kernel
def k_W_law_149 : List vm_I := [.inl (.aload_n 2), .inl (.aload_n 0), .inl (.iload_n 3), .inr (.inl (.int 1, 0)), .inl .iadd, .inl .iaload, .inl .i2l, .inr (.inl (.int 32, 0)), .inl .lshl, .inl (.aload_n 0), .inl (.iload_n 3), .inr (.inl (.int 2, 0)), .inl .iadd, .inl .iaload, .inl .i2l, .inr (.inl (.long 4294967295, 824)), .inl .land, .inl .lor, .inl (.aload_n 0), .inl (.iload_n 3), .inr (.inl (.int 3, 0)), .inl .iadd, .inl .iaload]
theorem kc_W_law_149 : vm_chk m_W_law 149 k_W_law_149 = some 175 := by decide +kernel
theorem v_W_law_175 : vm_okV m_W_law m_M_add 175 27 2 (663, 664, 665, 48, 666) = true := by decide +kernel
theorem d_W_law_178 : vm_dec m_W_law 178 (.if_icmp .eq 432) 3 = true := by decide +kernel
def k_W_law_181 : List vm_I := [.inr (.inl (.int 0, 0))]
theorem kc_W_law_181 : vm_chk m_W_law 181 k_W_law_181 = some 182 := by decide +kernel
theorem d_W_law_182 : vm_dec m_W_law 182 .ireturn 1 = true := by decide +kernel
def k_W_law_183 : List vm_I := [.inl (.aload_n 1), .inl (.aload_n 0), .inl (.iload_n 3), .inr (.inl (.int 1, 0)), .inl .iadd, .inl .iaload]
theorem kc_W_law_183 : vm_chk m_W_law 183 k_W_law_183 = some 189 := by decide +kernel
theorem v_W_law_189 : vm_okV m_W_law m_L_zeros 189 28 1 (222, 223, 224, 42, 225) = true := by decide +kernel
def k_W_law_192 : List vm_I := [.inl (.aload_n 2), .inl (.aload_n 0), .inl (.iload_n 3), .inr (.inl (.int 1, 0)), .inl .iadd, .inl .iaload]
theorem kc_W_law_192 : vm_chk m_W_law 192 k_W_law_192 = some 198 := by decide +kernel
theorem v_W_law_198 : vm_okV m_W_law m_M_zeros 198 32 1 (671, 672, 673, 48, 674) = true := by decide +kernel
theorem d_W_law_201 : vm_dec m_W_law 201 (.if_icmp .eq 409) 3 = true := by decide +kernel
def k_W_law_204 : List vm_I := [.inr (.inl (.int 0, 0))]
theorem kc_W_law_204 : vm_chk m_W_law 204 k_W_law_204 = some 205 := by decide +kernel
theorem d_W_law_205 : vm_dec m_W_law 205 .ireturn 1 = true := by decide +kernel
def k_W_law_206 : List vm_I := [.inl (.aload_n 1), .inl (.aload_n 0), .inl (.iload_n 3), .inr (.inl (.int 1, 0)), .inl .iadd, .inl .iaload, .inl (.aload_n 0), .inl (.iload_n 3), .inr (.inl (.int 2, 0)), .inl .iadd, .inl .iaload, .inl (.aload_n 0), .inl (.iload_n 3), .inr (.inl (.int 3, 0)), .inl .iadd, .inl .iaload]
theorem kc_W_law_206 : vm_chk m_W_law 206 k_W_law_206 = some 222 := by decide +kernel
theorem v_W_law_222 : vm_okV m_W_law m_L_poke 222 33 3 (226, 227, 228, 42, 229) = true := by decide +kernel
def k_W_law_225 : List vm_I := [.inl (.aload_n 2), .inl (.aload_n 0), .inl (.iload_n 3), .inr (.inl (.int 1, 0)), .inl .iadd, .inl .iaload, .inl (.aload_n 0), .inl (.iload_n 3), .inr (.inl (.int 2, 0)), .inl .iadd, .inl .iaload, .inl (.aload_n 0), .inl (.iload_n 3), .inr (.inl (.int 3, 0)), .inl .iadd, .inl .iaload]
theorem kc_W_law_225 : vm_chk m_W_law 225 k_W_law_225 = some 241 := by decide +kernel
theorem v_W_law_241 : vm_okV m_W_law m_M_poke 241 37 3 (675, 676, 677, 48, 678) = true := by decide +kernel
theorem d_W_law_244 : vm_dec m_W_law 244 (.if_icmp .eq 366) 3 = true := by decide +kernel
def k_W_law_247 : List vm_I := [.inr (.inl (.int 0, 0))]
theorem kc_W_law_247 : vm_chk m_W_law 247 k_W_law_247 = some 248 := by decide +kernel
theorem d_W_law_248 : vm_dec m_W_law 248 .ireturn 1 = true := by decide +kernel
def k_W_law_249 : List vm_I := [.inl (.aload_n 1), .inl (.aload_n 0), .inl (.iload_n 3), .inr (.inl (.int 1, 0)), .inl .iadd, .inl .iaload]
theorem kc_W_law_249 : vm_chk m_W_law 249 k_W_law_249 = some 255 := by decide +kernel
theorem v_W_law_255 : vm_okV m_W_law m_L_peek 255 38 1 (241, 242, 243, 42, 244) = true := by decide +kernel
def k_W_law_258 : List vm_I := [.inl (.aload_n 2), .inl (.aload_n 0), .inl (.iload_n 3), .inr (.inl (.int 1, 0)), .inl .iadd, .inl .iaload]
theorem kc_W_law_258 : vm_chk m_W_law 258 k_W_law_258 = some 264 := by decide +kernel
theorem v_W_law_264 : vm_okV m_W_law m_M_peek 264 41 1 (682, 683, 684, 48, 685) = true := by decide +kernel
theorem d_W_law_267 : vm_dec m_W_law 267 (.if_icmp .eq 343) 3 = true := by decide +kernel
def k_W_law_270 : List vm_I := [.inr (.inl (.int 0, 0))]
theorem kc_W_law_270 : vm_chk m_W_law 270 k_W_law_270 = some 271 := by decide +kernel
theorem d_W_law_271 : vm_dec m_W_law 271 .ireturn 1 = true := by decide +kernel
def k_W_law_272 : List vm_I := [.inl (.aload_n 1), .inl (.aload_n 0), .inl (.iload_n 3), .inr (.inl (.int 1, 0)), .inl .iadd, .inl .iaload]
theorem kc_W_law_272 : vm_chk m_W_law 272 k_W_law_272 = some 278 := by decide +kernel
theorem v_W_law_278 : vm_okV m_W_law m_L_cut 278 42 1 (249, 250, 251, 42, 252) = true := by decide +kernel
def k_W_law_281 : List vm_I := [.inl (.aload_n 2), .inl (.aload_n 0), .inl (.iload_n 3), .inr (.inl (.int 1, 0)), .inl .iadd, .inl .iaload]
theorem kc_W_law_281 : vm_chk m_W_law 281 k_W_law_281 = some 287 := by decide +kernel
theorem v_W_law_287 : vm_okV m_W_law m_M_cut 287 45 1 (686, 687, 688, 48, 689) = true := by decide +kernel
theorem d_W_law_290 : vm_dec m_W_law 290 (.if_icmp .eq 320) 3 = true := by decide +kernel
def k_W_law_293 : List vm_I := [.inr (.inl (.int 0, 0))]
theorem kc_W_law_293 : vm_chk m_W_law 293 k_W_law_293 = some 294 := by decide +kernel
theorem d_W_law_294 : vm_dec m_W_law 294 .ireturn 1 = true := by decide +kernel
def k_W_law_295 : List vm_I := [.inl (.aload_n 1), .inl (.aload_n 0), .inl (.iload_n 3), .inr (.inl (.int 1, 0)), .inl .iadd, .inl .iaload]
theorem kc_W_law_295 : vm_chk m_W_law 295 k_W_law_295 = some 301 := by decide +kernel
theorem v_W_law_301 : vm_okV m_W_law m_L_load 301 46 1 (257, 258, 259, 42, 260) = true := by decide +kernel
def k_W_law_304 : List vm_I := [.inl (.aload_n 2), .inl (.aload_n 0), .inl (.iload_n 3), .inr (.inl (.int 1, 0)), .inl .iadd, .inl .iaload]
theorem kc_W_law_304 : vm_chk m_W_law 304 k_W_law_304 = some 310 := by decide +kernel
theorem v_W_law_310 : vm_okV m_W_law m_M_load 310 49 1 (690, 691, 692, 48, 693) = true := by decide +kernel
theorem d_W_law_313 : vm_dec m_W_law 313 (.if_icmp .eq 297) 3 = true := by decide +kernel
def k_W_law_316 : List vm_I := [.inr (.inl (.int 0, 0))]
theorem kc_W_law_316 : vm_chk m_W_law 316 k_W_law_316 = some 317 := by decide +kernel
theorem d_W_law_317 : vm_dec m_W_law 317 .ireturn 1 = true := by decide +kernel
def k_W_law_318 : List vm_I := [.inl (.aload_n 1), .inl (.aload_n 0), .inl (.iload_n 3), .inr (.inl (.int 1, 0)), .inl .iadd, .inl .iaload]
theorem kc_W_law_318 : vm_chk m_W_law 318 k_W_law_318 = some 324 := by decide +kernel
theorem v_W_law_324 : vm_okV m_W_law m_L_told 324 50 1 (479, 480, 481, 42, 482) = true := by decide +kernel
def k_W_law_327 : List vm_I := [.inl (.aload_n 2), .inl (.aload_n 0), .inl (.iload_n 3), .inr (.inl (.int 1, 0)), .inl .iadd, .inl .iaload]
theorem kc_W_law_327 : vm_chk m_W_law 327 k_W_law_327 = some 333 := by decide +kernel
theorem v_W_law_333 : vm_okV m_W_law m_M_told 333 53 1 (769, 770, 771, 48, 772) = true := by decide +kernel
theorem d_W_law_336 : vm_dec m_W_law 336 (.if_icmp .eq 274) 3 = true := by decide +kernel
def k_W_law_339 : List vm_I := [.inr (.inl (.int 0, 0))]
theorem kc_W_law_339 : vm_chk m_W_law 339 k_W_law_339 = some 340 := by decide +kernel
theorem d_W_law_340 : vm_dec m_W_law 340 .ireturn 1 = true := by decide +kernel
def k_W_law_341 : List vm_I := [.inl (.aload_n 1), .inl (.aload_n 0), .inl (.iload_n 3), .inr (.inl (.int 1, 0)), .inl .iadd, .inl .iaload]
theorem kc_W_law_341 : vm_chk m_W_law 341 k_W_law_341 = some 347 := by decide +kernel
theorem v_W_law_347 : vm_okV m_W_law m_L_stack 347 54 1 (483, 484, 485, 42, 486) = true := by decide +kernel
def k_W_law_350 : List vm_I := [.inl (.aload_n 2), .inl (.aload_n 0), .inl (.iload_n 3), .inr (.inl (.int 1, 0)), .inl .iadd, .inl .iaload]
theorem kc_W_law_350 : vm_chk m_W_law 350 k_W_law_350 = some 356 := by decide +kernel
theorem v_W_law_356 : vm_okV m_W_law m_M_stack 356 57 1 (773, 774, 775, 48, 776) = true := by decide +kernel
theorem d_W_law_359 : vm_dec m_W_law 359 (.if_icmp .eq 251) 3 = true := by decide +kernel
def k_W_law_362 : List vm_I := [.inr (.inl (.int 0, 0))]
theorem kc_W_law_362 : vm_chk m_W_law 362 k_W_law_362 = some 363 := by decide +kernel
theorem d_W_law_363 : vm_dec m_W_law 363 .ireturn 1 = true := by decide +kernel
def k_W_law_364 : List vm_I := [.inl (.aload_n 1), .inl (.aload_n 0), .inl (.iload_n 3), .inr (.inl (.int 1, 0)), .inl .iadd, .inl .iaload, .inl (.aload_n 0), .inl (.iload_n 3), .inr (.inl (.int 2, 0)), .inl .iadd, .inl .iaload]
theorem kc_W_law_364 : vm_chk m_W_law 364 k_W_law_364 = some 375 := by decide +kernel
theorem v_W_law_375 : vm_okV m_W_law m_L_read 375 58 2 (515, 516, 517, 42, 518) = true := by decide +kernel
def k_W_law_378 : List vm_I := [.inl (.aload_n 2), .inl (.aload_n 0), .inl (.iload_n 3), .inr (.inl (.int 1, 0)), .inl .iadd, .inl .iaload, .inl (.aload_n 0), .inl (.iload_n 3), .inr (.inl (.int 2, 0)), .inl .iadd, .inl .iaload]
theorem kc_W_law_378 : vm_chk m_W_law 378 k_W_law_378 = some 389 := by decide +kernel
theorem v_W_law_389 : vm_okV m_W_law m_M_read 389 62 2 (777, 778, 779, 48, 780) = true := by decide +kernel
theorem dl_W_law_392 : vm_dec m_W_law 392 .lcmp 1 = true := by decide +kernel
theorem d_W_law_392 : vm_dec m_W_law 393 (.ifCond .eq 217) 3 = true := by decide +kernel
def k_W_law_396 : List vm_I := [.inr (.inl (.int 0, 0))]
theorem kc_W_law_396 : vm_chk m_W_law 396 k_W_law_396 = some 397 := by decide +kernel
theorem d_W_law_397 : vm_dec m_W_law 397 .ireturn 1 = true := by decide +kernel
def k_W_law_398 : List vm_I := [.inl (.aload_n 1), .inl (.aload_n 0), .inl (.iload_n 3), .inr (.inl (.int 1, 0)), .inl .iadd, .inl .iaload, .inl (.aload_n 0), .inl (.iload_n 3), .inr (.inl (.int 2, 0)), .inl .iadd, .inl .iaload, .inl (.aload_n 0), .inl (.iload_n 3), .inr (.inl (.int 3, 0)), .inl .iadd, .inl .iaload]
theorem kc_W_law_398 : vm_chk m_W_law 398 k_W_law_398 = some 414 := by decide +kernel
theorem v_W_law_414 : vm_okV m_W_law m_L_write 414 63 3 (528, 529, 530, 42, 531) = true := by decide +kernel
def k_W_law_417 : List vm_I := [.inl (.aload_n 2), .inl (.aload_n 0), .inl (.iload_n 3), .inr (.inl (.int 1, 0)), .inl .iadd, .inl .iaload, .inl (.aload_n 0), .inl (.iload_n 3), .inr (.inl (.int 2, 0)), .inl .iadd, .inl .iaload, .inl (.aload_n 0), .inl (.iload_n 3), .inr (.inl (.int 3, 0)), .inl .iadd, .inl .iaload]
theorem kc_W_law_417 : vm_chk m_W_law 417 k_W_law_417 = some 433 := by decide +kernel
theorem v_W_law_433 : vm_okV m_W_law m_M_write 433 66 3 (789, 790, 791, 48, 792) = true := by decide +kernel
theorem d_W_law_436 : vm_dec m_W_law 436 (.if_icmp .eq 174) 3 = true := by decide +kernel
def k_W_law_439 : List vm_I := [.inr (.inl (.int 0, 0))]
theorem kc_W_law_439 : vm_chk m_W_law 439 k_W_law_439 = some 440 := by decide +kernel
theorem d_W_law_440 : vm_dec m_W_law 440 .ireturn 1 = true := by decide +kernel
def k_W_law_441 : List vm_I := [.inl (.aload_n 1), .inl (.aload_n 0), .inl (.iload_n 3), .inr (.inl (.int 1, 0)), .inl .iadd, .inl .iaload]
theorem kc_W_law_441 : vm_chk m_W_law 441 k_W_law_441 = some 447 := by decide +kernel
theorem v_W_law_447 : vm_okV m_W_law m_L_fetch 447 67 1 (532, 533, 534, 42, 535) = true := by decide +kernel
def k_W_law_450 : List vm_I := [.inl (.aload_n 2), .inl (.aload_n 0), .inl (.iload_n 3), .inr (.inl (.int 1, 0)), .inl .iadd, .inl .iaload]
theorem kc_W_law_450 : vm_chk m_W_law 450 k_W_law_450 = some 456 := by decide +kernel
theorem v_W_law_456 : vm_okV m_W_law m_M_fetch 456 71 1 (793, 794, 795, 48, 796) = true := by decide +kernel
theorem dl_W_law_459 : vm_dec m_W_law 459 .lcmp 1 = true := by decide +kernel
theorem d_W_law_459 : vm_dec m_W_law 460 (.ifCond .eq 150) 3 = true := by decide +kernel
def k_W_law_463 : List vm_I := [.inr (.inl (.int 0, 0))]
theorem kc_W_law_463 : vm_chk m_W_law 463 k_W_law_463 = some 464 := by decide +kernel
theorem d_W_law_464 : vm_dec m_W_law 464 .ireturn 1 = true := by decide +kernel
def k_W_law_465 : List vm_I := [.inl (.aload_n 1), .inl (.aload_n 0), .inl (.iload_n 3), .inr (.inl (.int 1, 0)), .inl .iadd, .inl .iaload, .inl (.aload_n 0), .inl (.iload_n 3), .inr (.inl (.int 2, 0)), .inl .iadd, .inl .iaload]
theorem kc_W_law_465 : vm_chk m_W_law 465 k_W_law_465 = some 476 := by decide +kernel
theorem v_W_law_476 : vm_okV m_W_law m_L_protect 476 72 2 (536, 537, 538, 42, 539) = true := by decide +kernel
def k_W_law_479 : List vm_I := [.inl (.aload_n 2), .inl (.aload_n 0), .inl (.iload_n 3), .inr (.inl (.int 1, 0)), .inl .iadd, .inl .iaload, .inl (.aload_n 0), .inl (.iload_n 3), .inr (.inl (.int 2, 0)), .inl .iadd, .inl .iaload]
theorem kc_W_law_479 : vm_chk m_W_law 479 k_W_law_479 = some 490 := by decide +kernel
theorem v_W_law_490 : vm_okV m_W_law m_M_protect 490 76 2 (797, 798, 799, 48, 800) = true := by decide +kernel
theorem d_W_law_493 : vm_dec m_W_law 493 (.if_icmp .eq 117) 3 = true := by decide +kernel
def k_W_law_496 : List vm_I := [.inr (.inl (.int 0, 0))]
theorem kc_W_law_496 : vm_chk m_W_law 496 k_W_law_496 = some 497 := by decide +kernel
theorem d_W_law_497 : vm_dec m_W_law 497 .ireturn 1 = true := by decide +kernel
def k_W_law_498 : List vm_I := [.inl (.aload_n 1), .inl (.aload_n 0), .inl (.iload_n 3), .inr (.inl (.int 1, 0)), .inl .iadd, .inl .iaload, .inl (.aload_n 0), .inl (.iload_n 3), .inr (.inl (.int 2, 0)), .inl .iadd, .inl .iaload]
theorem kc_W_law_498 : vm_chk m_W_law 498 k_W_law_498 = some 509 := by decide +kernel
theorem v_W_law_509 : vm_okV m_W_law m_L_unmap 509 77 2 (543, 544, 545, 42, 546) = true := by decide +kernel
def k_W_law_512 : List vm_I := [.inl (.aload_n 2), .inl (.aload_n 0), .inl (.iload_n 3), .inr (.inl (.int 1, 0)), .inl .iadd, .inl .iaload, .inl (.aload_n 0), .inl (.iload_n 3), .inr (.inl (.int 2, 0)), .inl .iadd, .inl .iaload]
theorem kc_W_law_512 : vm_chk m_W_law 512 k_W_law_512 = some 523 := by decide +kernel
theorem v_W_law_523 : vm_okV m_W_law m_M_unmap 523 80 2 (804, 805, 806, 48, 807) = true := by decide +kernel
theorem d_W_law_526 : vm_dec m_W_law 526 (.if_icmp .eq 84) 3 = true := by decide +kernel
def k_W_law_529 : List vm_I := [.inr (.inl (.int 0, 0))]
theorem kc_W_law_529 : vm_chk m_W_law 529 k_W_law_529 = some 530 := by decide +kernel
theorem d_W_law_530 : vm_dec m_W_law 530 .ireturn 1 = true := by decide +kernel
def k_W_law_531 : List vm_I := [.inl (.aload_n 1), .inl (.aload_n 0), .inl (.iload_n 3), .inr (.inl (.int 1, 0)), .inl .iadd, .inl .iaload]
theorem kc_W_law_531 : vm_chk m_W_law 531 k_W_law_531 = some 537 := by decide +kernel
theorem v_W_law_537 : vm_okV m_W_law m_L_rights 537 81 1 (555, 556, 557, 42, 558) = true := by decide +kernel
def k_W_law_540 : List vm_I := [.inl (.aload_n 2), .inl (.aload_n 0), .inl (.iload_n 3), .inr (.inl (.int 1, 0)), .inl .iadd, .inl .iaload]
theorem kc_W_law_540 : vm_chk m_W_law 540 k_W_law_540 = some 546 := by decide +kernel
theorem v_W_law_546 : vm_okV m_W_law m_M_rights 546 84 1 (808, 809, 810, 48, 811) = true := by decide +kernel
theorem d_W_law_549 : vm_dec m_W_law 549 (.if_icmp .eq 61) 3 = true := by decide +kernel
def k_W_law_552 : List vm_I := [.inr (.inl (.int 0, 0))]
theorem kc_W_law_552 : vm_chk m_W_law 552 k_W_law_552 = some 553 := by decide +kernel
theorem d_W_law_553 : vm_dec m_W_law 553 .ireturn 1 = true := by decide +kernel
def k_W_law_554 : List vm_I := [.inl (.aload_n 1), .inl (.aload_n 0), .inl (.iload_n 3), .inr (.inl (.int 1, 0)), .inl .iadd, .inl .iaload]
theorem kc_W_law_554 : vm_chk m_W_law 554 k_W_law_554 = some 560 := by decide +kernel
theorem v_W_law_560 : vm_okV m_W_law m_L_count 560 85 1 (559, 560, 561, 42, 562) = true := by decide +kernel
def k_W_law_563 : List vm_I := [.inl (.aload_n 2), .inl (.aload_n 0), .inl (.iload_n 3), .inr (.inl (.int 1, 0)), .inl .iadd, .inl .iaload]
theorem kc_W_law_563 : vm_chk m_W_law 563 k_W_law_563 = some 569 := by decide +kernel
theorem v_W_law_569 : vm_okV m_W_law m_M_count 569 88 1 (812, 813, 814, 48, 815) = true := by decide +kernel
theorem d_W_law_572 : vm_dec m_W_law 572 (.if_icmp .eq 38) 3 = true := by decide +kernel
def k_W_law_575 : List vm_I := [.inr (.inl (.int 0, 0))]
theorem kc_W_law_575 : vm_chk m_W_law 575 k_W_law_575 = some 576 := by decide +kernel
theorem d_W_law_576 : vm_dec m_W_law 576 .ireturn 1 = true := by decide +kernel
def k_W_law_577 : List vm_I := [.inl (.aload_n 1), .inl (.aload_n 0), .inl (.iload_n 3), .inr (.inl (.int 1, 0)), .inl .iadd, .inl .iaload, .inl (.aload_n 0), .inl (.iload_n 3), .inr (.inl (.int 2, 0)), .inl .iadd, .inl .iaload]
theorem kc_W_law_577 : vm_chk m_W_law 577 k_W_law_577 = some 588 := by decide +kernel
theorem v_W_law_588 : vm_okV m_W_law m_L_sum 588 89 2 (571, 572, 573, 42, 574) = true := by decide +kernel
def k_W_law_591 : List vm_I := [.inl (.aload_n 2), .inl (.aload_n 0), .inl (.iload_n 3), .inr (.inl (.int 1, 0)), .inl .iadd, .inl .iaload, .inl (.aload_n 0), .inl (.iload_n 3), .inr (.inl (.int 2, 0)), .inl .iadd, .inl .iaload]
theorem kc_W_law_591 : vm_chk m_W_law 591 k_W_law_591 = some 602 := by decide +kernel
theorem v_W_law_602 : vm_okV m_W_law m_M_sum 602 92 2 (820, 821, 822, 48, 823) = true := by decide +kernel
theorem d_W_law_605 : vm_dec m_W_law 605 (.if_icmp .eq 5) 3 = true := by decide +kernel
def k_W_law_608 : List vm_I := [.inr (.inl (.int 0, 0))]
theorem kc_W_law_608 : vm_chk m_W_law 608 k_W_law_608 = some 609 := by decide +kernel
theorem d_W_law_609 : vm_dec m_W_law 609 .ireturn 1 = true := by decide +kernel
def k_W_law_610 : List vm_I := [.inr (.inr (.inr (3, 4)))]
theorem kc_W_law_610 : vm_chk m_W_law 610 k_W_law_610 = some 613 := by decide +kernel
theorem d_W_law_613 : vm_dec m_W_law 613 (.goto (-585)) 3 = true := by decide +kernel
def k_W_law_616 : List vm_I := [.inr (.inl (.int 1, 0))]
theorem kc_W_law_616 : vm_chk m_W_law 616 k_W_law_616 = some 617 := by decide +kernel
theorem d_W_law_617 : vm_dec m_W_law 617 .ireturn 1 = true := by decide +kernel
