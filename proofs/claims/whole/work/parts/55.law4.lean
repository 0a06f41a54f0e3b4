theorem kw_W_law_120 : vm_chk m_W_law 120 [.inl (.aload_n 1), .inl (.aload_n 0), .inl (.iload_n 3), .inr (.inl (.int 1, 0)), .inl .iadd] = some 125 := by decide +kernel
theorem dw_W_law_125 : vm_dec m_W_law 125 .iaload 1 = true := by decide +kernel
theorem kw_W_law_126 : vm_chk m_W_law 126 [.inl .i2l, .inr (.inl (.int 32, 0)), .inl .lshl, .inl (.aload_n 0), .inl (.iload_n 3), .inr (.inl (.int 2, 0)), .inl .iadd] = some 134 := by decide +kernel
theorem dw_W_law_134 : vm_dec m_W_law 134 .iaload 1 = true := by decide +kernel
theorem kw_W_law_135 : vm_chk m_W_law 135 [.inl .i2l, .inr (.inl (.long 4294967295, 824)), .inl .land, .inl .lor, .inl (.aload_n 0), .inl (.iload_n 3), .inr (.inl (.int 3, 0)), .inl .iadd] = some 145 := by decide +kernel
theorem dw_W_law_145 : vm_dec m_W_law 145 .iaload 1 = true := by decide +kernel
theorem kw_W_law_149 : vm_chk m_W_law 149 [.inl (.aload_n 2), .inl (.aload_n 0), .inl (.iload_n 3), .inr (.inl (.int 1, 0)), .inl .iadd] = some 154 := by decide +kernel
theorem dw_W_law_154 : vm_dec m_W_law 154 .iaload 1 = true := by decide +kernel
theorem kw_W_law_155 : vm_chk m_W_law 155 [.inl .i2l, .inr (.inl (.int 32, 0)), .inl .lshl, .inl (.aload_n 0), .inl (.iload_n 3), .inr (.inl (.int 2, 0)), .inl .iadd] = some 163 := by decide +kernel
theorem dw_W_law_163 : vm_dec m_W_law 163 .iaload 1 = true := by decide +kernel
theorem kw_W_law_164 : vm_chk m_W_law 164 [.inl .i2l, .inr (.inl (.long 4294967295, 824)), .inl .land, .inl .lor, .inl (.aload_n 0), .inl (.iload_n 3), .inr (.inl (.int 3, 0)), .inl .iadd] = some 174 := by decide +kernel
theorem dw_W_law_174 : vm_dec m_W_law 174 .iaload 1 = true := by decide +kernel
theorem kw_W_law_183 : vm_chk m_W_law 183 [.inl (.aload_n 1), .inl (.aload_n 0), .inl (.iload_n 3), .inr (.inl (.int 1, 0)), .inl .iadd] = some 188 := by decide +kernel
theorem dw_W_law_188 : vm_dec m_W_law 188 .iaload 1 = true := by decide +kernel
theorem kw_W_law_192 : vm_chk m_W_law 192 [.inl (.aload_n 2), .inl (.aload_n 0), .inl (.iload_n 3), .inr (.inl (.int 1, 0)), .inl .iadd] = some 197 := by decide +kernel
theorem dw_W_law_197 : vm_dec m_W_law 197 .iaload 1 = true := by decide +kernel
theorem kw_W_law_206 : vm_chk m_W_law 206 [.inl (.aload_n 1), .inl (.aload_n 0), .inl (.iload_n 3), .inr (.inl (.int 1, 0)), .inl .iadd] = some 211 := by decide +kernel
theorem dw_W_law_211 : vm_dec m_W_law 211 .iaload 1 = true := by decide +kernel
theorem kw_W_law_212 : vm_chk m_W_law 212 [.inl (.aload_n 0), .inl (.iload_n 3), .inr (.inl (.int 2, 0)), .inl .iadd] = some 216 := by decide +kernel
theorem dw_W_law_216 : vm_dec m_W_law 216 .iaload 1 = true := by decide +kernel
theorem kw_W_law_217 : vm_chk m_W_law 217 [.inl (.aload_n 0), .inl (.iload_n 3), .inr (.inl (.int 3, 0)), .inl .iadd] = some 221 := by decide +kernel
theorem dw_W_law_221 : vm_dec m_W_law 221 .iaload 1 = true := by decide +kernel
theorem kw_W_law_225 : vm_chk m_W_law 225 [.inl (.aload_n 2), .inl (.aload_n 0), .inl (.iload_n 3), .inr (.inl (.int 1, 0)), .inl .iadd] = some 230 := by decide +kernel
theorem dw_W_law_230 : vm_dec m_W_law 230 .iaload 1 = true := by decide +kernel
theorem kw_W_law_231 : vm_chk m_W_law 231 [.inl (.aload_n 0), .inl (.iload_n 3), .inr (.inl (.int 2, 0)), .inl .iadd] = some 235 := by decide +kernel
theorem dw_W_law_235 : vm_dec m_W_law 235 .iaload 1 = true := by decide +kernel
theorem kw_W_law_236 : vm_chk m_W_law 236 [.inl (.aload_n 0), .inl (.iload_n 3), .inr (.inl (.int 3, 0)), .inl .iadd] = some 240 := by decide +kernel
theorem dw_W_law_240 : vm_dec m_W_law 240 .iaload 1 = true := by decide +kernel
theorem kw_W_law_249 : vm_chk m_W_law 249 [.inl (.aload_n 1), .inl (.aload_n 0), .inl (.iload_n 3), .inr (.inl (.int 1, 0)), .inl .iadd] = some 254 := by decide +kernel
theorem dw_W_law_254 : vm_dec m_W_law 254 .iaload 1 = true := by decide +kernel
theorem kw_W_law_258 : vm_chk m_W_law 258 [.inl (.aload_n 2), .inl (.aload_n 0), .inl (.iload_n 3), .inr (.inl (.int 1, 0)), .inl .iadd] = some 263 := by decide +kernel
theorem dw_W_law_263 : vm_dec m_W_law 263 .iaload 1 = true := by decide +kernel
theorem kw_W_law_272 : vm_chk m_W_law 272 [.inl (.aload_n 1), .inl (.aload_n 0), .inl (.iload_n 3), .inr (.inl (.int 1, 0)), .inl .iadd] = some 277 := by decide +kernel
theorem dw_W_law_277 : vm_dec m_W_law 277 .iaload 1 = true := by decide +kernel
theorem kw_W_law_281 : vm_chk m_W_law 281 [.inl (.aload_n 2), .inl (.aload_n 0), .inl (.iload_n 3), .inr (.inl (.int 1, 0)), .inl .iadd] = some 286 := by decide +kernel
theorem dw_W_law_286 : vm_dec m_W_law 286 .iaload 1 = true := by decide +kernel
theorem kw_W_law_295 : vm_chk m_W_law 295 [.inl (.aload_n 1), .inl (.aload_n 0), .inl (.iload_n 3), .inr (.inl (.int 1, 0)), .inl .iadd] = some 300 := by decide +kernel
theorem dw_W_law_300 : vm_dec m_W_law 300 .iaload 1 = true := by decide +kernel
theorem kw_W_law_304 : vm_chk m_W_law 304 [.inl (.aload_n 2), .inl (.aload_n 0), .inl (.iload_n 3), .inr (.inl (.int 1, 0)), .inl .iadd] = some 309 := by decide +kernel
theorem dw_W_law_309 : vm_dec m_W_law 309 .iaload 1 = true := by decide +kernel
theorem kw_W_law_318 : vm_chk m_W_law 318 [.inl (.aload_n 1), .inl (.aload_n 0), .inl (.iload_n 3), .inr (.inl (.int 1, 0)), .inl .iadd] = some 323 := by decide +kernel
theorem dw_W_law_323 : vm_dec m_W_law 323 .iaload 1 = true := by decide +kernel
theorem kw_W_law_327 : vm_chk m_W_law 327 [.inl (.aload_n 2), .inl (.aload_n 0), .inl (.iload_n 3), .inr (.inl (.int 1, 0)), .inl .iadd] = some 332 := by decide +kernel
theorem dw_W_law_332 : vm_dec m_W_law 332 .iaload 1 = true := by decide +kernel
theorem kw_W_law_341 : vm_chk m_W_law 341 [.inl (.aload_n 1), .inl (.aload_n 0), .inl (.iload_n 3), .inr (.inl (.int 1, 0)), .inl .iadd] = some 346 := by decide +kernel
theorem dw_W_law_346 : vm_dec m_W_law 346 .iaload 1 = true := by decide +kernel
theorem kw_W_law_350 : vm_chk m_W_law 350 [.inl (.aload_n 2), .inl (.aload_n 0), .inl (.iload_n 3), .inr (.inl (.int 1, 0)), .inl .iadd] = some 355 := by decide +kernel
theorem dw_W_law_355 : vm_dec m_W_law 355 .iaload 1 = true := by decide +kernel
theorem kw_W_law_364 : vm_chk m_W_law 364 [.inl (.aload_n 1), .inl (.aload_n 0), .inl (.iload_n 3), .inr (.inl (.int 1, 0)), .inl .iadd] = some 369 := by decide +kernel
theorem dw_W_law_369 : vm_dec m_W_law 369 .iaload 1 = true := by decide +kernel
theorem kw_W_law_370 : vm_chk m_W_law 370 [.inl (.aload_n 0), .inl (.iload_n 3), .inr (.inl (.int 2, 0)), .inl .iadd] = some 374 := by decide +kernel
theorem dw_W_law_374 : vm_dec m_W_law 374 .iaload 1 = true := by decide +kernel
theorem kw_W_law_378 : vm_chk m_W_law 378 [.inl (.aload_n 2), .inl (.aload_n 0), .inl (.iload_n 3), .inr (.inl (.int 1, 0)), .inl .iadd] = some 383 := by decide +kernel
theorem dw_W_law_383 : vm_dec m_W_law 383 .iaload 1 = true := by decide +kernel
theorem kw_W_law_384 : vm_chk m_W_law 384 [.inl (.aload_n 0), .inl (.iload_n 3), .inr (.inl (.int 2, 0)), .inl .iadd] = some 388 := by decide +kernel
theorem dw_W_law_388 : vm_dec m_W_law 388 .iaload 1 = true := by decide +kernel
theorem kw_W_law_398 : vm_chk m_W_law 398 [.inl (.aload_n 1), .inl (.aload_n 0), .inl (.iload_n 3), .inr (.inl (.int 1, 0)), .inl .iadd] = some 403 := by decide +kernel
theorem dw_W_law_403 : vm_dec m_W_law 403 .iaload 1 = true := by decide +kernel
theorem kw_W_law_404 : vm_chk m_W_law 404 [.inl (.aload_n 0), .inl (.iload_n 3), .inr (.inl (.int 2, 0)), .inl .iadd] = some 408 := by decide +kernel
theorem dw_W_law_408 : vm_dec m_W_law 408 .iaload 1 = true := by decide +kernel
theorem kw_W_law_409 : vm_chk m_W_law 409 [.inl (.aload_n 0), .inl (.iload_n 3), .inr (.inl (.int 3, 0)), .inl .iadd] = some 413 := by decide +kernel
theorem dw_W_law_413 : vm_dec m_W_law 413 .iaload 1 = true := by decide +kernel
theorem kw_W_law_417 : vm_chk m_W_law 417 [.inl (.aload_n 2), .inl (.aload_n 0), .inl (.iload_n 3), .inr (.inl (.int 1, 0)), .inl .iadd] = some 422 := by decide +kernel
theorem dw_W_law_422 : vm_dec m_W_law 422 .iaload 1 = true := by decide +kernel
theorem kw_W_law_423 : vm_chk m_W_law 423 [.inl (.aload_n 0), .inl (.iload_n 3), .inr (.inl (.int 2, 0)), .inl .iadd] = some 427 := by decide +kernel
theorem dw_W_law_427 : vm_dec m_W_law 427 .iaload 1 = true := by decide +kernel
theorem kw_W_law_428 : vm_chk m_W_law 428 [.inl (.aload_n 0), .inl (.iload_n 3), .inr (.inl (.int 3, 0)), .inl .iadd] = some 432 := by decide +kernel
theorem dw_W_law_432 : vm_dec m_W_law 432 .iaload 1 = true := by decide +kernel
theorem kw_W_law_441 : vm_chk m_W_law 441 [.inl (.aload_n 1), .inl (.aload_n 0), .inl (.iload_n 3), .inr (.inl (.int 1, 0)), .inl .iadd] = some 446 := by decide +kernel
theorem dw_W_law_446 : vm_dec m_W_law 446 .iaload 1 = true := by decide +kernel
theorem kw_W_law_450 : vm_chk m_W_law 450 [.inl (.aload_n 2), .inl (.aload_n 0), .inl (.iload_n 3), .inr (.inl (.int 1, 0)), .inl .iadd] = some 455 := by decide +kernel
theorem dw_W_law_455 : vm_dec m_W_law 455 .iaload 1 = true := by decide +kernel
theorem kw_W_law_465 : vm_chk m_W_law 465 [.inl (.aload_n 1), .inl (.aload_n 0), .inl (.iload_n 3), .inr (.inl (.int 1, 0)), .inl .iadd] = some 470 := by decide +kernel
theorem dw_W_law_470 : vm_dec m_W_law 470 .iaload 1 = true := by decide +kernel
theorem kw_W_law_471 : vm_chk m_W_law 471 [.inl (.aload_n 0), .inl (.iload_n 3), .inr (.inl (.int 2, 0)), .inl .iadd] = some 475 := by decide +kernel
theorem dw_W_law_475 : vm_dec m_W_law 475 .iaload 1 = true := by decide +kernel
theorem kw_W_law_479 : vm_chk m_W_law 479 [.inl (.aload_n 2), .inl (.aload_n 0), .inl (.iload_n 3), .inr (.inl (.int 1, 0)), .inl .iadd] = some 484 := by decide +kernel
theorem dw_W_law_484 : vm_dec m_W_law 484 .iaload 1 = true := by decide +kernel
theorem kw_W_law_485 : vm_chk m_W_law 485 [.inl (.aload_n 0), .inl (.iload_n 3), .inr (.inl (.int 2, 0)), .inl .iadd] = some 489 := by decide +kernel
theorem dw_W_law_489 : vm_dec m_W_law 489 .iaload 1 = true := by decide +kernel
theorem kw_W_law_498 : vm_chk m_W_law 498 [.inl (.aload_n 1), .inl (.aload_n 0), .inl (.iload_n 3), .inr (.inl (.int 1, 0)), .inl .iadd] = some 503 := by decide +kernel
theorem dw_W_law_503 : vm_dec m_W_law 503 .iaload 1 = true := by decide +kernel
theorem kw_W_law_504 : vm_chk m_W_law 504 [.inl (.aload_n 0), .inl (.iload_n 3), .inr (.inl (.int 2, 0)), .inl .iadd] = some 508 := by decide +kernel
theorem dw_W_law_508 : vm_dec m_W_law 508 .iaload 1 = true := by decide +kernel
theorem kw_W_law_512 : vm_chk m_W_law 512 [.inl (.aload_n 2), .inl (.aload_n 0), .inl (.iload_n 3), .inr (.inl (.int 1, 0)), .inl .iadd] = some 517 := by decide +kernel
theorem dw_W_law_517 : vm_dec m_W_law 517 .iaload 1 = true := by decide +kernel
theorem kw_W_law_518 : vm_chk m_W_law 518 [.inl (.aload_n 0), .inl (.iload_n 3), .inr (.inl (.int 2, 0)), .inl .iadd] = some 522 := by decide +kernel
theorem dw_W_law_522 : vm_dec m_W_law 522 .iaload 1 = true := by decide +kernel
theorem kw_W_law_531 : vm_chk m_W_law 531 [.inl (.aload_n 1), .inl (.aload_n 0), .inl (.iload_n 3), .inr (.inl (.int 1, 0)), .inl .iadd] = some 536 := by decide +kernel
theorem dw_W_law_536 : vm_dec m_W_law 536 .iaload 1 = true := by decide +kernel
theorem kw_W_law_540 : vm_chk m_W_law 540 [.inl (.aload_n 2), .inl (.aload_n 0), .inl (.iload_n 3), .inr (.inl (.int 1, 0)), .inl .iadd] = some 545 := by decide +kernel
theorem dw_W_law_545 : vm_dec m_W_law 545 .iaload 1 = true := by decide +kernel
theorem kw_W_law_554 : vm_chk m_W_law 554 [.inl (.aload_n 1), .inl (.aload_n 0), .inl (.iload_n 3), .inr (.inl (.int 1, 0)), .inl .iadd] = some 559 := by decide +kernel
theorem dw_W_law_559 : vm_dec m_W_law 559 .iaload 1 = true := by decide +kernel
theorem kw_W_law_563 : vm_chk m_W_law 563 [.inl (.aload_n 2), .inl (.aload_n 0), .inl (.iload_n 3), .inr (.inl (.int 1, 0)), .inl .iadd] = some 568 := by decide +kernel
theorem dw_W_law_568 : vm_dec m_W_law 568 .iaload 1 = true := by decide +kernel
theorem kw_W_law_577 : vm_chk m_W_law 577 [.inl (.aload_n 1), .inl (.aload_n 0), .inl (.iload_n 3), .inr (.inl (.int 1, 0)), .inl .iadd] = some 582 := by decide +kernel
theorem dw_W_law_582 : vm_dec m_W_law 582 .iaload 1 = true := by decide +kernel
theorem kw_W_law_583 : vm_chk m_W_law 583 [.inl (.aload_n 0), .inl (.iload_n 3), .inr (.inl (.int 2, 0)), .inl .iadd] = some 587 := by decide +kernel
theorem dw_W_law_587 : vm_dec m_W_law 587 .iaload 1 = true := by decide +kernel
theorem kw_W_law_591 : vm_chk m_W_law 591 [.inl (.aload_n 2), .inl (.aload_n 0), .inl (.iload_n 3), .inr (.inl (.int 1, 0)), .inl .iadd] = some 596 := by decide +kernel
theorem dw_W_law_596 : vm_dec m_W_law 596 .iaload 1 = true := by decide +kernel
theorem kw_W_law_597 : vm_chk m_W_law 597 [.inl (.aload_n 0), .inl (.iload_n 3), .inr (.inl (.int 2, 0)), .inl .iadd] = some 601 := by decide +kernel
theorem dw_W_law_601 : vm_dec m_W_law 601 .iaload 1 = true := by decide +kernel
theorem kw_W_law_28 : vm_chk m_W_law 28 [.inl (.iload_n 3), .inl (.aload_n 0)] = some 30 := by decide +kernel
theorem dw_W_law_30 : vm_dec m_W_law 30 .arraylength 1 = true := by decide +kernel
theorem kw_W_law_31 : vm_chk m_W_law 31 [.inr (.inl (.int 4, 0)), .inl .isub] = some 33 := by decide +kernel
theorem kw_W_law_36 : vm_chk m_W_law 36 [.inl (.aload_n 0), .inl (.iload_n 3)] = some 38 := by decide +kernel
theorem dw_W_law_38 : vm_dec m_W_law 38 .iaload 1 = true := by decide +kernel
theorem kw_W_law_39 : vm_chk m_W_law 39 [.inr (.inl (.int 15, 0)), .inl .iand] = some 42 := by decide +kernel
theorem kw_W_law_610 : vm_chk m_W_law 610 [.inr (.inr (.inr (3, 4)))] = some 613 := by decide +kernel
section LW5
variable {p : Program} {l : Launch} {e : Env} {R : Room} {s : State} {m : MethodId} {args : Array Value} {below : List Frame} {meth : Method} {c : Code} {cells slots : Nat} {Q : State → Prop} {D : va_G} {ad tc : Nat → Nat} {A : Nat → Prop} {L i f : Nat} {cs : List va_E} {xs : Nat → Int32} {X : AX}
theorem K2_L {A B : AX} (h : K2 f A B cs) : ∃ fs, vm_g cs 0 = some (.inr (4, fs)) := by
  obtain ⟨sc, ifp, ib, ie, pw, dh, rl, rb, re, sy, sb, rc, sg, mth, msn, mwn, mba, mdy, mfa, mbg, mhd, mkn, mfo, mfi, mmy, mwa, mmp, mrg, hR, rfl⟩ := h
  exact ⟨_, rfl⟩
theorem K2_M {A B : AX} (h : K2 f A B cs) : ∃ fs, vm_g cs 16 = some (.inr (5, fs)) := by
  obtain ⟨sc, ifp, ib, ie, pw, dh, rl, rb, re, sy, sb, rc, sg, mth, msn, mwn, mba, mdy, mfa, mbg, mhd, mkn, mfo, mfi, mmy, mwa, mmp, mrg, hR, rfl⟩ := h
  exact ⟨_, rfl⟩
theorem in_sc (k : Nat) {v : Int32} (hk : i + k < L) (hL : L < 2 ^ 31) (hv : v = nI (i + k)) : vp_in v L := by rw [hv]; exact vp_in_nI hk hL
set_option maxRecDepth 100000 in
set_option maxHeartbeats 4000000 in
theorem w_add (C : vm_C m_W_law p R s m args meth c D ad tc A) (hX : va_X (ad 2000000) L xs s s.heap) (hbl : ad 2000000 < s.heap.size) (hbA : ¬ A (ad 2000000)) (hc : cells ≤ R.cells) (hs : slots ≤ R.slots) (hL : L < 2 ^ 31) (hi : i + 4 ≤ L) (hI : Inv f X) (hK : K2 f X X cs) (kont : ∀ X1 cs1, Inv f X1 → K2 f X1 X1 cs1 → vm_W p l e R s m args below meth c cells slots Q D ad tc A 610 ([some (.ref 2000000), some (.ref 0), some (.ref 16), some (.int (nI i))], [], cs1)) : vm_W p l e R s m args below meth c cells slots Q D ad tc A 120 ([some (.ref 2000000), some (.ref 0), some (.ref 16), some (.int (nI i))], [], cs) := by
  obtain ⟨r, X1, hI1, hc1, hc2⟩ := s_add ((((xs ((nI i) + (1 : Int32)).toNatClampNeg).toInt64) <<< ((32 : Int32).toInt64 &&& 63)) ||| (((xs ((nI i) + (2 : Int32)).toNatClampNeg).toInt64) &&& (4294967295 : Int64))) (x := (xs ((nI i) + (3 : Int32)).toNatClampNeg)) f X cs hI hK
  obtain ⟨fs0, hg0⟩ := K2_L hK
  refine vm_blk (S' := ([some (.ref 2000000), some (.ref 0), some (.ref 16), some (.int (nI i))], [.int ((nI i) + (1 : Int32)), .ref 2000000, .ref 0], cs)) C [.inl (.aload_n 1), .inl (.aload_n 0), .inl (.iload_n 3), .inr (.inl (.int 1, 0)), .inl .iadd] 120 _ [True, True, True, True, True] kw_W_law_120 rfl ⟨trivial, trivial, trivial, trivial, trivial, trivial⟩ ?_
  refine vw_sld C hX hbl hbA dw_W_law_125 (in_sc (i := i) 1 (by omega) hL (nI_add i 1)) ?_
  refine vm_blk (S' := ([some (.ref 2000000), some (.ref 0), some (.ref 16), some (.int (nI i))], [.int ((nI i) + (2 : Int32)), .ref 2000000, .long (((xs ((nI i) + (1 : Int32)).toNatClampNeg).toInt64) <<< ((32 : Int32).toInt64 &&& 63)), .ref 0], cs)) C [.inl .i2l, .inr (.inl (.int 32, 0)), .inl .lshl, .inl (.aload_n 0), .inl (.iload_n 3), .inr (.inl (.int 2, 0)), .inl .iadd] 126 _ [True, True, True, True, True, True, True] kw_W_law_126 rfl ⟨trivial, trivial, trivial, trivial, trivial, trivial, trivial, trivial⟩ ?_
  refine vw_sld C hX hbl hbA dw_W_law_134 (in_sc (i := i) 2 (by omega) hL (nI_add i 2)) ?_
  refine vm_blk (S' := ([some (.ref 2000000), some (.ref 0), some (.ref 16), some (.int (nI i))], [.int ((nI i) + (3 : Int32)), .ref 2000000, .long ((((xs ((nI i) + (1 : Int32)).toNatClampNeg).toInt64) <<< ((32 : Int32).toInt64 &&& 63)) ||| (((xs ((nI i) + (2 : Int32)).toNatClampNeg).toInt64) &&& (4294967295 : Int64))), .ref 0], cs)) C [.inl .i2l, .inr (.inl (.long 4294967295, 824)), .inl .land, .inl .lor, .inl (.aload_n 0), .inl (.iload_n 3), .inr (.inl (.int 3, 0)), .inl .iadd] 135 _ [True, True, True, True, True, True, True, True] kw_W_law_135 rfl ⟨trivial, trivial, trivial, trivial, trivial, trivial, trivial, trivial, trivial⟩ ?_
  refine vw_sld C hX hbl hbA dw_W_law_145 (in_sc (i := i) 3 (by omega) hL (nI_add i 3)) ?_
  refine vw_callV C hc hs (b := 0) (ci := 4) (As := [.long ((((xs ((nI i) + (1 : Int32)).toNatClampNeg).toInt64) <<< ((32 : Int32).toInt64 &&& 63)) ||| (((xs ((nI i) + (2 : Int32)).toNatClampNeg).toInt64) &&& (4294967295 : Int64))), .int (xs ((nI i) + (3 : Int32)).toNatClampNeg)]) (rest := []) v_W_law_146 hc1 rfl (Nat.le_of_ble_eq_true rfl) rfl hg0 rfl rfl (fun r1 cs1 hp => ?_)
  obtain ⟨rfl, hK1⟩ := hp
  obtain ⟨fs1, hg1⟩ := K2_M hK1
  show vm_W p l e R s m args below meth c cells slots Q D ad tc A 149 ([some (.ref 2000000), some (.ref 0), some (.ref 16), some (.int (nI i))], [.int r], cs1)
  refine vm_blk (S' := ([some (.ref 2000000), some (.ref 0), some (.ref 16), some (.int (nI i))], [.int ((nI i) + (1 : Int32)), .ref 2000000, .ref 16, .int r], cs1)) C [.inl (.aload_n 2), .inl (.aload_n 0), .inl (.iload_n 3), .inr (.inl (.int 1, 0)), .inl .iadd] 149 _ [True, True, True, True, True] kw_W_law_149 rfl ⟨trivial, trivial, trivial, trivial, trivial, trivial⟩ ?_
  refine vw_sld C hX hbl hbA dw_W_law_154 (in_sc (i := i) 1 (by omega) hL (nI_add i 1)) ?_
  refine vm_blk (S' := ([some (.ref 2000000), some (.ref 0), some (.ref 16), some (.int (nI i))], [.int ((nI i) + (2 : Int32)), .ref 2000000, .long (((xs ((nI i) + (1 : Int32)).toNatClampNeg).toInt64) <<< ((32 : Int32).toInt64 &&& 63)), .ref 16, .int r], cs1)) C [.inl .i2l, .inr (.inl (.int 32, 0)), .inl .lshl, .inl (.aload_n 0), .inl (.iload_n 3), .inr (.inl (.int 2, 0)), .inl .iadd] 155 _ [True, True, True, True, True, True, True] kw_W_law_155 rfl ⟨trivial, trivial, trivial, trivial, trivial, trivial, trivial, trivial⟩ ?_
  refine vw_sld C hX hbl hbA dw_W_law_163 (in_sc (i := i) 2 (by omega) hL (nI_add i 2)) ?_
  refine vm_blk (S' := ([some (.ref 2000000), some (.ref 0), some (.ref 16), some (.int (nI i))], [.int ((nI i) + (3 : Int32)), .ref 2000000, .long ((((xs ((nI i) + (1 : Int32)).toNatClampNeg).toInt64) <<< ((32 : Int32).toInt64 &&& 63)) ||| (((xs ((nI i) + (2 : Int32)).toNatClampNeg).toInt64) &&& (4294967295 : Int64))), .ref 16, .int r], cs1)) C [.inl .i2l, .inr (.inl (.long 4294967295, 824)), .inl .land, .inl .lor, .inl (.aload_n 0), .inl (.iload_n 3), .inr (.inl (.int 3, 0)), .inl .iadd] 164 _ [True, True, True, True, True, True, True, True] kw_W_law_164 rfl ⟨trivial, trivial, trivial, trivial, trivial, trivial, trivial, trivial, trivial⟩ ?_
  refine vw_sld C hX hbl hbA dw_W_law_174 (in_sc (i := i) 3 (by omega) hL (nI_add i 3)) ?_
  refine vw_callV C hc hs (b := 16) (ci := 5) (As := [.long ((((xs ((nI i) + (1 : Int32)).toNatClampNeg).toInt64) <<< ((32 : Int32).toInt64 &&& 63)) ||| (((xs ((nI i) + (2 : Int32)).toNatClampNeg).toInt64) &&& (4294967295 : Int64))), .int (xs ((nI i) + (3 : Int32)).toNatClampNeg)]) (rest := [.int r]) v_W_law_175 (hc2 cs1 hK1) rfl (Nat.le_of_ble_eq_true rfl) rfl hg1 rfl rfl (fun r1 cs2 hp => ?_)
  obtain ⟨rfl, hK2⟩ := hp
  exact vw_eq (tgt := 610) C d_W_law_178 (by decide) (kont X1 cs2 hI1 hK2)
set_option maxRecDepth 100000 in
set_option maxHeartbeats 4000000 in
theorem w_zeros (C : vm_C m_W_law p R s m args meth c D ad tc A) (hX : va_X (ad 2000000) L xs s s.heap) (hbl : ad 2000000 < s.heap.size) (hbA : ¬ A (ad 2000000)) (hc : cells ≤ R.cells) (hs : slots ≤ R.slots) (hL : L < 2 ^ 31) (hi : i + 4 ≤ L) (hI : Inv f X) (hK : K2 f X X cs) (kont : ∀ X1 cs1, Inv f X1 → K2 f X1 X1 cs1 → vm_W p l e R s m args below meth c cells slots Q D ad tc A 610 ([some (.ref 2000000), some (.ref 0), some (.ref 16), some (.int (nI i))], [], cs1)) : vm_W p l e R s m args below meth c cells slots Q D ad tc A 183 ([some (.ref 2000000), some (.ref 0), some (.ref 16), some (.int (nI i))], [], cs) := by
  obtain ⟨r, X1, hI1, hc1, hc2⟩ := s_zeros (x := (xs ((nI i) + (1 : Int32)).toNatClampNeg)) f X cs hI hK
  obtain ⟨fs0, hg0⟩ := K2_L hK
  refine vm_blk (S' := ([some (.ref 2000000), some (.ref 0), some (.ref 16), some (.int (nI i))], [.int ((nI i) + (1 : Int32)), .ref 2000000, .ref 0], cs)) C [.inl (.aload_n 1), .inl (.aload_n 0), .inl (.iload_n 3), .inr (.inl (.int 1, 0)), .inl .iadd] 183 _ [True, True, True, True, True] kw_W_law_183 rfl ⟨trivial, trivial, trivial, trivial, trivial, trivial⟩ ?_
  refine vw_sld C hX hbl hbA dw_W_law_188 (in_sc (i := i) 1 (by omega) hL (nI_add i 1)) ?_
  refine vw_callV C hc hs (b := 0) (ci := 4) (As := [.int (xs ((nI i) + (1 : Int32)).toNatClampNeg)]) (rest := []) v_W_law_189 hc1 rfl (Nat.le_of_ble_eq_true rfl) rfl hg0 rfl rfl (fun r1 cs1 hp => ?_)
  obtain ⟨rfl, hK1⟩ := hp
  obtain ⟨fs1, hg1⟩ := K2_M hK1
  show vm_W p l e R s m args below meth c cells slots Q D ad tc A 192 ([some (.ref 2000000), some (.ref 0), some (.ref 16), some (.int (nI i))], [.int r], cs1)
  refine vm_blk (S' := ([some (.ref 2000000), some (.ref 0), some (.ref 16), some (.int (nI i))], [.int ((nI i) + (1 : Int32)), .ref 2000000, .ref 16, .int r], cs1)) C [.inl (.aload_n 2), .inl (.aload_n 0), .inl (.iload_n 3), .inr (.inl (.int 1, 0)), .inl .iadd] 192 _ [True, True, True, True, True] kw_W_law_192 rfl ⟨trivial, trivial, trivial, trivial, trivial, trivial⟩ ?_
  refine vw_sld C hX hbl hbA dw_W_law_197 (in_sc (i := i) 1 (by omega) hL (nI_add i 1)) ?_
  refine vw_callV C hc hs (b := 16) (ci := 5) (As := [.int (xs ((nI i) + (1 : Int32)).toNatClampNeg)]) (rest := [.int r]) v_W_law_198 (hc2 cs1 hK1) rfl (Nat.le_of_ble_eq_true rfl) rfl hg1 rfl rfl (fun r1 cs2 hp => ?_)
  obtain ⟨rfl, hK2⟩ := hp
  exact vw_eq (tgt := 610) C d_W_law_201 (by decide) (kont X1 cs2 hI1 hK2)
set_option maxRecDepth 100000 in
set_option maxHeartbeats 4000000 in
theorem w_poke (C : vm_C m_W_law p R s m args meth c D ad tc A) (hX : va_X (ad 2000000) L xs s s.heap) (hbl : ad 2000000 < s.heap.size) (hbA : ¬ A (ad 2000000)) (hc : cells ≤ R.cells) (hs : slots ≤ R.slots) (hL : L < 2 ^ 31) (hi : i + 4 ≤ L) (hI : Inv f X) (hK : K2 f X X cs) (kont : ∀ X1 cs1, Inv f X1 → K2 f X1 X1 cs1 → vm_W p l e R s m args below meth c cells slots Q D ad tc A 610 ([some (.ref 2000000), some (.ref 0), some (.ref 16), some (.int (nI i))], [], cs1)) : vm_W p l e R s m args below meth c cells slots Q D ad tc A 206 ([some (.ref 2000000), some (.ref 0), some (.ref 16), some (.int (nI i))], [], cs) := by
  obtain ⟨r, X1, hI1, hc1, hc2⟩ := s_poke (x := (xs ((nI i) + (1 : Int32)).toNatClampNeg)) (y := (xs ((nI i) + (2 : Int32)).toNatClampNeg)) (v := (xs ((nI i) + (3 : Int32)).toNatClampNeg)) f X cs hI hK
  obtain ⟨fs0, hg0⟩ := K2_L hK
  refine vm_blk (S' := ([some (.ref 2000000), some (.ref 0), some (.ref 16), some (.int (nI i))], [.int ((nI i) + (1 : Int32)), .ref 2000000, .ref 0], cs)) C [.inl (.aload_n 1), .inl (.aload_n 0), .inl (.iload_n 3), .inr (.inl (.int 1, 0)), .inl .iadd] 206 _ [True, True, True, True, True] kw_W_law_206 rfl ⟨trivial, trivial, trivial, trivial, trivial, trivial⟩ ?_
  refine vw_sld C hX hbl hbA dw_W_law_211 (in_sc (i := i) 1 (by omega) hL (nI_add i 1)) ?_
  refine vm_blk (S' := ([some (.ref 2000000), some (.ref 0), some (.ref 16), some (.int (nI i))], [.int ((nI i) + (2 : Int32)), .ref 2000000, .int (xs ((nI i) + (1 : Int32)).toNatClampNeg), .ref 0], cs)) C [.inl (.aload_n 0), .inl (.iload_n 3), .inr (.inl (.int 2, 0)), .inl .iadd] 212 _ [True, True, True, True] kw_W_law_212 rfl ⟨trivial, trivial, trivial, trivial, trivial⟩ ?_
  refine vw_sld C hX hbl hbA dw_W_law_216 (in_sc (i := i) 2 (by omega) hL (nI_add i 2)) ?_
  refine vm_blk (S' := ([some (.ref 2000000), some (.ref 0), some (.ref 16), some (.int (nI i))], [.int ((nI i) + (3 : Int32)), .ref 2000000, .int (xs ((nI i) + (2 : Int32)).toNatClampNeg), .int (xs ((nI i) + (1 : Int32)).toNatClampNeg), .ref 0], cs)) C [.inl (.aload_n 0), .inl (.iload_n 3), .inr (.inl (.int 3, 0)), .inl .iadd] 217 _ [True, True, True, True] kw_W_law_217 rfl ⟨trivial, trivial, trivial, trivial, trivial⟩ ?_
  refine vw_sld C hX hbl hbA dw_W_law_221 (in_sc (i := i) 3 (by omega) hL (nI_add i 3)) ?_
  refine vw_callV C hc hs (b := 0) (ci := 4) (As := [.int (xs ((nI i) + (1 : Int32)).toNatClampNeg), .int (xs ((nI i) + (2 : Int32)).toNatClampNeg), .int (xs ((nI i) + (3 : Int32)).toNatClampNeg)]) (rest := []) v_W_law_222 hc1 rfl (Nat.le_of_ble_eq_true rfl) rfl hg0 rfl rfl (fun r1 cs1 hp => ?_)
  obtain ⟨rfl, hK1⟩ := hp
  obtain ⟨fs1, hg1⟩ := K2_M hK1
  show vm_W p l e R s m args below meth c cells slots Q D ad tc A 225 ([some (.ref 2000000), some (.ref 0), some (.ref 16), some (.int (nI i))], [.int r], cs1)
  refine vm_blk (S' := ([some (.ref 2000000), some (.ref 0), some (.ref 16), some (.int (nI i))], [.int ((nI i) + (1 : Int32)), .ref 2000000, .ref 16, .int r], cs1)) C [.inl (.aload_n 2), .inl (.aload_n 0), .inl (.iload_n 3), .inr (.inl (.int 1, 0)), .inl .iadd] 225 _ [True, True, True, True, True] kw_W_law_225 rfl ⟨trivial, trivial, trivial, trivial, trivial, trivial⟩ ?_
  refine vw_sld C hX hbl hbA dw_W_law_230 (in_sc (i := i) 1 (by omega) hL (nI_add i 1)) ?_
  refine vm_blk (S' := ([some (.ref 2000000), some (.ref 0), some (.ref 16), some (.int (nI i))], [.int ((nI i) + (2 : Int32)), .ref 2000000, .int (xs ((nI i) + (1 : Int32)).toNatClampNeg), .ref 16, .int r], cs1)) C [.inl (.aload_n 0), .inl (.iload_n 3), .inr (.inl (.int 2, 0)), .inl .iadd] 231 _ [True, True, True, True] kw_W_law_231 rfl ⟨trivial, trivial, trivial, trivial, trivial⟩ ?_
  refine vw_sld C hX hbl hbA dw_W_law_235 (in_sc (i := i) 2 (by omega) hL (nI_add i 2)) ?_
  refine vm_blk (S' := ([some (.ref 2000000), some (.ref 0), some (.ref 16), some (.int (nI i))], [.int ((nI i) + (3 : Int32)), .ref 2000000, .int (xs ((nI i) + (2 : Int32)).toNatClampNeg), .int (xs ((nI i) + (1 : Int32)).toNatClampNeg), .ref 16, .int r], cs1)) C [.inl (.aload_n 0), .inl (.iload_n 3), .inr (.inl (.int 3, 0)), .inl .iadd] 236 _ [True, True, True, True] kw_W_law_236 rfl ⟨trivial, trivial, trivial, trivial, trivial⟩ ?_
  refine vw_sld C hX hbl hbA dw_W_law_240 (in_sc (i := i) 3 (by omega) hL (nI_add i 3)) ?_
  refine vw_callV C hc hs (b := 16) (ci := 5) (As := [.int (xs ((nI i) + (1 : Int32)).toNatClampNeg), .int (xs ((nI i) + (2 : Int32)).toNatClampNeg), .int (xs ((nI i) + (3 : Int32)).toNatClampNeg)]) (rest := [.int r]) v_W_law_241 (hc2 cs1 hK1) rfl (Nat.le_of_ble_eq_true rfl) rfl hg1 rfl rfl (fun r1 cs2 hp => ?_)
  obtain ⟨rfl, hK2⟩ := hp
  exact vw_eq (tgt := 610) C d_W_law_244 (by decide) (kont X1 cs2 hI1 hK2)
set_option maxRecDepth 100000 in
set_option maxHeartbeats 4000000 in
theorem w_peek (C : vm_C m_W_law p R s m args meth c D ad tc A) (hX : va_X (ad 2000000) L xs s s.heap) (hbl : ad 2000000 < s.heap.size) (hbA : ¬ A (ad 2000000)) (hc : cells ≤ R.cells) (hs : slots ≤ R.slots) (hL : L < 2 ^ 31) (hi : i + 4 ≤ L) (hI : Inv f X) (hK : K2 f X X cs) (kont : ∀ X1 cs1, Inv f X1 → K2 f X1 X1 cs1 → vm_W p l e R s m args below meth c cells slots Q D ad tc A 610 ([some (.ref 2000000), some (.ref 0), some (.ref 16), some (.int (nI i))], [], cs1)) : vm_W p l e R s m args below meth c cells slots Q D ad tc A 249 ([some (.ref 2000000), some (.ref 0), some (.ref 16), some (.int (nI i))], [], cs) := by
  obtain ⟨r, X1, hI1, hc1, hc2⟩ := s_peek (x := (xs ((nI i) + (1 : Int32)).toNatClampNeg)) f X cs hI hK
  obtain ⟨fs0, hg0⟩ := K2_L hK
  refine vm_blk (S' := ([some (.ref 2000000), some (.ref 0), some (.ref 16), some (.int (nI i))], [.int ((nI i) + (1 : Int32)), .ref 2000000, .ref 0], cs)) C [.inl (.aload_n 1), .inl (.aload_n 0), .inl (.iload_n 3), .inr (.inl (.int 1, 0)), .inl .iadd] 249 _ [True, True, True, True, True] kw_W_law_249 rfl ⟨trivial, trivial, trivial, trivial, trivial, trivial⟩ ?_
  refine vw_sld C hX hbl hbA dw_W_law_254 (in_sc (i := i) 1 (by omega) hL (nI_add i 1)) ?_
  refine vw_callV C hc hs (b := 0) (ci := 4) (As := [.int (xs ((nI i) + (1 : Int32)).toNatClampNeg)]) (rest := []) v_W_law_255 hc1 rfl (Nat.le_of_ble_eq_true rfl) rfl hg0 rfl rfl (fun r1 cs1 hp => ?_)
  obtain ⟨rfl, hK1⟩ := hp
  obtain ⟨fs1, hg1⟩ := K2_M hK1
  show vm_W p l e R s m args below meth c cells slots Q D ad tc A 258 ([some (.ref 2000000), some (.ref 0), some (.ref 16), some (.int (nI i))], [.int r], cs1)
  refine vm_blk (S' := ([some (.ref 2000000), some (.ref 0), some (.ref 16), some (.int (nI i))], [.int ((nI i) + (1 : Int32)), .ref 2000000, .ref 16, .int r], cs1)) C [.inl (.aload_n 2), .inl (.aload_n 0), .inl (.iload_n 3), .inr (.inl (.int 1, 0)), .inl .iadd] 258 _ [True, True, True, True, True] kw_W_law_258 rfl ⟨trivial, trivial, trivial, trivial, trivial, trivial⟩ ?_
  refine vw_sld C hX hbl hbA dw_W_law_263 (in_sc (i := i) 1 (by omega) hL (nI_add i 1)) ?_
  refine vw_callV C hc hs (b := 16) (ci := 5) (As := [.int (xs ((nI i) + (1 : Int32)).toNatClampNeg)]) (rest := [.int r]) v_W_law_264 (hc2 cs1 hK1) rfl (Nat.le_of_ble_eq_true rfl) rfl hg1 rfl rfl (fun r1 cs2 hp => ?_)
  obtain ⟨rfl, hK2⟩ := hp
  exact vw_eq (tgt := 610) C d_W_law_267 (by decide) (kont X1 cs2 hI1 hK2)
set_option maxRecDepth 100000 in
set_option maxHeartbeats 4000000 in
theorem w_cut (C : vm_C m_W_law p R s m args meth c D ad tc A) (hX : va_X (ad 2000000) L xs s s.heap) (hbl : ad 2000000 < s.heap.size) (hbA : ¬ A (ad 2000000)) (hc : cells ≤ R.cells) (hs : slots ≤ R.slots) (hL : L < 2 ^ 31) (hi : i + 4 ≤ L) (hI : Inv f X) (hK : K2 f X X cs) (kont : ∀ X1 cs1, Inv f X1 → K2 f X1 X1 cs1 → vm_W p l e R s m args below meth c cells slots Q D ad tc A 610 ([some (.ref 2000000), some (.ref 0), some (.ref 16), some (.int (nI i))], [], cs1)) : vm_W p l e R s m args below meth c cells slots Q D ad tc A 272 ([some (.ref 2000000), some (.ref 0), some (.ref 16), some (.int (nI i))], [], cs) := by
  obtain ⟨r, X1, hI1, hc1, hc2⟩ := s_cut (x := (xs ((nI i) + (1 : Int32)).toNatClampNeg)) f X cs hI hK
  obtain ⟨fs0, hg0⟩ := K2_L hK
  refine vm_blk (S' := ([some (.ref 2000000), some (.ref 0), some (.ref 16), some (.int (nI i))], [.int ((nI i) + (1 : Int32)), .ref 2000000, .ref 0], cs)) C [.inl (.aload_n 1), .inl (.aload_n 0), .inl (.iload_n 3), .inr (.inl (.int 1, 0)), .inl .iadd] 272 _ [True, True, True, True, True] kw_W_law_272 rfl ⟨trivial, trivial, trivial, trivial, trivial, trivial⟩ ?_
  refine vw_sld C hX hbl hbA dw_W_law_277 (in_sc (i := i) 1 (by omega) hL (nI_add i 1)) ?_
  refine vw_callV C hc hs (b := 0) (ci := 4) (As := [.int (xs ((nI i) + (1 : Int32)).toNatClampNeg)]) (rest := []) v_W_law_278 hc1 rfl (Nat.le_of_ble_eq_true rfl) rfl hg0 rfl rfl (fun r1 cs1 hp => ?_)
  obtain ⟨rfl, hK1⟩ := hp
  obtain ⟨fs1, hg1⟩ := K2_M hK1
  show vm_W p l e R s m args below meth c cells slots Q D ad tc A 281 ([some (.ref 2000000), some (.ref 0), some (.ref 16), some (.int (nI i))], [.int r], cs1)
  refine vm_blk (S' := ([some (.ref 2000000), some (.ref 0), some (.ref 16), some (.int (nI i))], [.int ((nI i) + (1 : Int32)), .ref 2000000, .ref 16, .int r], cs1)) C [.inl (.aload_n 2), .inl (.aload_n 0), .inl (.iload_n 3), .inr (.inl (.int 1, 0)), .inl .iadd] 281 _ [True, True, True, True, True] kw_W_law_281 rfl ⟨trivial, trivial, trivial, trivial, trivial, trivial⟩ ?_
  refine vw_sld C hX hbl hbA dw_W_law_286 (in_sc (i := i) 1 (by omega) hL (nI_add i 1)) ?_
  refine vw_callV C hc hs (b := 16) (ci := 5) (As := [.int (xs ((nI i) + (1 : Int32)).toNatClampNeg)]) (rest := [.int r]) v_W_law_287 (hc2 cs1 hK1) rfl (Nat.le_of_ble_eq_true rfl) rfl hg1 rfl rfl (fun r1 cs2 hp => ?_)
  obtain ⟨rfl, hK2⟩ := hp
  exact vw_eq (tgt := 610) C d_W_law_290 (by decide) (kont X1 cs2 hI1 hK2)
set_option maxRecDepth 100000 in
set_option maxHeartbeats 4000000 in
theorem w_load (C : vm_C m_W_law p R s m args meth c D ad tc A) (hX : va_X (ad 2000000) L xs s s.heap) (hbl : ad 2000000 < s.heap.size) (hbA : ¬ A (ad 2000000)) (hc : cells ≤ R.cells) (hs : slots ≤ R.slots) (hL : L < 2 ^ 31) (hi : i + 4 ≤ L) (hI : Inv f X) (hK : K2 f X X cs) (kont : ∀ X1 cs1, Inv f X1 → K2 f X1 X1 cs1 → vm_W p l e R s m args below meth c cells slots Q D ad tc A 610 ([some (.ref 2000000), some (.ref 0), some (.ref 16), some (.int (nI i))], [], cs1)) : vm_W p l e R s m args below meth c cells slots Q D ad tc A 295 ([some (.ref 2000000), some (.ref 0), some (.ref 16), some (.int (nI i))], [], cs) := by
  obtain ⟨r, X1, hI1, hc1, hc2⟩ := s_load (x := (xs ((nI i) + (1 : Int32)).toNatClampNeg)) f X cs hI hK
  obtain ⟨fs0, hg0⟩ := K2_L hK
  refine vm_blk (S' := ([some (.ref 2000000), some (.ref 0), some (.ref 16), some (.int (nI i))], [.int ((nI i) + (1 : Int32)), .ref 2000000, .ref 0], cs)) C [.inl (.aload_n 1), .inl (.aload_n 0), .inl (.iload_n 3), .inr (.inl (.int 1, 0)), .inl .iadd] 295 _ [True, True, True, True, True] kw_W_law_295 rfl ⟨trivial, trivial, trivial, trivial, trivial, trivial⟩ ?_
  refine vw_sld C hX hbl hbA dw_W_law_300 (in_sc (i := i) 1 (by omega) hL (nI_add i 1)) ?_
  refine vw_callV C hc hs (b := 0) (ci := 4) (As := [.int (xs ((nI i) + (1 : Int32)).toNatClampNeg)]) (rest := []) v_W_law_301 hc1 rfl (Nat.le_of_ble_eq_true rfl) rfl hg0 rfl rfl (fun r1 cs1 hp => ?_)
  obtain ⟨rfl, hK1⟩ := hp
  obtain ⟨fs1, hg1⟩ := K2_M hK1
  show vm_W p l e R s m args below meth c cells slots Q D ad tc A 304 ([some (.ref 2000000), some (.ref 0), some (.ref 16), some (.int (nI i))], [.int r], cs1)
  refine vm_blk (S' := ([some (.ref 2000000), some (.ref 0), some (.ref 16), some (.int (nI i))], [.int ((nI i) + (1 : Int32)), .ref 2000000, .ref 16, .int r], cs1)) C [.inl (.aload_n 2), .inl (.aload_n 0), .inl (.iload_n 3), .inr (.inl (.int 1, 0)), .inl .iadd] 304 _ [True, True, True, True, True] kw_W_law_304 rfl ⟨trivial, trivial, trivial, trivial, trivial, trivial⟩ ?_
  refine vw_sld C hX hbl hbA dw_W_law_309 (in_sc (i := i) 1 (by omega) hL (nI_add i 1)) ?_
  refine vw_callV C hc hs (b := 16) (ci := 5) (As := [.int (xs ((nI i) + (1 : Int32)).toNatClampNeg)]) (rest := [.int r]) v_W_law_310 (hc2 cs1 hK1) rfl (Nat.le_of_ble_eq_true rfl) rfl hg1 rfl rfl (fun r1 cs2 hp => ?_)
  obtain ⟨rfl, hK2⟩ := hp
  exact vw_eq (tgt := 610) C d_W_law_313 (by decide) (kont X1 cs2 hI1 hK2)
set_option maxRecDepth 100000 in
set_option maxHeartbeats 4000000 in
theorem w_told (C : vm_C m_W_law p R s m args meth c D ad tc A) (hX : va_X (ad 2000000) L xs s s.heap) (hbl : ad 2000000 < s.heap.size) (hbA : ¬ A (ad 2000000)) (hc : cells ≤ R.cells) (hs : slots ≤ R.slots) (hL : L < 2 ^ 31) (hi : i + 4 ≤ L) (hI : Inv f X) (hK : K2 f X X cs) (kont : ∀ X1 cs1, Inv f X1 → K2 f X1 X1 cs1 → vm_W p l e R s m args below meth c cells slots Q D ad tc A 610 ([some (.ref 2000000), some (.ref 0), some (.ref 16), some (.int (nI i))], [], cs1)) : vm_W p l e R s m args below meth c cells slots Q D ad tc A 318 ([some (.ref 2000000), some (.ref 0), some (.ref 16), some (.int (nI i))], [], cs) := by
  obtain ⟨r, X1, hI1, hc1, hc2⟩ := s_told (x := (xs ((nI i) + (1 : Int32)).toNatClampNeg)) f X cs hI hK
  obtain ⟨fs0, hg0⟩ := K2_L hK
  refine vm_blk (S' := ([some (.ref 2000000), some (.ref 0), some (.ref 16), some (.int (nI i))], [.int ((nI i) + (1 : Int32)), .ref 2000000, .ref 0], cs)) C [.inl (.aload_n 1), .inl (.aload_n 0), .inl (.iload_n 3), .inr (.inl (.int 1, 0)), .inl .iadd] 318 _ [True, True, True, True, True] kw_W_law_318 rfl ⟨trivial, trivial, trivial, trivial, trivial, trivial⟩ ?_
  refine vw_sld C hX hbl hbA dw_W_law_323 (in_sc (i := i) 1 (by omega) hL (nI_add i 1)) ?_
  refine vw_callV C hc hs (b := 0) (ci := 4) (As := [.int (xs ((nI i) + (1 : Int32)).toNatClampNeg)]) (rest := []) v_W_law_324 hc1 rfl (Nat.le_of_ble_eq_true rfl) rfl hg0 rfl rfl (fun r1 cs1 hp => ?_)
  obtain ⟨rfl, hK1⟩ := hp
  obtain ⟨fs1, hg1⟩ := K2_M hK1
  show vm_W p l e R s m args below meth c cells slots Q D ad tc A 327 ([some (.ref 2000000), some (.ref 0), some (.ref 16), some (.int (nI i))], [.int r], cs1)
  refine vm_blk (S' := ([some (.ref 2000000), some (.ref 0), some (.ref 16), some (.int (nI i))], [.int ((nI i) + (1 : Int32)), .ref 2000000, .ref 16, .int r], cs1)) C [.inl (.aload_n 2), .inl (.aload_n 0), .inl (.iload_n 3), .inr (.inl (.int 1, 0)), .inl .iadd] 327 _ [True, True, True, True, True] kw_W_law_327 rfl ⟨trivial, trivial, trivial, trivial, trivial, trivial⟩ ?_
  refine vw_sld C hX hbl hbA dw_W_law_332 (in_sc (i := i) 1 (by omega) hL (nI_add i 1)) ?_
  refine vw_callV C hc hs (b := 16) (ci := 5) (As := [.int (xs ((nI i) + (1 : Int32)).toNatClampNeg)]) (rest := [.int r]) v_W_law_333 (hc2 cs1 hK1) rfl (Nat.le_of_ble_eq_true rfl) rfl hg1 rfl rfl (fun r1 cs2 hp => ?_)
  obtain ⟨rfl, hK2⟩ := hp
  exact vw_eq (tgt := 610) C d_W_law_336 (by decide) (kont X1 cs2 hI1 hK2)
set_option maxRecDepth 100000 in
set_option maxHeartbeats 4000000 in
theorem w_stack (C : vm_C m_W_law p R s m args meth c D ad tc A) (hX : va_X (ad 2000000) L xs s s.heap) (hbl : ad 2000000 < s.heap.size) (hbA : ¬ A (ad 2000000)) (hc : cells ≤ R.cells) (hs : slots ≤ R.slots) (hL : L < 2 ^ 31) (hi : i + 4 ≤ L) (hI : Inv f X) (hK : K2 f X X cs) (kont : ∀ X1 cs1, Inv f X1 → K2 f X1 X1 cs1 → vm_W p l e R s m args below meth c cells slots Q D ad tc A 610 ([some (.ref 2000000), some (.ref 0), some (.ref 16), some (.int (nI i))], [], cs1)) : vm_W p l e R s m args below meth c cells slots Q D ad tc A 341 ([some (.ref 2000000), some (.ref 0), some (.ref 16), some (.int (nI i))], [], cs) := by
  obtain ⟨r, X1, hI1, hc1, hc2⟩ := s_stack (x := (xs ((nI i) + (1 : Int32)).toNatClampNeg)) f X cs hI hK
  obtain ⟨fs0, hg0⟩ := K2_L hK
  refine vm_blk (S' := ([some (.ref 2000000), some (.ref 0), some (.ref 16), some (.int (nI i))], [.int ((nI i) + (1 : Int32)), .ref 2000000, .ref 0], cs)) C [.inl (.aload_n 1), .inl (.aload_n 0), .inl (.iload_n 3), .inr (.inl (.int 1, 0)), .inl .iadd] 341 _ [True, True, True, True, True] kw_W_law_341 rfl ⟨trivial, trivial, trivial, trivial, trivial, trivial⟩ ?_
  refine vw_sld C hX hbl hbA dw_W_law_346 (in_sc (i := i) 1 (by omega) hL (nI_add i 1)) ?_
  refine vw_callV C hc hs (b := 0) (ci := 4) (As := [.int (xs ((nI i) + (1 : Int32)).toNatClampNeg)]) (rest := []) v_W_law_347 hc1 rfl (Nat.le_of_ble_eq_true rfl) rfl hg0 rfl rfl (fun r1 cs1 hp => ?_)
  obtain ⟨rfl, hK1⟩ := hp
  obtain ⟨fs1, hg1⟩ := K2_M hK1
  show vm_W p l e R s m args below meth c cells slots Q D ad tc A 350 ([some (.ref 2000000), some (.ref 0), some (.ref 16), some (.int (nI i))], [.int r], cs1)
  refine vm_blk (S' := ([some (.ref 2000000), some (.ref 0), some (.ref 16), some (.int (nI i))], [.int ((nI i) + (1 : Int32)), .ref 2000000, .ref 16, .int r], cs1)) C [.inl (.aload_n 2), .inl (.aload_n 0), .inl (.iload_n 3), .inr (.inl (.int 1, 0)), .inl .iadd] 350 _ [True, True, True, True, True] kw_W_law_350 rfl ⟨trivial, trivial, trivial, trivial, trivial, trivial⟩ ?_
  refine vw_sld C hX hbl hbA dw_W_law_355 (in_sc (i := i) 1 (by omega) hL (nI_add i 1)) ?_
  refine vw_callV C hc hs (b := 16) (ci := 5) (As := [.int (xs ((nI i) + (1 : Int32)).toNatClampNeg)]) (rest := [.int r]) v_W_law_356 (hc2 cs1 hK1) rfl (Nat.le_of_ble_eq_true rfl) rfl hg1 rfl rfl (fun r1 cs2 hp => ?_)
  obtain ⟨rfl, hK2⟩ := hp
  exact vw_eq (tgt := 610) C d_W_law_359 (by decide) (kont X1 cs2 hI1 hK2)
set_option maxRecDepth 100000 in
set_option maxHeartbeats 4000000 in
theorem w_read (C : vm_C m_W_law p R s m args meth c D ad tc A) (hX : va_X (ad 2000000) L xs s s.heap) (hbl : ad 2000000 < s.heap.size) (hbA : ¬ A (ad 2000000)) (hc : cells ≤ R.cells) (hs : slots ≤ R.slots) (hL : L < 2 ^ 31) (hi : i + 4 ≤ L) (hI : Inv f X) (hK : K2 f X X cs) (kont : ∀ X1 cs1, Inv f X1 → K2 f X1 X1 cs1 → vm_W p l e R s m args below meth c cells slots Q D ad tc A 610 ([some (.ref 2000000), some (.ref 0), some (.ref 16), some (.int (nI i))], [], cs1)) : vm_W p l e R s m args below meth c cells slots Q D ad tc A 364 ([some (.ref 2000000), some (.ref 0), some (.ref 16), some (.int (nI i))], [], cs) := by
  obtain ⟨r, X1, hI1, hc1, hc2⟩ := s_read (x := (xs ((nI i) + (1 : Int32)).toNatClampNeg)) (y := (xs ((nI i) + (2 : Int32)).toNatClampNeg)) f X cs hI hK
  obtain ⟨fs0, hg0⟩ := K2_L hK
  refine vm_blk (S' := ([some (.ref 2000000), some (.ref 0), some (.ref 16), some (.int (nI i))], [.int ((nI i) + (1 : Int32)), .ref 2000000, .ref 0], cs)) C [.inl (.aload_n 1), .inl (.aload_n 0), .inl (.iload_n 3), .inr (.inl (.int 1, 0)), .inl .iadd] 364 _ [True, True, True, True, True] kw_W_law_364 rfl ⟨trivial, trivial, trivial, trivial, trivial, trivial⟩ ?_
  refine vw_sld C hX hbl hbA dw_W_law_369 (in_sc (i := i) 1 (by omega) hL (nI_add i 1)) ?_
  refine vm_blk (S' := ([some (.ref 2000000), some (.ref 0), some (.ref 16), some (.int (nI i))], [.int ((nI i) + (2 : Int32)), .ref 2000000, .int (xs ((nI i) + (1 : Int32)).toNatClampNeg), .ref 0], cs)) C [.inl (.aload_n 0), .inl (.iload_n 3), .inr (.inl (.int 2, 0)), .inl .iadd] 370 _ [True, True, True, True] kw_W_law_370 rfl ⟨trivial, trivial, trivial, trivial, trivial⟩ ?_
  refine vw_sld C hX hbl hbA dw_W_law_374 (in_sc (i := i) 2 (by omega) hL (nI_add i 2)) ?_
  refine vw_callV C hc hs (b := 0) (ci := 4) (As := [.int (xs ((nI i) + (1 : Int32)).toNatClampNeg), .int (xs ((nI i) + (2 : Int32)).toNatClampNeg)]) (rest := []) v_W_law_375 hc1 rfl (Nat.le_of_ble_eq_true rfl) rfl hg0 rfl rfl (fun r1 cs1 hp => ?_)
  obtain ⟨rfl, hK1⟩ := hp
  obtain ⟨fs1, hg1⟩ := K2_M hK1
  show vm_W p l e R s m args below meth c cells slots Q D ad tc A 378 ([some (.ref 2000000), some (.ref 0), some (.ref 16), some (.int (nI i))], [.long r], cs1)
  refine vm_blk (S' := ([some (.ref 2000000), some (.ref 0), some (.ref 16), some (.int (nI i))], [.int ((nI i) + (1 : Int32)), .ref 2000000, .ref 16, .long r], cs1)) C [.inl (.aload_n 2), .inl (.aload_n 0), .inl (.iload_n 3), .inr (.inl (.int 1, 0)), .inl .iadd] 378 _ [True, True, True, True, True] kw_W_law_378 rfl ⟨trivial, trivial, trivial, trivial, trivial, trivial⟩ ?_
  refine vw_sld C hX hbl hbA dw_W_law_383 (in_sc (i := i) 1 (by omega) hL (nI_add i 1)) ?_
  refine vm_blk (S' := ([some (.ref 2000000), some (.ref 0), some (.ref 16), some (.int (nI i))], [.int ((nI i) + (2 : Int32)), .ref 2000000, .int (xs ((nI i) + (1 : Int32)).toNatClampNeg), .ref 16, .long r], cs1)) C [.inl (.aload_n 0), .inl (.iload_n 3), .inr (.inl (.int 2, 0)), .inl .iadd] 384 _ [True, True, True, True] kw_W_law_384 rfl ⟨trivial, trivial, trivial, trivial, trivial⟩ ?_
  refine vw_sld C hX hbl hbA dw_W_law_388 (in_sc (i := i) 2 (by omega) hL (nI_add i 2)) ?_
  refine vw_callV C hc hs (b := 16) (ci := 5) (As := [.int (xs ((nI i) + (1 : Int32)).toNatClampNeg), .int (xs ((nI i) + (2 : Int32)).toNatClampNeg)]) (rest := [.long r]) v_W_law_389 (hc2 cs1 hK1) rfl (Nat.le_of_ble_eq_true rfl) rfl hg1 rfl rfl (fun r1 cs2 hp => ?_)
  obtain ⟨rfl, hK2⟩ := hp
  exact vw_leq (tgt := 610) C dl_W_law_392 d_W_law_392 (by decide) (kont X1 cs2 hI1 hK2)
set_option maxRecDepth 100000 in
set_option maxHeartbeats 4000000 in
theorem w_write (C : vm_C m_W_law p R s m args meth c D ad tc A) (hX : va_X (ad 2000000) L xs s s.heap) (hbl : ad 2000000 < s.heap.size) (hbA : ¬ A (ad 2000000)) (hc : cells ≤ R.cells) (hs : slots ≤ R.slots) (hL : L < 2 ^ 31) (hi : i + 4 ≤ L) (hI : Inv f X) (hK : K2 f X X cs) (kont : ∀ X1 cs1, Inv f X1 → K2 f X1 X1 cs1 → vm_W p l e R s m args below meth c cells slots Q D ad tc A 610 ([some (.ref 2000000), some (.ref 0), some (.ref 16), some (.int (nI i))], [], cs1)) : vm_W p l e R s m args below meth c cells slots Q D ad tc A 398 ([some (.ref 2000000), some (.ref 0), some (.ref 16), some (.int (nI i))], [], cs) := by
  obtain ⟨r, X1, hI1, hc1, hc2⟩ := s_write (x := (xs ((nI i) + (1 : Int32)).toNatClampNeg)) (y := (xs ((nI i) + (2 : Int32)).toNatClampNeg)) (v := (xs ((nI i) + (3 : Int32)).toNatClampNeg)) f X cs hI hK
  obtain ⟨fs0, hg0⟩ := K2_L hK
  refine vm_blk (S' := ([some (.ref 2000000), some (.ref 0), some (.ref 16), some (.int (nI i))], [.int ((nI i) + (1 : Int32)), .ref 2000000, .ref 0], cs)) C [.inl (.aload_n 1), .inl (.aload_n 0), .inl (.iload_n 3), .inr (.inl (.int 1, 0)), .inl .iadd] 398 _ [True, True, True, True, True] kw_W_law_398 rfl ⟨trivial, trivial, trivial, trivial, trivial, trivial⟩ ?_
  refine vw_sld C hX hbl hbA dw_W_law_403 (in_sc (i := i) 1 (by omega) hL (nI_add i 1)) ?_
  refine vm_blk (S' := ([some (.ref 2000000), some (.ref 0), some (.ref 16), some (.int (nI i))], [.int ((nI i) + (2 : Int32)), .ref 2000000, .int (xs ((nI i) + (1 : Int32)).toNatClampNeg), .ref 0], cs)) C [.inl (.aload_n 0), .inl (.iload_n 3), .inr (.inl (.int 2, 0)), .inl .iadd] 404 _ [True, True, True, True] kw_W_law_404 rfl ⟨trivial, trivial, trivial, trivial, trivial⟩ ?_
  refine vw_sld C hX hbl hbA dw_W_law_408 (in_sc (i := i) 2 (by omega) hL (nI_add i 2)) ?_
  refine vm_blk (S' := ([some (.ref 2000000), some (.ref 0), some (.ref 16), some (.int (nI i))], [.int ((nI i) + (3 : Int32)), .ref 2000000, .int (xs ((nI i) + (2 : Int32)).toNatClampNeg), .int (xs ((nI i) + (1 : Int32)).toNatClampNeg), .ref 0], cs)) C [.inl (.aload_n 0), .inl (.iload_n 3), .inr (.inl (.int 3, 0)), .inl .iadd] 409 _ [True, True, True, True] kw_W_law_409 rfl ⟨trivial, trivial, trivial, trivial, trivial⟩ ?_
  refine vw_sld C hX hbl hbA dw_W_law_413 (in_sc (i := i) 3 (by omega) hL (nI_add i 3)) ?_
  refine vw_callV C hc hs (b := 0) (ci := 4) (As := [.int (xs ((nI i) + (1 : Int32)).toNatClampNeg), .int (xs ((nI i) + (2 : Int32)).toNatClampNeg), .int (xs ((nI i) + (3 : Int32)).toNatClampNeg)]) (rest := []) v_W_law_414 hc1 rfl (Nat.le_of_ble_eq_true rfl) rfl hg0 rfl rfl (fun r1 cs1 hp => ?_)
  obtain ⟨rfl, hK1⟩ := hp
  obtain ⟨fs1, hg1⟩ := K2_M hK1
  show vm_W p l e R s m args below meth c cells slots Q D ad tc A 417 ([some (.ref 2000000), some (.ref 0), some (.ref 16), some (.int (nI i))], [.int r], cs1)
  refine vm_blk (S' := ([some (.ref 2000000), some (.ref 0), some (.ref 16), some (.int (nI i))], [.int ((nI i) + (1 : Int32)), .ref 2000000, .ref 16, .int r], cs1)) C [.inl (.aload_n 2), .inl (.aload_n 0), .inl (.iload_n 3), .inr (.inl (.int 1, 0)), .inl .iadd] 417 _ [True, True, True, True, True] kw_W_law_417 rfl ⟨trivial, trivial, trivial, trivial, trivial, trivial⟩ ?_
  refine vw_sld C hX hbl hbA dw_W_law_422 (in_sc (i := i) 1 (by omega) hL (nI_add i 1)) ?_
  refine vm_blk (S' := ([some (.ref 2000000), some (.ref 0), some (.ref 16), some (.int (nI i))], [.int ((nI i) + (2 : Int32)), .ref 2000000, .int (xs ((nI i) + (1 : Int32)).toNatClampNeg), .ref 16, .int r], cs1)) C [.inl (.aload_n 0), .inl (.iload_n 3), .inr (.inl (.int 2, 0)), .inl .iadd] 423 _ [True, True, True, True] kw_W_law_423 rfl ⟨trivial, trivial, trivial, trivial, trivial⟩ ?_
  refine vw_sld C hX hbl hbA dw_W_law_427 (in_sc (i := i) 2 (by omega) hL (nI_add i 2)) ?_
  refine vm_blk (S' := ([some (.ref 2000000), some (.ref 0), some (.ref 16), some (.int (nI i))], [.int ((nI i) + (3 : Int32)), .ref 2000000, .int (xs ((nI i) + (2 : Int32)).toNatClampNeg), .int (xs ((nI i) + (1 : Int32)).toNatClampNeg), .ref 16, .int r], cs1)) C [.inl (.aload_n 0), .inl (.iload_n 3), .inr (.inl (.int 3, 0)), .inl .iadd] 428 _ [True, True, True, True] kw_W_law_428 rfl ⟨trivial, trivial, trivial, trivial, trivial⟩ ?_
  refine vw_sld C hX hbl hbA dw_W_law_432 (in_sc (i := i) 3 (by omega) hL (nI_add i 3)) ?_
  refine vw_callV C hc hs (b := 16) (ci := 5) (As := [.int (xs ((nI i) + (1 : Int32)).toNatClampNeg), .int (xs ((nI i) + (2 : Int32)).toNatClampNeg), .int (xs ((nI i) + (3 : Int32)).toNatClampNeg)]) (rest := [.int r]) v_W_law_433 (hc2 cs1 hK1) rfl (Nat.le_of_ble_eq_true rfl) rfl hg1 rfl rfl (fun r1 cs2 hp => ?_)
  obtain ⟨rfl, hK2⟩ := hp
  exact vw_eq (tgt := 610) C d_W_law_436 (by decide) (kont X1 cs2 hI1 hK2)
set_option maxRecDepth 100000 in
set_option maxHeartbeats 4000000 in
theorem w_fetch (C : vm_C m_W_law p R s m args meth c D ad tc A) (hX : va_X (ad 2000000) L xs s s.heap) (hbl : ad 2000000 < s.heap.size) (hbA : ¬ A (ad 2000000)) (hc : cells ≤ R.cells) (hs : slots ≤ R.slots) (hL : L < 2 ^ 31) (hi : i + 4 ≤ L) (hI : Inv f X) (hK : K2 f X X cs) (kont : ∀ X1 cs1, Inv f X1 → K2 f X1 X1 cs1 → vm_W p l e R s m args below meth c cells slots Q D ad tc A 610 ([some (.ref 2000000), some (.ref 0), some (.ref 16), some (.int (nI i))], [], cs1)) : vm_W p l e R s m args below meth c cells slots Q D ad tc A 441 ([some (.ref 2000000), some (.ref 0), some (.ref 16), some (.int (nI i))], [], cs) := by
  obtain ⟨r, X1, hI1, hc1, hc2⟩ := s_fetch (x := (xs ((nI i) + (1 : Int32)).toNatClampNeg)) f X cs hI hK
  obtain ⟨fs0, hg0⟩ := K2_L hK
  refine vm_blk (S' := ([some (.ref 2000000), some (.ref 0), some (.ref 16), some (.int (nI i))], [.int ((nI i) + (1 : Int32)), .ref 2000000, .ref 0], cs)) C [.inl (.aload_n 1), .inl (.aload_n 0), .inl (.iload_n 3), .inr (.inl (.int 1, 0)), .inl .iadd] 441 _ [True, True, True, True, True] kw_W_law_441 rfl ⟨trivial, trivial, trivial, trivial, trivial, trivial⟩ ?_
  refine vw_sld C hX hbl hbA dw_W_law_446 (in_sc (i := i) 1 (by omega) hL (nI_add i 1)) ?_
  refine vw_callV C hc hs (b := 0) (ci := 4) (As := [.int (xs ((nI i) + (1 : Int32)).toNatClampNeg)]) (rest := []) v_W_law_447 hc1 rfl (Nat.le_of_ble_eq_true rfl) rfl hg0 rfl rfl (fun r1 cs1 hp => ?_)
  obtain ⟨rfl, hK1⟩ := hp
  obtain ⟨fs1, hg1⟩ := K2_M hK1
  show vm_W p l e R s m args below meth c cells slots Q D ad tc A 450 ([some (.ref 2000000), some (.ref 0), some (.ref 16), some (.int (nI i))], [.long r], cs1)
  refine vm_blk (S' := ([some (.ref 2000000), some (.ref 0), some (.ref 16), some (.int (nI i))], [.int ((nI i) + (1 : Int32)), .ref 2000000, .ref 16, .long r], cs1)) C [.inl (.aload_n 2), .inl (.aload_n 0), .inl (.iload_n 3), .inr (.inl (.int 1, 0)), .inl .iadd] 450 _ [True, True, True, True, True] kw_W_law_450 rfl ⟨trivial, trivial, trivial, trivial, trivial, trivial⟩ ?_
  refine vw_sld C hX hbl hbA dw_W_law_455 (in_sc (i := i) 1 (by omega) hL (nI_add i 1)) ?_
  refine vw_callV C hc hs (b := 16) (ci := 5) (As := [.int (xs ((nI i) + (1 : Int32)).toNatClampNeg)]) (rest := [.long r]) v_W_law_456 (hc2 cs1 hK1) rfl (Nat.le_of_ble_eq_true rfl) rfl hg1 rfl rfl (fun r1 cs2 hp => ?_)
  obtain ⟨rfl, hK2⟩ := hp
  exact vw_leq (tgt := 610) C dl_W_law_459 d_W_law_459 (by decide) (kont X1 cs2 hI1 hK2)
set_option maxRecDepth 100000 in
set_option maxHeartbeats 4000000 in
theorem w_protect (C : vm_C m_W_law p R s m args meth c D ad tc A) (hX : va_X (ad 2000000) L xs s s.heap) (hbl : ad 2000000 < s.heap.size) (hbA : ¬ A (ad 2000000)) (hc : cells ≤ R.cells) (hs : slots ≤ R.slots) (hL : L < 2 ^ 31) (hi : i + 4 ≤ L) (hI : Inv f X) (hK : K2 f X X cs) (kont : ∀ X1 cs1, Inv f X1 → K2 f X1 X1 cs1 → vm_W p l e R s m args below meth c cells slots Q D ad tc A 610 ([some (.ref 2000000), some (.ref 0), some (.ref 16), some (.int (nI i))], [], cs1)) : vm_W p l e R s m args below meth c cells slots Q D ad tc A 465 ([some (.ref 2000000), some (.ref 0), some (.ref 16), some (.int (nI i))], [], cs) := by
  obtain ⟨r, X1, hI1, hc1, hc2⟩ := s_protect (x := (xs ((nI i) + (1 : Int32)).toNatClampNeg)) (y := (xs ((nI i) + (2 : Int32)).toNatClampNeg)) f X cs hI hK
  obtain ⟨fs0, hg0⟩ := K2_L hK
  refine vm_blk (S' := ([some (.ref 2000000), some (.ref 0), some (.ref 16), some (.int (nI i))], [.int ((nI i) + (1 : Int32)), .ref 2000000, .ref 0], cs)) C [.inl (.aload_n 1), .inl (.aload_n 0), .inl (.iload_n 3), .inr (.inl (.int 1, 0)), .inl .iadd] 465 _ [True, True, True, True, True] kw_W_law_465 rfl ⟨trivial, trivial, trivial, trivial, trivial, trivial⟩ ?_
  refine vw_sld C hX hbl hbA dw_W_law_470 (in_sc (i := i) 1 (by omega) hL (nI_add i 1)) ?_
  refine vm_blk (S' := ([some (.ref 2000000), some (.ref 0), some (.ref 16), some (.int (nI i))], [.int ((nI i) + (2 : Int32)), .ref 2000000, .int (xs ((nI i) + (1 : Int32)).toNatClampNeg), .ref 0], cs)) C [.inl (.aload_n 0), .inl (.iload_n 3), .inr (.inl (.int 2, 0)), .inl .iadd] 471 _ [True, True, True, True] kw_W_law_471 rfl ⟨trivial, trivial, trivial, trivial, trivial⟩ ?_
  refine vw_sld C hX hbl hbA dw_W_law_475 (in_sc (i := i) 2 (by omega) hL (nI_add i 2)) ?_
  refine vw_callV C hc hs (b := 0) (ci := 4) (As := [.int (xs ((nI i) + (1 : Int32)).toNatClampNeg), .int (xs ((nI i) + (2 : Int32)).toNatClampNeg)]) (rest := []) v_W_law_476 hc1 rfl (Nat.le_of_ble_eq_true rfl) rfl hg0 rfl rfl (fun r1 cs1 hp => ?_)
  obtain ⟨rfl, hK1⟩ := hp
  obtain ⟨fs1, hg1⟩ := K2_M hK1
  show vm_W p l e R s m args below meth c cells slots Q D ad tc A 479 ([some (.ref 2000000), some (.ref 0), some (.ref 16), some (.int (nI i))], [.int r], cs1)
  refine vm_blk (S' := ([some (.ref 2000000), some (.ref 0), some (.ref 16), some (.int (nI i))], [.int ((nI i) + (1 : Int32)), .ref 2000000, .ref 16, .int r], cs1)) C [.inl (.aload_n 2), .inl (.aload_n 0), .inl (.iload_n 3), .inr (.inl (.int 1, 0)), .inl .iadd] 479 _ [True, True, True, True, True] kw_W_law_479 rfl ⟨trivial, trivial, trivial, trivial, trivial, trivial⟩ ?_
  refine vw_sld C hX hbl hbA dw_W_law_484 (in_sc (i := i) 1 (by omega) hL (nI_add i 1)) ?_
  refine vm_blk (S' := ([some (.ref 2000000), some (.ref 0), some (.ref 16), some (.int (nI i))], [.int ((nI i) + (2 : Int32)), .ref 2000000, .int (xs ((nI i) + (1 : Int32)).toNatClampNeg), .ref 16, .int r], cs1)) C [.inl (.aload_n 0), .inl (.iload_n 3), .inr (.inl (.int 2, 0)), .inl .iadd] 485 _ [True, True, True, True] kw_W_law_485 rfl ⟨trivial, trivial, trivial, trivial, trivial⟩ ?_
  refine vw_sld C hX hbl hbA dw_W_law_489 (in_sc (i := i) 2 (by omega) hL (nI_add i 2)) ?_
  refine vw_callV C hc hs (b := 16) (ci := 5) (As := [.int (xs ((nI i) + (1 : Int32)).toNatClampNeg), .int (xs ((nI i) + (2 : Int32)).toNatClampNeg)]) (rest := [.int r]) v_W_law_490 (hc2 cs1 hK1) rfl (Nat.le_of_ble_eq_true rfl) rfl hg1 rfl rfl (fun r1 cs2 hp => ?_)
  obtain ⟨rfl, hK2⟩ := hp
  exact vw_eq (tgt := 610) C d_W_law_493 (by decide) (kont X1 cs2 hI1 hK2)
set_option maxRecDepth 100000 in
set_option maxHeartbeats 4000000 in
theorem w_unmap (C : vm_C m_W_law p R s m args meth c D ad tc A) (hX : va_X (ad 2000000) L xs s s.heap) (hbl : ad 2000000 < s.heap.size) (hbA : ¬ A (ad 2000000)) (hc : cells ≤ R.cells) (hs : slots ≤ R.slots) (hL : L < 2 ^ 31) (hi : i + 4 ≤ L) (hI : Inv f X) (hK : K2 f X X cs) (kont : ∀ X1 cs1, Inv f X1 → K2 f X1 X1 cs1 → vm_W p l e R s m args below meth c cells slots Q D ad tc A 610 ([some (.ref 2000000), some (.ref 0), some (.ref 16), some (.int (nI i))], [], cs1)) : vm_W p l e R s m args below meth c cells slots Q D ad tc A 498 ([some (.ref 2000000), some (.ref 0), some (.ref 16), some (.int (nI i))], [], cs) := by
  obtain ⟨r, X1, hI1, hc1, hc2⟩ := s_unmap (x := (xs ((nI i) + (1 : Int32)).toNatClampNeg)) (y := (xs ((nI i) + (2 : Int32)).toNatClampNeg)) f X cs hI hK
  obtain ⟨fs0, hg0⟩ := K2_L hK
  refine vm_blk (S' := ([some (.ref 2000000), some (.ref 0), some (.ref 16), some (.int (nI i))], [.int ((nI i) + (1 : Int32)), .ref 2000000, .ref 0], cs)) C [.inl (.aload_n 1), .inl (.aload_n 0), .inl (.iload_n 3), .inr (.inl (.int 1, 0)), .inl .iadd] 498 _ [True, True, True, True, True] kw_W_law_498 rfl ⟨trivial, trivial, trivial, trivial, trivial, trivial⟩ ?_
  refine vw_sld C hX hbl hbA dw_W_law_503 (in_sc (i := i) 1 (by omega) hL (nI_add i 1)) ?_
  refine vm_blk (S' := ([some (.ref 2000000), some (.ref 0), some (.ref 16), some (.int (nI i))], [.int ((nI i) + (2 : Int32)), .ref 2000000, .int (xs ((nI i) + (1 : Int32)).toNatClampNeg), .ref 0], cs)) C [.inl (.aload_n 0), .inl (.iload_n 3), .inr (.inl (.int 2, 0)), .inl .iadd] 504 _ [True, True, True, True] kw_W_law_504 rfl ⟨trivial, trivial, trivial, trivial, trivial⟩ ?_
  refine vw_sld C hX hbl hbA dw_W_law_508 (in_sc (i := i) 2 (by omega) hL (nI_add i 2)) ?_
  refine vw_callV C hc hs (b := 0) (ci := 4) (As := [.int (xs ((nI i) + (1 : Int32)).toNatClampNeg), .int (xs ((nI i) + (2 : Int32)).toNatClampNeg)]) (rest := []) v_W_law_509 hc1 rfl (Nat.le_of_ble_eq_true rfl) rfl hg0 rfl rfl (fun r1 cs1 hp => ?_)
  obtain ⟨rfl, hK1⟩ := hp
  obtain ⟨fs1, hg1⟩ := K2_M hK1
  show vm_W p l e R s m args below meth c cells slots Q D ad tc A 512 ([some (.ref 2000000), some (.ref 0), some (.ref 16), some (.int (nI i))], [.int r], cs1)
  refine vm_blk (S' := ([some (.ref 2000000), some (.ref 0), some (.ref 16), some (.int (nI i))], [.int ((nI i) + (1 : Int32)), .ref 2000000, .ref 16, .int r], cs1)) C [.inl (.aload_n 2), .inl (.aload_n 0), .inl (.iload_n 3), .inr (.inl (.int 1, 0)), .inl .iadd] 512 _ [True, True, True, True, True] kw_W_law_512 rfl ⟨trivial, trivial, trivial, trivial, trivial, trivial⟩ ?_
  refine vw_sld C hX hbl hbA dw_W_law_517 (in_sc (i := i) 1 (by omega) hL (nI_add i 1)) ?_
  refine vm_blk (S' := ([some (.ref 2000000), some (.ref 0), some (.ref 16), some (.int (nI i))], [.int ((nI i) + (2 : Int32)), .ref 2000000, .int (xs ((nI i) + (1 : Int32)).toNatClampNeg), .ref 16, .int r], cs1)) C [.inl (.aload_n 0), .inl (.iload_n 3), .inr (.inl (.int 2, 0)), .inl .iadd] 518 _ [True, True, True, True] kw_W_law_518 rfl ⟨trivial, trivial, trivial, trivial, trivial⟩ ?_
  refine vw_sld C hX hbl hbA dw_W_law_522 (in_sc (i := i) 2 (by omega) hL (nI_add i 2)) ?_
  refine vw_callV C hc hs (b := 16) (ci := 5) (As := [.int (xs ((nI i) + (1 : Int32)).toNatClampNeg), .int (xs ((nI i) + (2 : Int32)).toNatClampNeg)]) (rest := [.int r]) v_W_law_523 (hc2 cs1 hK1) rfl (Nat.le_of_ble_eq_true rfl) rfl hg1 rfl rfl (fun r1 cs2 hp => ?_)
  obtain ⟨rfl, hK2⟩ := hp
  exact vw_eq (tgt := 610) C d_W_law_526 (by decide) (kont X1 cs2 hI1 hK2)
set_option maxRecDepth 100000 in
set_option maxHeartbeats 4000000 in
theorem w_rights (C : vm_C m_W_law p R s m args meth c D ad tc A) (hX : va_X (ad 2000000) L xs s s.heap) (hbl : ad 2000000 < s.heap.size) (hbA : ¬ A (ad 2000000)) (hc : cells ≤ R.cells) (hs : slots ≤ R.slots) (hL : L < 2 ^ 31) (hi : i + 4 ≤ L) (hI : Inv f X) (hK : K2 f X X cs) (kont : ∀ X1 cs1, Inv f X1 → K2 f X1 X1 cs1 → vm_W p l e R s m args below meth c cells slots Q D ad tc A 610 ([some (.ref 2000000), some (.ref 0), some (.ref 16), some (.int (nI i))], [], cs1)) : vm_W p l e R s m args below meth c cells slots Q D ad tc A 531 ([some (.ref 2000000), some (.ref 0), some (.ref 16), some (.int (nI i))], [], cs) := by
  obtain ⟨r, X1, hI1, hc1, hc2⟩ := s_rights (x := (xs ((nI i) + (1 : Int32)).toNatClampNeg)) f X cs hI hK
  obtain ⟨fs0, hg0⟩ := K2_L hK
  refine vm_blk (S' := ([some (.ref 2000000), some (.ref 0), some (.ref 16), some (.int (nI i))], [.int ((nI i) + (1 : Int32)), .ref 2000000, .ref 0], cs)) C [.inl (.aload_n 1), .inl (.aload_n 0), .inl (.iload_n 3), .inr (.inl (.int 1, 0)), .inl .iadd] 531 _ [True, True, True, True, True] kw_W_law_531 rfl ⟨trivial, trivial, trivial, trivial, trivial, trivial⟩ ?_
  refine vw_sld C hX hbl hbA dw_W_law_536 (in_sc (i := i) 1 (by omega) hL (nI_add i 1)) ?_
  refine vw_callV C hc hs (b := 0) (ci := 4) (As := [.int (xs ((nI i) + (1 : Int32)).toNatClampNeg)]) (rest := []) v_W_law_537 hc1 rfl (Nat.le_of_ble_eq_true rfl) rfl hg0 rfl rfl (fun r1 cs1 hp => ?_)
  obtain ⟨rfl, hK1⟩ := hp
  obtain ⟨fs1, hg1⟩ := K2_M hK1
  show vm_W p l e R s m args below meth c cells slots Q D ad tc A 540 ([some (.ref 2000000), some (.ref 0), some (.ref 16), some (.int (nI i))], [.int r], cs1)
  refine vm_blk (S' := ([some (.ref 2000000), some (.ref 0), some (.ref 16), some (.int (nI i))], [.int ((nI i) + (1 : Int32)), .ref 2000000, .ref 16, .int r], cs1)) C [.inl (.aload_n 2), .inl (.aload_n 0), .inl (.iload_n 3), .inr (.inl (.int 1, 0)), .inl .iadd] 540 _ [True, True, True, True, True] kw_W_law_540 rfl ⟨trivial, trivial, trivial, trivial, trivial, trivial⟩ ?_
  refine vw_sld C hX hbl hbA dw_W_law_545 (in_sc (i := i) 1 (by omega) hL (nI_add i 1)) ?_
  refine vw_callV C hc hs (b := 16) (ci := 5) (As := [.int (xs ((nI i) + (1 : Int32)).toNatClampNeg)]) (rest := [.int r]) v_W_law_546 (hc2 cs1 hK1) rfl (Nat.le_of_ble_eq_true rfl) rfl hg1 rfl rfl (fun r1 cs2 hp => ?_)
  obtain ⟨rfl, hK2⟩ := hp
  exact vw_eq (tgt := 610) C d_W_law_549 (by decide) (kont X1 cs2 hI1 hK2)
set_option maxRecDepth 100000 in
set_option maxHeartbeats 4000000 in
theorem w_count (C : vm_C m_W_law p R s m args meth c D ad tc A) (hX : va_X (ad 2000000) L xs s s.heap) (hbl : ad 2000000 < s.heap.size) (hbA : ¬ A (ad 2000000)) (hc : cells ≤ R.cells) (hs : slots ≤ R.slots) (hL : L < 2 ^ 31) (hi : i + 4 ≤ L) (hI : Inv f X) (hK : K2 f X X cs) (kont : ∀ X1 cs1, Inv f X1 → K2 f X1 X1 cs1 → vm_W p l e R s m args below meth c cells slots Q D ad tc A 610 ([some (.ref 2000000), some (.ref 0), some (.ref 16), some (.int (nI i))], [], cs1)) : vm_W p l e R s m args below meth c cells slots Q D ad tc A 554 ([some (.ref 2000000), some (.ref 0), some (.ref 16), some (.int (nI i))], [], cs) := by
  obtain ⟨r, X1, hI1, hc1, hc2⟩ := s_count (x := (xs ((nI i) + (1 : Int32)).toNatClampNeg)) f X cs hI hK
  obtain ⟨fs0, hg0⟩ := K2_L hK
  refine vm_blk (S' := ([some (.ref 2000000), some (.ref 0), some (.ref 16), some (.int (nI i))], [.int ((nI i) + (1 : Int32)), .ref 2000000, .ref 0], cs)) C [.inl (.aload_n 1), .inl (.aload_n 0), .inl (.iload_n 3), .inr (.inl (.int 1, 0)), .inl .iadd] 554 _ [True, True, True, True, True] kw_W_law_554 rfl ⟨trivial, trivial, trivial, trivial, trivial, trivial⟩ ?_
  refine vw_sld C hX hbl hbA dw_W_law_559 (in_sc (i := i) 1 (by omega) hL (nI_add i 1)) ?_
  refine vw_callV C hc hs (b := 0) (ci := 4) (As := [.int (xs ((nI i) + (1 : Int32)).toNatClampNeg)]) (rest := []) v_W_law_560 hc1 rfl (Nat.le_of_ble_eq_true rfl) rfl hg0 rfl rfl (fun r1 cs1 hp => ?_)
  obtain ⟨rfl, hK1⟩ := hp
  obtain ⟨fs1, hg1⟩ := K2_M hK1
  show vm_W p l e R s m args below meth c cells slots Q D ad tc A 563 ([some (.ref 2000000), some (.ref 0), some (.ref 16), some (.int (nI i))], [.int r], cs1)
  refine vm_blk (S' := ([some (.ref 2000000), some (.ref 0), some (.ref 16), some (.int (nI i))], [.int ((nI i) + (1 : Int32)), .ref 2000000, .ref 16, .int r], cs1)) C [.inl (.aload_n 2), .inl (.aload_n 0), .inl (.iload_n 3), .inr (.inl (.int 1, 0)), .inl .iadd] 563 _ [True, True, True, True, True] kw_W_law_563 rfl ⟨trivial, trivial, trivial, trivial, trivial, trivial⟩ ?_
  refine vw_sld C hX hbl hbA dw_W_law_568 (in_sc (i := i) 1 (by omega) hL (nI_add i 1)) ?_
  refine vw_callV C hc hs (b := 16) (ci := 5) (As := [.int (xs ((nI i) + (1 : Int32)).toNatClampNeg)]) (rest := [.int r]) v_W_law_569 (hc2 cs1 hK1) rfl (Nat.le_of_ble_eq_true rfl) rfl hg1 rfl rfl (fun r1 cs2 hp => ?_)
  obtain ⟨rfl, hK2⟩ := hp
  exact vw_eq (tgt := 610) C d_W_law_572 (by decide) (kont X1 cs2 hI1 hK2)
set_option maxRecDepth 100000 in
set_option maxHeartbeats 4000000 in
theorem w_sum (C : vm_C m_W_law p R s m args meth c D ad tc A) (hX : va_X (ad 2000000) L xs s s.heap) (hbl : ad 2000000 < s.heap.size) (hbA : ¬ A (ad 2000000)) (hc : cells ≤ R.cells) (hs : slots ≤ R.slots) (hL : L < 2 ^ 31) (hi : i + 4 ≤ L) (hI : Inv f X) (hK : K2 f X X cs) (kont : ∀ X1 cs1, Inv f X1 → K2 f X1 X1 cs1 → vm_W p l e R s m args below meth c cells slots Q D ad tc A 610 ([some (.ref 2000000), some (.ref 0), some (.ref 16), some (.int (nI i))], [], cs1)) : vm_W p l e R s m args below meth c cells slots Q D ad tc A 577 ([some (.ref 2000000), some (.ref 0), some (.ref 16), some (.int (nI i))], [], cs) := by
  obtain ⟨r, X1, hI1, hc1, hc2⟩ := s_sum (x := (xs ((nI i) + (1 : Int32)).toNatClampNeg)) (y := (xs ((nI i) + (2 : Int32)).toNatClampNeg)) f X cs hI hK
  obtain ⟨fs0, hg0⟩ := K2_L hK
  refine vm_blk (S' := ([some (.ref 2000000), some (.ref 0), some (.ref 16), some (.int (nI i))], [.int ((nI i) + (1 : Int32)), .ref 2000000, .ref 0], cs)) C [.inl (.aload_n 1), .inl (.aload_n 0), .inl (.iload_n 3), .inr (.inl (.int 1, 0)), .inl .iadd] 577 _ [True, True, True, True, True] kw_W_law_577 rfl ⟨trivial, trivial, trivial, trivial, trivial, trivial⟩ ?_
  refine vw_sld C hX hbl hbA dw_W_law_582 (in_sc (i := i) 1 (by omega) hL (nI_add i 1)) ?_
  refine vm_blk (S' := ([some (.ref 2000000), some (.ref 0), some (.ref 16), some (.int (nI i))], [.int ((nI i) + (2 : Int32)), .ref 2000000, .int (xs ((nI i) + (1 : Int32)).toNatClampNeg), .ref 0], cs)) C [.inl (.aload_n 0), .inl (.iload_n 3), .inr (.inl (.int 2, 0)), .inl .iadd] 583 _ [True, True, True, True] kw_W_law_583 rfl ⟨trivial, trivial, trivial, trivial, trivial⟩ ?_
  refine vw_sld C hX hbl hbA dw_W_law_587 (in_sc (i := i) 2 (by omega) hL (nI_add i 2)) ?_
  refine vw_callV C hc hs (b := 0) (ci := 4) (As := [.int (xs ((nI i) + (1 : Int32)).toNatClampNeg), .int (xs ((nI i) + (2 : Int32)).toNatClampNeg)]) (rest := []) v_W_law_588 hc1 rfl (Nat.le_of_ble_eq_true rfl) rfl hg0 rfl rfl (fun r1 cs1 hp => ?_)
  obtain ⟨rfl, hK1⟩ := hp
  obtain ⟨fs1, hg1⟩ := K2_M hK1
  show vm_W p l e R s m args below meth c cells slots Q D ad tc A 591 ([some (.ref 2000000), some (.ref 0), some (.ref 16), some (.int (nI i))], [.int r], cs1)
  refine vm_blk (S' := ([some (.ref 2000000), some (.ref 0), some (.ref 16), some (.int (nI i))], [.int ((nI i) + (1 : Int32)), .ref 2000000, .ref 16, .int r], cs1)) C [.inl (.aload_n 2), .inl (.aload_n 0), .inl (.iload_n 3), .inr (.inl (.int 1, 0)), .inl .iadd] 591 _ [True, True, True, True, True] kw_W_law_591 rfl ⟨trivial, trivial, trivial, trivial, trivial, trivial⟩ ?_
  refine vw_sld C hX hbl hbA dw_W_law_596 (in_sc (i := i) 1 (by omega) hL (nI_add i 1)) ?_
  refine vm_blk (S' := ([some (.ref 2000000), some (.ref 0), some (.ref 16), some (.int (nI i))], [.int ((nI i) + (2 : Int32)), .ref 2000000, .int (xs ((nI i) + (1 : Int32)).toNatClampNeg), .ref 16, .int r], cs1)) C [.inl (.aload_n 0), .inl (.iload_n 3), .inr (.inl (.int 2, 0)), .inl .iadd] 597 _ [True, True, True, True] kw_W_law_597 rfl ⟨trivial, trivial, trivial, trivial, trivial⟩ ?_
  refine vw_sld C hX hbl hbA dw_W_law_601 (in_sc (i := i) 2 (by omega) hL (nI_add i 2)) ?_
  refine vw_callV C hc hs (b := 16) (ci := 5) (As := [.int (xs ((nI i) + (1 : Int32)).toNatClampNeg), .int (xs ((nI i) + (2 : Int32)).toNatClampNeg)]) (rest := [.int r]) v_W_law_602 (hc2 cs1 hK1) rfl (Nat.le_of_ble_eq_true rfl) rfl hg1 rfl rfl (fun r1 cs2 hp => ?_)
  obtain ⟨rfl, hK2⟩ := hp
  exact vw_eq (tgt := 610) C d_W_law_605 (by decide) (kont X1 cs2 hI1 hK2)
set_option maxRecDepth 100000 in
set_option maxHeartbeats 4000000 in
theorem w_loop (C : vm_C m_W_law p R s m args meth c D ad tc A) (hX : va_X (ad 2000000) L xs s s.heap) (hbl : ad 2000000 < s.heap.size) (hbA : ¬ A (ad 2000000)) (hc : cells ≤ R.cells) (hs : slots ≤ R.slots) (hL2 : L ≤ 2049) (hend : ∀ lv cs, vm_W p l e R s m args below meth c cells slots Q D ad tc A 616 (lv, [], cs)) : ∀ (k i f : Nat) (X : AX) (cs : List va_E), L + 4 ≤ i + 4 * k → i ≤ 4000 → Inv f X → K2 f X X cs → vm_W p l e R s m args below meth c cells slots Q D ad tc A 28 ([some (.ref 2000000), some (.ref 0), some (.ref 16), some (.int (nI i))], [], cs)
  | 0, i, f, X, cs, hk, hi4, hI, hK => by
    have hL : L < 2 ^ 31 := by omega
    refine vm_blk (S' := ([some (.ref 2000000), some (.ref 0), some (.ref 16), some (.int (nI i))], [.ref 2000000, .int (nI i)], cs)) C [.inl (.iload_n 3), .inl (.aload_n 0)] 28 _ [True, True] kw_W_law_28 rfl ⟨trivial, trivial, trivial⟩ ?_
    refine vw_slen C hX hbl hbA dw_W_law_30 ?_
    refine vm_blk (S' := ([some (.ref 2000000), some (.ref 0), some (.ref 16), some (.int (nI i))], [.int ((nI L) - (4 : Int32)), .int (nI i)], cs)) C [.inr (.inl (.int 4, 0)), .inl .isub] 31 _ [True, True] kw_W_law_31 rfl ⟨trivial, trivial, trivial⟩ ?_
    refine vw_gt (tgt := 616) C d_W_law_33 (by decide) (fun _ => hend _ _) (fun h => ?_)
    exfalso
    have hi : i + 4 ≤ L := by rw [Int32.lt_iff_toInt_lt, show (4 : Int32) = nI 4 from rfl, pk_sub_toInt (by omega) (by decide), nI_toInt (by omega)] at h; omega
    omega
  | k + 1, i, f, X, cs, hk, hi4, hI, hK => by
    have hL : L < 2 ^ 31 := by omega
    refine vm_blk (S' := ([some (.ref 2000000), some (.ref 0), some (.ref 16), some (.int (nI i))], [.ref 2000000, .int (nI i)], cs)) C [.inl (.iload_n 3), .inl (.aload_n 0)] 28 _ [True, True] kw_W_law_28 rfl ⟨trivial, trivial, trivial⟩ ?_
    refine vw_slen C hX hbl hbA dw_W_law_30 ?_
    refine vm_blk (S' := ([some (.ref 2000000), some (.ref 0), some (.ref 16), some (.int (nI i))], [.int ((nI L) - (4 : Int32)), .int (nI i)], cs)) C [.inr (.inl (.int 4, 0)), .inl .isub] 31 _ [True, True] kw_W_law_31 rfl ⟨trivial, trivial, trivial⟩ ?_
    refine vw_gt (tgt := 616) C d_W_law_33 (by decide) (fun _ => hend _ _) (fun h => ?_)
    have hi : i + 4 ≤ L := by rw [Int32.lt_iff_toInt_lt, show (4 : Int32) = nI 4 from rfl, pk_sub_toInt (by omega) (by decide), nI_toInt (by omega)] at h; omega
    have kont : ∀ X1 cs1, Inv f X1 → K2 f X1 X1 cs1 → vm_W p l e R s m args below meth c cells slots Q D ad tc A 610 ([some (.ref 2000000), some (.ref 0), some (.ref 16), some (.int (nI i))], [], cs1) := by
      intro X1 cs1 h1 h2
      refine vm_blk (S' := ([some (.ref 2000000), some (.ref 0), some (.ref 16), some (.int ((nI i) + (4 : Int32)))], [], cs1)) C [.inr (.inr (.inr (3, 4)))] 610 _ [True] kw_W_law_610 rfl ⟨trivial, trivial⟩ ?_
      refine vw_goto (tgt := 28) C d_W_law_613 (by decide) ?_
      rw [show nI i + (4 : Int32) = nI (i + 4) from nI_add i 4]
      exact w_loop C hX hbl hbA hc hs hL2 hend k (i + 4) f X1 cs1 (by omega) (by omega) h1 h2
    refine vm_blk (S' := ([some (.ref 2000000), some (.ref 0), some (.ref 16), some (.int (nI i))], [.int (nI i), .ref 2000000], cs)) C [.inl (.aload_n 0), .inl (.iload_n 3)] 36 _ [True, True] kw_W_law_36 rfl ⟨trivial, trivial, trivial⟩ ?_
    refine vw_sld C hX hbl hbA dw_W_law_38 (in_sc (i := i) 0 (by omega) hL rfl) ?_
    refine vm_blk (S' := ([some (.ref 2000000), some (.ref 0), some (.ref 16), some (.int (nI i))], [.int ((xs (nI i).toNatClampNeg) &&& (15 : Int32))], cs)) C [.inr (.inl (.int 15, 0)), .inl .iand] 39 _ [True, True] kw_W_law_39 rfl ⟨trivial, trivial, trivial⟩ ?_
    obtain ⟨j, hj, he⟩ := pk_andE (xs (nI i).toNatClampNeg) (m := 15) 4 (by decide)
    rw [he]
    match j, hj with
    | 0, _ => exact vw_ts (tgt := 120) (x := nI 0) (off := 78) C d_W_law_42 (by decide) (by decide) rfl (by decide) (w_add C hX hbl hbA hc hs hL hi hI hK kont)
    | 1, _ => exact vw_ts (tgt := 183) (x := nI 1) (off := 141) C d_W_law_42 (by decide) (by decide) rfl (by decide) (w_zeros C hX hbl hbA hc hs hL hi hI hK kont)
    | 2, _ => exact vw_ts (tgt := 206) (x := nI 2) (off := 164) C d_W_law_42 (by decide) (by decide) rfl (by decide) (w_poke C hX hbl hbA hc hs hL hi hI hK kont)
    | 3, _ => exact vw_ts (tgt := 249) (x := nI 3) (off := 207) C d_W_law_42 (by decide) (by decide) rfl (by decide) (w_peek C hX hbl hbA hc hs hL hi hI hK kont)
    | 4, _ => exact vw_ts (tgt := 272) (x := nI 4) (off := 230) C d_W_law_42 (by decide) (by decide) rfl (by decide) (w_cut C hX hbl hbA hc hs hL hi hI hK kont)
    | 5, _ => exact vw_ts (tgt := 295) (x := nI 5) (off := 253) C d_W_law_42 (by decide) (by decide) rfl (by decide) (w_load C hX hbl hbA hc hs hL hi hI hK kont)
    | 6, _ => exact vw_ts (tgt := 318) (x := nI 6) (off := 276) C d_W_law_42 (by decide) (by decide) rfl (by decide) (w_told C hX hbl hbA hc hs hL hi hI hK kont)
    | 7, _ => exact vw_ts (tgt := 341) (x := nI 7) (off := 299) C d_W_law_42 (by decide) (by decide) rfl (by decide) (w_stack C hX hbl hbA hc hs hL hi hI hK kont)
    | 8, _ => exact vw_ts (tgt := 364) (x := nI 8) (off := 322) C d_W_law_42 (by decide) (by decide) rfl (by decide) (w_read C hX hbl hbA hc hs hL hi hI hK kont)
    | 9, _ => exact vw_ts (tgt := 398) (x := nI 9) (off := 356) C d_W_law_42 (by decide) (by decide) rfl (by decide) (w_write C hX hbl hbA hc hs hL hi hI hK kont)
    | 10, _ => exact vw_ts (tgt := 441) (x := nI 10) (off := 399) C d_W_law_42 (by decide) (by decide) rfl (by decide) (w_fetch C hX hbl hbA hc hs hL hi hI hK kont)
    | 11, _ => exact vw_ts (tgt := 465) (x := nI 11) (off := 423) C d_W_law_42 (by decide) (by decide) rfl (by decide) (w_protect C hX hbl hbA hc hs hL hi hI hK kont)
    | 12, _ => exact vw_ts (tgt := 498) (x := nI 12) (off := 456) C d_W_law_42 (by decide) (by decide) rfl (by decide) (w_unmap C hX hbl hbA hc hs hL hi hI hK kont)
    | 13, _ => exact vw_ts (tgt := 531) (x := nI 13) (off := 489) C d_W_law_42 (by decide) (by decide) rfl (by decide) (w_rights C hX hbl hbA hc hs hL hi hI hK kont)
    | 14, _ => exact vw_ts (tgt := 554) (x := nI 14) (off := 512) C d_W_law_42 (by decide) (by decide) rfl (by decide) (w_count C hX hbl hbA hc hs hL hi hI hK kont)
    | 15, _ => exact vw_ts (tgt := 577) (x := nI 15) (off := 535) C d_W_law_42 (by decide) (by decide) rfl (by decide) (w_sum C hX hbl hbA hc hs hL hi hI hK kont)
    | n + 16, hj => exact absurd hj (by omega)
end LW5
