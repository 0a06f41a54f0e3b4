section P26
variable {fp le lp lb il : Int32} {tf bf rf : Nat → Int32} {tz fr mp sc ifp ib ie pw dh rc : Int32} {rl rb re sy sb : Int64} {sg : Nat → A_G} {ex : List va_E}
theorem d_L_init_5 : vm_dec m_L_init 5 (.new 7) 3 = true := by decide +kernel
theorem v_L_init_9 : vm_okJ m_L_init m_T_init 9 9 0 (60, 61, 43, 62) = true := by decide +kernel
theorem d_L_init_16 : vm_dec m_L_init 16 (.new 16) 3 = true := by decide +kernel
theorem v_L_init_30 : vm_okJ m_L_init m_P_init 30 27 1 (80, 81, 44, 82) = true := by decide +kernel
theorem d_L_init_37 : vm_dec m_L_init 37 (.new 34) 3 = true := by decide +kernel
theorem v_L_init_41 : vm_okJ m_L_init m_I_init 41 36 0 (100, 101, 46, 102) = true := by decide +kernel
theorem d_M_init_8 : vm_dec m_M_init 8 (.newarray .int) 2 = true := by decide +kernel
theorem d_M_init_16 : vm_dec m_M_init 16 (.newarray .boolean) 2 = true := by decide +kernel
theorem d_M_init_24 : vm_dec m_M_init 24 (.newarray .int) 2 = true := by decide +kernel
theorem d_M_init_33 : vm_dec m_M_init 33 (.newarray .int) 2 = true := by decide +kernel
theorem d_M_init_41 : vm_dec m_M_init 41 (.newarray .long) 2 = true := by decide +kernel
theorem d_M_init_49 : vm_dec m_M_init 49 (.newarray .long) 2 = true := by decide +kernel
theorem d_M_init_57 : vm_dec m_M_init 57 (.newarray .int) 2 = true := by decide +kernel
theorem d_M_init_65 : vm_dec m_M_init 65 (.newarray .int) 2 = true := by decide +kernel
theorem d_M_init_73 : vm_dec m_M_init 73 (.newarray .int) 2 = true := by decide +kernel
theorem d_M_init_81 : vm_dec m_M_init 81 (.newarray .boolean) 2 = true := by decide +kernel
theorem d_M_init_89 : vm_dec m_M_init 89 (.newarray .long) 2 = true := by decide +kernel
theorem d_I_init_7 : vm_dec m_I_init 7 (.anewarray 11) 3 = true := by decide +kernel
theorem d_I_init_26 : vm_dec m_I_init 26 (.new 11) 3 = true := by decide +kernel
theorem v_I_init_30 : vm_okK m_I_init m_S_init 30 17 0 (0, 108, 47, 109) = true := by decide +kernel
theorem d_P_init_13 : vm_dec m_P_init 13 (.newarray .byte) 2 = true := by decide +kernel
theorem d_P_init_21 : vm_dec m_P_init 21 (.newarray .int) 2 = true := by decide +kernel
theorem d_T_init_8 : vm_dec m_T_init 8 (.newarray .byte) 2 = true := by decide +kernel
theorem d_W_law_0 : vm_dec m_W_law 0 (.new 7) 3 = true := by decide +kernel
theorem v_W_law_9 : vm_okJ m_W_law m_L_init 9 15 1 (52, 53, 42, 54) = true := by decide +kernel
theorem d_W_law_13 : vm_dec m_W_law 13 (.new 18) 3 = true := by decide +kernel
theorem v_W_law_22 : vm_okJ m_W_law m_M_init 22 20 1 (584, 585, 48, 586) = true := by decide +kernel
set_option maxRecDepth 100000 in
set_option maxHeartbeats 8000000 in
theorem c_T_init  : Ct m_T_init 1 900 [.ref 1] ([.inr (4, [.null, .null, .null, .int (0 : Int32), .int (0 : Int32), .int (0 : Int32), .int (0 : Int32), .int (0 : Int32)]), .inr (3, [.null, .int (0 : Int32)])]) (vm_is none ([.inr (4, [.null, .null, .null, .int (0 : Int32), .int (0 : Int32), .int (0 : Int32), .int (0 : Int32), .int (0 : Int32)]), .inr (3, [.ref 2, .int (0 : Int32)]), .inl (0, 900, .inl (fun _ => 0))])) := by
  refine Ct.of ⟨by decide +kernel, rfl⟩ (Nat.le_of_ble_eq_true rfl) (lv := [some (.ref 1)]) rfl ?_
  refine Run.blk (gs := [True]) (S' := ([some (.ref 1)], [.ref 1], [.inr (4, [.null, .null, .null, .int (0 : Int32), .int (0 : Int32), .int (0 : Int32), .int (0 : Int32), .int (0 : Int32)]), .inr (3, [.null, .int (0 : Int32)])])) k_T_init_0 kc_T_init_0 rfl ⟨trivial, trivial⟩ ?_
  refine Run.objInit (P1 := 63) (P2 := 56) (P3 := 57) d_T_init_1 (by decide +kernel) (by decide +kernel) rfl ?_
  show Run _ _ _ _ 4 ([some (.ref 1)], [], [.inr (4, [.null, .null, .null, .int (0 : Int32), .int (0 : Int32), .int (0 : Int32), .int (0 : Int32), .int (0 : Int32)]), .inr (3, [.null, .int (0 : Int32)])]) _
  refine Run.blk (gs := [True, True]) (S' := ([some (.ref 1)], [.int (900 : Int32), .ref 1], [.inr (4, [.null, .null, .null, .int (0 : Int32), .int (0 : Int32), .int (0 : Int32), .int (0 : Int32), .int (0 : Int32)]), .inr (3, [.null, .int (0 : Int32)])])) k_T_init_4 kc_T_init_4 rfl ⟨trivial, trivial, trivial⟩ ?_
  refine Run.newa (N := 900) (P := 71) (by decide) d_T_init_8 (by decide +kernel) (by decide) (by decide) (by decide) (Nat.le_of_ble_eq_true rfl) (Nat.le_of_ble_eq_true rfl) (by simp [vm_wf, vm_rv, vm_re]) ?_
  show Run _ _ _ _ 10 ([some (.ref 1)], [.ref 2, .ref 1], [.inr (4, [.null, .null, .null, .int (0 : Int32), .int (0 : Int32), .int (0 : Int32), .int (0 : Int32), .int (0 : Int32)]), .inr (3, [.null, .int (0 : Int32)]), .inl (0, 900, .inl (fun _ => 0))]) _
  refine Run.blk (gs := [True, True, True, True]) (S' := ([some (.ref 1)], [], [.inr (4, [.null, .null, .null, .int (0 : Int32), .int (0 : Int32), .int (0 : Int32), .int (0 : Int32), .int (0 : Int32)]), .inr (3, [.ref 2, .int (0 : Int32)]), .inl (0, 900, .inl (fun _ => 0))])) k_T_init_10 kc_T_init_10 rfl ⟨trivial, trivial, trivial, trivial, trivial⟩ ?_
  exact Run.ret (r := none) ⟨d_T_init_18, rfl⟩ ⟨rfl, rfl⟩
set_option maxRecDepth 100000 in
set_option maxHeartbeats 4000000 in
theorem l_P_init {x : Int32} {n : Nat} : ∀ (k i : Nat) (v : Int32) (f : Nat → Int32), v = nI i → f = fillI (fun _ => 0) 0 i (-1) → i + k = 64 → Run m_P_init n 0 0 28 ([some (.ref 3), some (.int x), some (.int v)], [], [.inr (4, [.ref 1, .null, .null, .int (0 : Int32), .int (0 : Int32), .int (0 : Int32), .int (0 : Int32), .int (0 : Int32)]), .inr (3, [.ref 2, .int (0 : Int32)]), .inl (0, 900, .inl (fun _ => 0)), .inr (2, [.ref 4, .ref 5, .int x, .int (0 : Int32)]), .inl (0, 16384, .inl (fun _ => 0)), .inl (1, 64, .inl f)]) (vm_is none ([.inr (4, [.ref 1, .null, .null, .int (0 : Int32), .int (0 : Int32), .int (0 : Int32), .int (0 : Int32), .int (0 : Int32)]), .inr (3, [.ref 2, .int (0 : Int32)]), .inl (0, 900, .inl (fun _ => 0)), .inr (2, [.ref 4, .ref 5, .int x, .int (0 : Int32)]), .inl (0, 16384, .inl (fun _ => 0)), .inl (1, 64, .inl (fillI (fun _ => 0) 0 64 (-1)))]))
  | 0, i, v, f, hv, hf, h => by
    obtain rfl : i = 64 := by omega
    refine Run.blk (gs := [True, True]) (S' := ([some (.ref 3), some (.int x), some (.int v)], [.int (64 : Int32), .int v], [.inr (4, [.ref 1, .null, .null, .int (0 : Int32), .int (0 : Int32), .int (0 : Int32), .int (0 : Int32), .int (0 : Int32)]), .inr (3, [.ref 2, .int (0 : Int32)]), .inl (0, 900, .inl (fun _ => 0)), .inr (2, [.ref 4, .ref 5, .int x, .int (0 : Int32)]), .inl (0, 16384, .inl (fun _ => 0)), .inl (1, 64, .inl f)])) k_P_init_28 kc_P_init_28 rfl ⟨trivial, trivial, trivial⟩ ?_
    refine Run.br (tgt := 47) d_P_init_31 rfl (by decide) (fun c_1 => ?_) (fun c_1 => ?_)
    · refine Run.blk (gs := [True, True, True]) (S' := ([some (.ref 3), some (.int x), some (.int v)], [], [.inr (4, [.ref 1, .null, .null, .int (0 : Int32), .int (0 : Int32), .int (0 : Int32), .int (0 : Int32), .int (0 : Int32)]), .inr (3, [.ref 2, .int (0 : Int32)]), .inl (0, 900, .inl (fun _ => 0)), .inr (2, [.ref 4, .ref 5, .int x, .int (0 : Int32)]), .inl (0, 16384, .inl (fun _ => 0)), .inl (1, 64, .inl f)])) k_P_init_47 kc_P_init_47 rfl ⟨trivial, trivial, trivial, trivial⟩ ?_
      exact Run.ret (r := none) ⟨d_P_init_52, rfl⟩ ⟨rfl, by rw [hf]⟩
    · exact absurd (by rw [hv]; exact Int32.le_refl _) c_1
  | k + 1, i, v, f, hv, hf, h => by
    refine Run.blk (gs := [True, True]) (S' := ([some (.ref 3), some (.int x), some (.int v)], [.int (64 : Int32), .int v], [.inr (4, [.ref 1, .null, .null, .int (0 : Int32), .int (0 : Int32), .int (0 : Int32), .int (0 : Int32), .int (0 : Int32)]), .inr (3, [.ref 2, .int (0 : Int32)]), .inl (0, 900, .inl (fun _ => 0)), .inr (2, [.ref 4, .ref 5, .int x, .int (0 : Int32)]), .inl (0, 16384, .inl (fun _ => 0)), .inl (1, 64, .inl f)])) k_P_init_28 kc_P_init_28 rfl ⟨trivial, trivial, trivial⟩ ?_
    refine Run.br (tgt := 47) d_P_init_31 rfl (by decide) (fun c_1 => ?_) (fun c_1 => ?_)
    · exact absurd c_1 (by rw [hv]; exact nI_ge (show i < 64 by omega) (by decide))
    · refine Run.blk (gs := [True, True, True, True, vp_in v 64, True]) (S' := ([some (.ref 3), some (.int x), some (.int (v + (1 : Int32)))], [], [.inr (4, [.ref 1, .null, .null, .int (0 : Int32), .int (0 : Int32), .int (0 : Int32), .int (0 : Int32), .int (0 : Int32)]), .inr (3, [.ref 2, .int (0 : Int32)]), .inl (0, 900, .inl (fun _ => 0)), .inr (2, [.ref 4, .ref 5, .int x, .int (0 : Int32)]), .inl (0, 16384, .inl (fun _ => 0)), .inl (1, 64, .inl (upd f v.toNatClampNeg (-1 : Int32)))])) k_P_init_34 kc_P_init_34 rfl ⟨trivial, trivial, trivial, trivial, (by rw [hv]; exact vp_in_nI (show i < 64 by omega) (by decide)), trivial, trivial⟩ ?_
      refine Run.goto (tgt := 28) d_P_init_44 (by decide) ?_
      exact l_P_init k (i + 1) _ _ (by rw [hv, nI_1]) (by rw [hv, nI_clamp (by omega), hf]; have := fillI_s (fun _ => 0) 0 i (-1); rw [Nat.zero_add] at this; exact this) (by omega)
set_option maxRecDepth 100000 in
set_option maxHeartbeats 8000000 in
theorem c_P_init {x : Int32} : Ct m_P_init 2 16448 [.ref 3, .int x] ([.inr (4, [.ref 1, .null, .null, .int (0 : Int32), .int (0 : Int32), .int (0 : Int32), .int (0 : Int32), .int (0 : Int32)]), .inr (3, [.ref 2, .int (0 : Int32)]), .inl (0, 900, .inl (fun _ => 0)), .inr (2, [.null, .null, .int (0 : Int32), .int (0 : Int32)])]) (vm_is none ([.inr (4, [.ref 1, .null, .null, .int (0 : Int32), .int (0 : Int32), .int (0 : Int32), .int (0 : Int32), .int (0 : Int32)]), .inr (3, [.ref 2, .int (0 : Int32)]), .inl (0, 900, .inl (fun _ => 0)), .inr (2, [.ref 4, .ref 5, .int x, .int (0 : Int32)]), .inl (0, 16384, .inl (fun _ => 0)), .inl (1, 64, .inl (fillI (fun _ => 0) 0 64 (-1)))])) := by
  refine Ct.of ⟨by decide +kernel, rfl⟩ (Nat.le_of_ble_eq_true rfl) (lv := [some (.ref 3), some (.int x), none]) rfl ?_
  refine Run.blk (gs := [True]) (S' := ([some (.ref 3), some (.int x), none], [.ref 3], [.inr (4, [.ref 1, .null, .null, .int (0 : Int32), .int (0 : Int32), .int (0 : Int32), .int (0 : Int32), .int (0 : Int32)]), .inr (3, [.ref 2, .int (0 : Int32)]), .inl (0, 900, .inl (fun _ => 0)), .inr (2, [.null, .null, .int (0 : Int32), .int (0 : Int32)])])) k_P_init_0 kc_P_init_0 rfl ⟨trivial, trivial⟩ ?_
  refine Run.objInit (P1 := 83) (P2 := 56) (P3 := 57) d_P_init_1 (by decide +kernel) (by decide +kernel) rfl ?_
  show Run _ _ _ _ 4 ([some (.ref 3), some (.int x), none], [], [.inr (4, [.ref 1, .null, .null, .int (0 : Int32), .int (0 : Int32), .int (0 : Int32), .int (0 : Int32), .int (0 : Int32)]), .inr (3, [.ref 2, .int (0 : Int32)]), .inl (0, 900, .inl (fun _ => 0)), .inr (2, [.null, .null, .int (0 : Int32), .int (0 : Int32)])]) _
  refine Run.blk (gs := [True, True, True, True, True]) (S' := ([some (.ref 3), some (.int x), none], [.int (16384 : Int32), .ref 3], [.inr (4, [.ref 1, .null, .null, .int (0 : Int32), .int (0 : Int32), .int (0 : Int32), .int (0 : Int32), .int (0 : Int32)]), .inr (3, [.ref 2, .int (0 : Int32)]), .inl (0, 900, .inl (fun _ => 0)), .inr (2, [.null, .null, .int x, .int (0 : Int32)])])) k_P_init_4 kc_P_init_4 rfl ⟨trivial, trivial, trivial, trivial, trivial, trivial⟩ ?_
  refine Run.newa (N := 16384) (P := 71) (by decide) d_P_init_13 (by decide +kernel) (by decide) (by decide) (by decide) (Nat.le_of_ble_eq_true rfl) (Nat.le_of_ble_eq_true rfl) (by simp [vm_wf, vm_rv, vm_re]) ?_
  show Run _ _ _ _ 15 ([some (.ref 3), some (.int x), none], [.ref 4, .ref 3], [.inr (4, [.ref 1, .null, .null, .int (0 : Int32), .int (0 : Int32), .int (0 : Int32), .int (0 : Int32), .int (0 : Int32)]), .inr (3, [.ref 2, .int (0 : Int32)]), .inl (0, 900, .inl (fun _ => 0)), .inr (2, [.null, .null, .int x, .int (0 : Int32)]), .inl (0, 16384, .inl (fun _ => 0))]) _
  refine Run.blk (gs := [True, True, True]) (S' := ([some (.ref 3), some (.int x), none], [.int (64 : Int32), .ref 3], [.inr (4, [.ref 1, .null, .null, .int (0 : Int32), .int (0 : Int32), .int (0 : Int32), .int (0 : Int32), .int (0 : Int32)]), .inr (3, [.ref 2, .int (0 : Int32)]), .inl (0, 900, .inl (fun _ => 0)), .inr (2, [.ref 4, .null, .int x, .int (0 : Int32)]), .inl (0, 16384, .inl (fun _ => 0))])) k_P_init_15 kc_P_init_15 rfl ⟨trivial, trivial, trivial, trivial⟩ ?_
  refine Run.newa (N := 64) (P := 97) (by decide) d_P_init_21 (by decide +kernel) (by decide) (by decide) (by decide) (Nat.le_of_ble_eq_true rfl) (Nat.le_of_ble_eq_true rfl) (by simp [vm_wf, vm_rv, vm_re]) ?_
  show Run _ _ _ _ 23 ([some (.ref 3), some (.int x), none], [.ref 5, .ref 3], [.inr (4, [.ref 1, .null, .null, .int (0 : Int32), .int (0 : Int32), .int (0 : Int32), .int (0 : Int32), .int (0 : Int32)]), .inr (3, [.ref 2, .int (0 : Int32)]), .inl (0, 900, .inl (fun _ => 0)), .inr (2, [.ref 4, .null, .int x, .int (0 : Int32)]), .inl (0, 16384, .inl (fun _ => 0)), .inl (1, 64, .inl (fun _ => 0))]) _
  refine Run.blk (gs := [True, True, True]) (S' := ([some (.ref 3), some (.int x), some (.int (0 : Int32))], [], [.inr (4, [.ref 1, .null, .null, .int (0 : Int32), .int (0 : Int32), .int (0 : Int32), .int (0 : Int32), .int (0 : Int32)]), .inr (3, [.ref 2, .int (0 : Int32)]), .inl (0, 900, .inl (fun _ => 0)), .inr (2, [.ref 4, .ref 5, .int x, .int (0 : Int32)]), .inl (0, 16384, .inl (fun _ => 0)), .inl (1, 64, .inl (fun _ => 0))])) k_P_init_23 kc_P_init_23 rfl ⟨trivial, trivial, trivial, trivial⟩ ?_
  exact l_P_init 64 0 _ _ rfl (fillI_0 _ _ _).symm rfl
variable {c0 c1 c2 c3 c4 c5 : va_E} {tl : List va_E}
set_option maxRecDepth 100000 in
set_option maxHeartbeats 8000000 in
theorem c_I_forget  : Ct m_I_forget 0 0 [.ref 6] (c0 :: c1 :: c2 :: c3 :: c4 :: c5 :: .inr (0, [.ref 7, .int sc, .int ifp, .int ib, .int ie, .int pw, .int dh, .long rl, .long rb, .long re, .long sy, .long sb, .int rc]) :: tl) (vm_is none (c0 :: c1 :: c2 :: c3 :: c4 :: c5 :: .inr (0, [.ref 7, .int (0 : Int32), .int (-1 : Int32), .int (0 : Int32), .int (-1 : Int32), .int (0 : Int32), .int (-1 : Int32), .long (0 : Int64), .long (0 : Int64), .long (0 : Int64), .long (0 : Int64), .long (0 : Int64), .int (0 : Int32)]) :: tl)) := by
  refine Ct.of ⟨by decide +kernel, rfl⟩ (Nat.le_of_ble_eq_true rfl) (lv := [some (.ref 6)]) rfl ?_
  refine Run.blk (gs := [True, True, True, True, True, True, True, True, True, True, True, True, True, True, True, True, True, True, True, True, True, True, True, True, True, True, True, True, True, True, True, True, True, True, True, True]) (S' := ([some (.ref 6)], [], c0 :: c1 :: c2 :: c3 :: c4 :: c5 :: .inr (0, [.ref 7, .int (0 : Int32), .int (-1 : Int32), .int (0 : Int32), .int (-1 : Int32), .int (0 : Int32), .int (-1 : Int32), .long (0 : Int64), .long (0 : Int64), .long (0 : Int64), .long (0 : Int64), .long (0 : Int64), .int (0 : Int32)]) :: tl)) k_I_forget_0 kc_I_forget_0 rfl ⟨trivial, trivial, trivial, trivial, trivial, trivial, trivial, trivial, trivial, trivial, trivial, trivial, trivial, trivial, trivial, trivial, trivial, trivial, trivial, trivial, trivial, trivial, trivial, trivial, trivial, trivial, trivial, trivial, trivial, trivial, trivial, trivial, trivial, trivial, trivial, trivial, trivial⟩ ?_
  exact Run.ret (r := none) ⟨d_I_forget_60, rfl⟩ ⟨rfl, rfl⟩
variable {cs : List va_E}
theorem c_S_init {q : Nat} : Ct m_S_init 0 0 [.ref q] cs (vm_is none cs) := by
  refine Ct.of ⟨by decide +kernel, rfl⟩ (Nat.le_of_ble_eq_true rfl) (lv := [some (.ref q)]) rfl ?_
  refine Run.blk (gs := [True]) (S' := ([some (.ref q)], [.ref q], cs)) k_S_init_0 kc_S_init_0 rfl ⟨trivial, trivial⟩ ?_
  refine Run.objInit (P1 := 110) (P2 := 56) (P3 := 57) d_S_init_1 (by decide +kernel) (by decide +kernel) rfl ?_
  exact Run.ret (r := none) ⟨d_S_init_4, rfl⟩ ⟨rfl, rfl⟩
theorem sgf_eq : va_up (va_up (va_up (va_up (va_up (va_up (va_up (va_up (fun _ => none) (0 : Int32).toNatClampNeg (some 8)) ((0 : Int32) + (1 : Int32)).toNatClampNeg (some 9)) (((0 : Int32) + (1 : Int32)) + (1 : Int32)).toNatClampNeg (some 10)) ((((0 : Int32) + (1 : Int32)) + (1 : Int32)) + (1 : Int32)).toNatClampNeg (some 11)) (((((0 : Int32) + (1 : Int32)) + (1 : Int32)) + (1 : Int32)) + (1 : Int32)).toNatClampNeg (some 12)) ((((((0 : Int32) + (1 : Int32)) + (1 : Int32)) + (1 : Int32)) + (1 : Int32)) + (1 : Int32)).toNatClampNeg (some 13)) (((((((0 : Int32) + (1 : Int32)) + (1 : Int32)) + (1 : Int32)) + (1 : Int32)) + (1 : Int32)) + (1 : Int32)).toNatClampNeg (some 14)) ((((((((0 : Int32) + (1 : Int32)) + (1 : Int32)) + (1 : Int32)) + (1 : Int32)) + (1 : Int32)) + (1 : Int32)) + (1 : Int32)).toNatClampNeg (some 15) = sgf := by
  funext j
  by_cases h : j < 8
  · have : j = 0 ∨ j = 1 ∨ j = 2 ∨ j = 3 ∨ j = 4 ∨ j = 5 ∨ j = 6 ∨ j = 7 := by omega
    rcases this with rfl | rfl | rfl | rfl | rfl | rfl | rfl | rfl <;> decide
  · unfold sgf
    rw [if_neg h]
    rw [va_up_ne _ _ (by have : ((((((((0 : Int32) + (1 : Int32)) + (1 : Int32)) + (1 : Int32)) + (1 : Int32)) + (1 : Int32)) + (1 : Int32)) + (1 : Int32)).toNatClampNeg = 7 := by decide
                         omega),
      va_up_ne _ _ (by have : (((((((0 : Int32) + (1 : Int32)) + (1 : Int32)) + (1 : Int32)) + (1 : Int32)) + (1 : Int32)) + (1 : Int32)).toNatClampNeg = 6 := by decide
                       omega),
      va_up_ne _ _ (by have : ((((((0 : Int32) + (1 : Int32)) + (1 : Int32)) + (1 : Int32)) + (1 : Int32)) + (1 : Int32)).toNatClampNeg = 5 := by decide
                       omega),
      va_up_ne _ _ (by have : (((((0 : Int32) + (1 : Int32)) + (1 : Int32)) + (1 : Int32)) + (1 : Int32)).toNatClampNeg = 4 := by decide
                       omega),
      va_up_ne _ _ (by have : ((((0 : Int32) + (1 : Int32)) + (1 : Int32)) + (1 : Int32)).toNatClampNeg = 3 := by decide
                       omega),
      va_up_ne _ _ (by have : (((0 : Int32) + (1 : Int32)) + (1 : Int32)).toNatClampNeg = 2 := by decide
                       omega),
      va_up_ne _ _ (by have : ((0 : Int32) + (1 : Int32)).toNatClampNeg = 1 := by decide
                       omega),
      va_up_ne _ _ (by have : (0 : Int32).toNatClampNeg = 0 := by decide
                       omega)]
end P26
