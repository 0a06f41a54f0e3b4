section P34
variable {fp le lp lb il : Int32} {tf bf rf : Nat → Int32} {tz fr mp sc ifp ib ie pw dh rc : Int32} {rl rb re sy sb : Int64} {sg : Nat → A_G} {ex : List va_E}
variable {cs : List va_E} {n : Nat} {t b : Nat → Nat} {z : Nat} {L : List SG} {O Ad St Fi He Al : Nat} {fl : Int32}
theorem vp_j {j : Nat} {x : Int32} (hx : x = nI j) (hj : j < 8) : vp_in x 8 := by rw [hx]; exact vp_in_nI hj (by decide)
theorem sgf_at {j : Nat} {x : Int32} (hx : x = nI j) (hj : j < 8) : sgf x.toNatClampNeg = some (8 + j) := by
  rw [hx, nI_clamp (by omega)]; exact if_pos hj
theorem Ac_segG {j : Nat} (hj : j < 8) (hg : sg j = gI (O, Ad, St, Fi, He, Al, fl)) : vm_g (Ac fp le lp lb il tf tz bf rf fr mp sc ifp ib ie pw dh rl rb re sy sb rc sg ex) (8 + j) = some (pSeg O Ad St Fi He Al fl) := by
  rw [Ac_seg hj, hg]; rfl
theorem Ac_segUG {j : Nat} (hj : j < 8) : vm_g (Ac fp le lp lb il tf tz bf rf fr mp sc ifp ib ie pw dh rl rb re sy sb rc (updG sg j (gI (O, Ad, St, Fi, He, Al, fl))) ex) (8 + j) = some (pSeg O Ad St Fi He Al fl) := by
  rw [Ac_segU hj]; rfl
theorem c_J_minN {a m : Nat} (ha : a ≤ m) (hm : m < 2 ^ 31) {x y : Int32} (hx : x = nI a) (hy : y = nI m) : Ct m_J_min 0 0 [.int x, .int y] cs (vm_is (some (.int (nI a))) cs) := by
  subst hx; subst hy
  have h := c_J_min (cs := cs) (nI a) (nI m)
  rw [show f_J_min (nI a) (nI m) = nI a from by unfold f_J_min; rw [if_neg (fun w => absurd ((nI_ltI hm (by omega)).mp w) (by omega))]] at h
  exact h
theorem c_T_hasN {a m : Nat} (hz : z ≤ 900) (ha : a < 2 ^ 40) (hm : m < 2 ^ 40) {x y : Int64} (hx : x = lN a) (hy : y = lN m) : Ct m_T_has 0 0 [.ref 1, .long x, .long y] (Ac fp le lp lb il tf (nI z) bf rf fr mp sc ifp ib ie pw dh rl rb re sy sb rc sg ex) (vm_is (some (.int (if a + m ≤ z then 1 else 0))) (Ac fp le lp lb il tf (nI z) bf rf fr mp sc ifp ib ie pw dh rl rb re sy sb rc sg ex)) := by
  subst hx; subst hy
  have h := c_T_has (fp := fp) (le := le) (lp := lp) (lb := lb) (il := il) (tf := tf) (bf := bf) (rf := rf) (fr := fr) (mp := mp) (sc := sc) (ifp := ifp) (ib := ib) (ie := ie) (pw := pw) (dh := dh) (rl := rl) (rb := rb) (re := re) (sy := sy) (sb := sb) (rc := rc) (sg := sg) (ex := ex) hz (a := lN a) (b := lN m) (by rw [pk_lT (by omega)]; omega) (by rw [pk_lT (by omega)]; omega) (by rw [pk_lT (by omega)]; omega) (by rw [pk_lT (by omega)]; omega)
  rw [pk_lT (by omega), pk_lT (by omega)] at h
  have e : (if 0 ≤ (a : Int) ∧ 0 ≤ (m : Int) ∧ (a : Int) + (m : Int) ≤ (z : Int) then (1 : Int32) else 0) = if a + m ≤ z then 1 else 0 := ite_congr (propext ⟨fun w => by omega, fun w => by omega⟩) (fun _ => rfl) (fun _ => rfl)
  rw [e] at h
  exact h
theorem c_S_takeG {j p B : Nat} (hj : j < 8) (ht : ∀ k, t k < 256) (hz : z ≤ 900) {x y : Int32} (hx : x = nI p) (hy : y = nI B) (hp : p < 2 ^ 29) (hB : B < 2 ^ 30) (hg : gT t z p B = (O, Ad, St, Fi, He, Al, fl)) : Ct m_S_take 0 0 [.ref (8 + j), .ref 1, .int x, .int y] (Ac fp le lp lb il (sbf t) (nI z) bf rf fr mp sc ifp ib ie pw dh rl rb re sy sb rc sg ex) (vm_is none (Ac fp le lp lb il (sbf t) (nI z) bf rf fr mp sc ifp ib ie pw dh rl rb re sy sb rc (updG sg j (gI (O, Ad, St, Fi, He, Al, fl))) ex)) := by
  have h := c_S_take (fp := fp) (le := le) (lp := lp) (lb := lb) (il := il) (bf := bf) (rf := rf) (fr := fr) (mp := mp) (sc := sc) (ifp := ifp) (ib := ib) (ie := ie) (pw := pw) (dh := dh) (rl := rl) (rb := rb) (re := re) (sy := sy) (sb := sb) (rc := rc) (sg := sg) (ex := ex) hj ht hz hx hy hp hB
  rw [show gN t z p B = gI (gT t z p B) from rfl, hg] at h
  exact h
set_option maxRecDepth 100000 in
set_option maxHeartbeats 4000000 in
theorem c_I_fault {x y : Int32} : Ct m_I_fault 0 0 [.ref 6, .int x, .int y] (Ac fp le lp lb il tf tz bf rf fr mp sc ifp ib ie pw dh rl rb re sy sb rc sg ex) (vm_is (some (.int x)) (Ac fp le lp lb il tf tz bf rf fr mp sc y ib ie pw dh rl rb re sy sb rc sg ex)) := by
  refine Ct.of ⟨by decide +kernel, rfl⟩ (Nat.le_of_ble_eq_true rfl) (lv := [some (.ref 6), some (.int x), some (.int y)]) rfl ?_
  refine Run.blk (gs := [True, True, True, True]) (S' := ([some (.ref 6), some (.int x), some (.int y)], [.int x], Ac fp le lp lb il tf tz bf rf fr mp sc y ib ie pw dh rl rb re sy sb rc sg ex)) k_I_fault_0 kc_I_fault_0 rfl ⟨trivial, trivial, trivial, trivial, trivial⟩ ?_
  exact Run.ret (r := some (.int x)) ⟨d_I_fault_6, _, rfl, rfl⟩ ⟨rfl, rfl⟩
set_option maxRecDepth 100000 in
set_option maxHeartbeats 4000000 in
theorem c_I_faultPlace  : Ct m_I_faultPlace 0 0 [.ref 6] (Ac fp le lp lb il tf tz bf rf fr mp sc ifp ib ie pw dh rl rb re sy sb rc sg ex) (vm_is (some (.int ifp)) (Ac fp le lp lb il tf tz bf rf fr mp sc ifp ib ie pw dh rl rb re sy sb rc sg ex)) := by
  refine Ct.of ⟨by decide +kernel, rfl⟩ (Nat.le_of_ble_eq_true rfl) (lv := [some (.ref 6)]) rfl ?_
  refine Run.blk (gs := [True, True]) (S' := ([some (.ref 6)], [.int ifp], Ac fp le lp lb il tf tz bf rf fr mp sc ifp ib ie pw dh rl rb re sy sb rc sg ex)) k_I_faultPlace_0 kc_I_faultPlace_0 rfl ⟨trivial, trivial, trivial⟩ ?_
  exact Run.ret (r := some (.int ifp)) ⟨d_I_faultPlace_4, _, rfl, rfl⟩ ⟨rfl, rfl⟩
set_option maxRecDepth 100000 in
set_option maxHeartbeats 4000000 in
theorem c_I_base  : Ct m_I_base 0 0 [.ref 6] (Ac fp le lp lb il tf tz bf rf fr mp sc ifp ib ie pw dh rl rb re sy sb rc sg ex) (vm_is (some (.int ib)) (Ac fp le lp lb il tf tz bf rf fr mp sc ifp ib ie pw dh rl rb re sy sb rc sg ex)) := by
  refine Ct.of ⟨by decide +kernel, rfl⟩ (Nat.le_of_ble_eq_true rfl) (lv := [some (.ref 6)]) rfl ?_
  refine Run.blk (gs := [True, True]) (S' := ([some (.ref 6)], [.int ib], Ac fp le lp lb il tf tz bf rf fr mp sc ifp ib ie pw dh rl rb re sy sb rc sg ex)) k_I_base_0 kc_I_base_0 rfl ⟨trivial, trivial, trivial⟩ ?_
  exact Run.ret (r := some (.int ib)) ⟨d_I_base_4, _, rfl, rfl⟩ ⟨rfl, rfl⟩
set_option maxRecDepth 100000 in
set_option maxHeartbeats 4000000 in
theorem c_I_entry  : Ct m_I_entry 0 0 [.ref 6] (Ac fp le lp lb il tf tz bf rf fr mp sc ifp ib ie pw dh rl rb re sy sb rc sg ex) (vm_is (some (.int ie)) (Ac fp le lp lb il tf tz bf rf fr mp sc ifp ib ie pw dh rl rb re sy sb rc sg ex)) := by
  refine Ct.of ⟨by decide +kernel, rfl⟩ (Nat.le_of_ble_eq_true rfl) (lv := [some (.ref 6)]) rfl ?_
  refine Run.blk (gs := [True, True]) (S' := ([some (.ref 6)], [.int ie], Ac fp le lp lb il tf tz bf rf fr mp sc ifp ib ie pw dh rl rb re sy sb rc sg ex)) k_I_entry_0 kc_I_entry_0 rfl ⟨trivial, trivial, trivial⟩ ?_
  exact Run.ret (r := some (.int ie)) ⟨d_I_entry_4, _, rfl, rfl⟩ ⟨rfl, rfl⟩
set_option maxRecDepth 100000 in
set_option maxHeartbeats 4000000 in
theorem c_I_pagesWanted  : Ct m_I_pagesWanted 0 0 [.ref 6] (Ac fp le lp lb il tf tz bf rf fr mp sc ifp ib ie pw dh rl rb re sy sb rc sg ex) (vm_is (some (.int pw)) (Ac fp le lp lb il tf tz bf rf fr mp sc ifp ib ie pw dh rl rb re sy sb rc sg ex)) := by
  refine Ct.of ⟨by decide +kernel, rfl⟩ (Nat.le_of_ble_eq_true rfl) (lv := [some (.ref 6)]) rfl ?_
  refine Run.blk (gs := [True, True]) (S' := ([some (.ref 6)], [.int pw], Ac fp le lp lb il tf tz bf rf fr mp sc ifp ib ie pw dh rl rb re sy sb rc sg ex)) k_I_pagesWanted_0 kc_I_pagesWanted_0 rfl ⟨trivial, trivial, trivial⟩ ?_
  exact Run.ret (r := some (.int pw)) ⟨d_I_pagesWanted_4, _, rfl, rfl⟩ ⟨rfl, rfl⟩
set_option maxRecDepth 100000 in
set_option maxHeartbeats 4000000 in
theorem c_I_relocationCount  : Ct m_I_relocationCount 0 0 [.ref 6] (Ac fp le lp lb il tf tz bf rf fr mp sc ifp ib ie pw dh rl rb re sy sb rc sg ex) (vm_is (some (.int rc)) (Ac fp le lp lb il tf tz bf rf fr mp sc ifp ib ie pw dh rl rb re sy sb rc sg ex)) := by
  refine Ct.of ⟨by decide +kernel, rfl⟩ (Nat.le_of_ble_eq_true rfl) (lv := [some (.ref 6)]) rfl ?_
  refine Run.blk (gs := [True, True]) (S' := ([some (.ref 6)], [.int rc], Ac fp le lp lb il tf tz bf rf fr mp sc ifp ib ie pw dh rl rb re sy sb rc sg ex)) k_I_relocationCount_0 kc_I_relocationCount_0 rfl ⟨trivial, trivial, trivial⟩ ?_
  exact Run.ret (r := some (.int rc)) ⟨d_I_relocationCount_4, _, rfl, rfl⟩ ⟨rfl, rfl⟩
theorem tb_in {p : Nat} (h : p < z) : tb t z p = t p := if_pos h
set_option maxRecDepth 100000 in
set_option maxHeartbeats 4000000 in
theorem l_I_headerFault (ht : ∀ j, t j < 256) (hz : z ≤ 900) (h52 : 52 ≤ z) : ∀ (k i : Nat) (v : Int32), v = nI i → i + k = 7 → Run m_I_headerFault n 0 0 21 ([some (.ref 6), some (.ref 1), some (.int v), none], [], Ac fp le lp lb il (sbf t) (nI z) bf rf fr mp sc (-1 : Int32) ib ie pw dh rl rb re sy sb rc sg ex) (vm_is (some (.int (hdL t z k i).1)) (Ac fp le lp lb il (sbf t) (nI z) bf rf fr mp sc ((hdL t z k i).2) ib ie pw dh rl rb re sy sb rc sg ex))
  | 0, i, v, hv, h => by
    have hik : i = 7 := by omega
    have hw28 : wN t z 28 < 2 ^ 40 := Nat.lt_of_lt_of_le (wN_lt ht z _) (by decide)
    refine Run.blk (gs := [True, True, True]) (S' := ([some (.ref 6), some (.ref 1), some (.int v), none], [.int (7 : Int32), .int v], Ac fp le lp lb il (sbf t) (nI z) bf rf fr mp sc (-1 : Int32) ib ie pw dh rl rb re sy sb rc sg ex)) k_I_headerFault_21 kc_I_headerFault_21 rfl ⟨trivial, trivial, trivial, trivial⟩ ?_
    refine Run.br (tgt := 55) d_I_headerFault_26 rfl (by decide) (fun c_1 => ?_) (fun c_1 => ?_)
    · refine Run.blk (gs := [True, True]) (S' := ([some (.ref 6), some (.ref 1), some (.int v), none], [.int (16 : Int32), .ref 1], Ac fp le lp lb il (sbf t) (nI z) bf rf fr mp sc (-1 : Int32) ib ie pw dh rl rb re sy sb rc sg ex)) k_I_headerFault_55 kc_I_headerFault_55 rfl ⟨trivial, trivial, trivial⟩ ?_
      refine Run.callV (b := 1) (As := [.int (16 : Int32)]) (rest := []) v_I_headerFault_58 (c_T_half ht hz (p := 16) rfl (by decide)) rfl (Nat.le_of_ble_eq_true rfl) rfl rfl rfl rfl (fun r cs' hp => ?_)
      obtain ⟨rfl, rfl⟩ := hp
      show Run _ _ _ _ 61 ([some (.ref 6), some (.ref 1), some (.int v), none], [.int (nI (hN t z 16))], Ac fp le lp lb il (sbf t) (nI z) bf rf fr mp sc (-1 : Int32) ib ie pw dh rl rb re sy sb rc sg ex) _
      refine Run.blk (gs := [True, True, True]) (S' := ([some (.ref 6), some (.ref 1), some (.int (nI (hN t z 16))), none], [.int (2 : Int32), .int (nI (hN t z 16))], Ac fp le lp lb il (sbf t) (nI z) bf rf fr mp sc (-1 : Int32) ib ie pw dh rl rb re sy sb rc sg ex)) k_I_headerFault_61 kc_I_headerFault_61 rfl ⟨trivial, trivial, trivial, trivial⟩ ?_
      refine Run.br (tgt := 80) d_I_headerFault_64 rfl (by decide) (fun c_2 => ?_) (fun c_2 => ?_)
      · have c_2 := (nI_eq (a := (hN t z 16)) (b := 2) (Nat.lt_of_lt_of_le (hN_lt ht z _) (by decide)) (by decide)).mp c_2
        refine Run.blk (gs := [True, True]) (S' := ([some (.ref 6), some (.ref 1), some (.int (nI (hN t z 16))), none], [.int (18 : Int32), .ref 1], Ac fp le lp lb il (sbf t) (nI z) bf rf fr mp sc (-1 : Int32) ib ie pw dh rl rb re sy sb rc sg ex)) k_I_headerFault_80 kc_I_headerFault_80 rfl ⟨trivial, trivial, trivial⟩ ?_
        refine Run.callV (b := 1) (As := [.int (18 : Int32)]) (rest := []) v_I_headerFault_83 (c_T_half ht hz (p := 18) rfl (by decide)) rfl (Nat.le_of_ble_eq_true rfl) rfl rfl rfl rfl (fun r cs' hp => ?_)
        obtain ⟨rfl, rfl⟩ := hp
        show Run _ _ _ _ 86 ([some (.ref 6), some (.ref 1), some (.int (nI (hN t z 16))), none], [.int (nI (hN t z 18))], Ac fp le lp lb il (sbf t) (nI z) bf rf fr mp sc (-1 : Int32) ib ie pw dh rl rb re sy sb rc sg ex) _
        refine Run.blk (gs := [True]) (S' := ([some (.ref 6), some (.ref 1), some (.int (nI (hN t z 16))), none], [.int (243 : Int32), .int (nI (hN t z 18))], Ac fp le lp lb il (sbf t) (nI z) bf rf fr mp sc (-1 : Int32) ib ie pw dh rl rb re sy sb rc sg ex)) k_I_headerFault_86 kc_I_headerFault_86 rfl ⟨trivial, trivial⟩ ?_
        refine Run.br (tgt := 100) d_I_headerFault_89 rfl (by decide) (fun c_3 => ?_) (fun c_3 => ?_)
        · have c_3 := (nI_eq (a := (hN t z 18)) (b := 243) (Nat.lt_of_lt_of_le (hN_lt ht z _) (by decide)) (by decide)).mp c_3
          refine Run.blk (gs := [True, True]) (S' := ([some (.ref 6), some (.ref 1), some (.int (nI (hN t z 16))), none], [.int (20 : Int32), .ref 1], Ac fp le lp lb il (sbf t) (nI z) bf rf fr mp sc (-1 : Int32) ib ie pw dh rl rb re sy sb rc sg ex)) k_I_headerFault_100 kc_I_headerFault_100 rfl ⟨trivial, trivial, trivial⟩ ?_
          refine Run.callV (b := 1) (As := [.int (20 : Int32)]) (rest := []) v_I_headerFault_103 (c_T_word ht hz (p := 20) rfl (by decide)) rfl (Nat.le_of_ble_eq_true rfl) rfl rfl rfl rfl (fun r cs' hp => ?_)
          obtain ⟨rfl, rfl⟩ := hp
          show Run _ _ _ _ 106 ([some (.ref 6), some (.ref 1), some (.int (nI (hN t z 16))), none], [.long (lN (wN t z 20))], Ac fp le lp lb il (sbf t) (nI z) bf rf fr mp sc (-1 : Int32) ib ie pw dh rl rb re sy sb rc sg ex) _
          refine Run.blk (gs := [True]) (S' := ([some (.ref 6), some (.ref 1), some (.int (nI (hN t z 16))), none], [.long (1 : Int64), .long (lN (wN t z 20))], Ac fp le lp lb il (sbf t) (nI z) bf rf fr mp sc (-1 : Int32) ib ie pw dh rl rb re sy sb rc sg ex)) k_I_headerFault_106 kc_I_headerFault_106 rfl ⟨trivial, trivial⟩ ?_
          refine Run.brl (tgt := 119) dl_I_headerFault_107 d_I_headerFault_107 rfl (by decide) (fun c_4 => ?_) (fun c_4 => ?_)
          · have c_4 := (pk_lEQ (a := (wN t z 20)) (b := 1) (Nat.lt_of_lt_of_le (wN_lt ht z _) (by decide)) (by decide)).mp c_4
            refine Run.blk (gs := [True, True]) (S' := ([some (.ref 6), some (.ref 1), some (.int (nI (hN t z 16))), none], [.int (40 : Int32), .ref 1], Ac fp le lp lb il (sbf t) (nI z) bf rf fr mp sc (-1 : Int32) ib ie pw dh rl rb re sy sb rc sg ex)) k_I_headerFault_119 kc_I_headerFault_119 rfl ⟨trivial, trivial, trivial⟩ ?_
            refine Run.callV (b := 1) (As := [.int (40 : Int32)]) (rest := []) v_I_headerFault_122 (c_T_half ht hz (p := 40) rfl (by decide)) rfl (Nat.le_of_ble_eq_true rfl) rfl rfl rfl rfl (fun r cs' hp => ?_)
            obtain ⟨rfl, rfl⟩ := hp
            show Run _ _ _ _ 125 ([some (.ref 6), some (.ref 1), some (.int (nI (hN t z 16))), none], [.int (nI (hN t z 40))], Ac fp le lp lb il (sbf t) (nI z) bf rf fr mp sc (-1 : Int32) ib ie pw dh rl rb re sy sb rc sg ex) _
            refine Run.blk (gs := [True]) (S' := ([some (.ref 6), some (.ref 1), some (.int (nI (hN t z 16))), none], [.int (52 : Int32), .int (nI (hN t z 40))], Ac fp le lp lb il (sbf t) (nI z) bf rf fr mp sc (-1 : Int32) ib ie pw dh rl rb re sy sb rc sg ex)) k_I_headerFault_125 kc_I_headerFault_125 rfl ⟨trivial, trivial⟩ ?_
            refine Run.br (tgt := 139) d_I_headerFault_127 rfl (by decide) (fun c_5 => ?_) (fun c_5 => ?_)
            · have c_5 := (nI_eq (a := (hN t z 40)) (b := 52) (Nat.lt_of_lt_of_le (hN_lt ht z _) (by decide)) (by decide)).mp c_5
              refine Run.blk (gs := [True, True]) (S' := ([some (.ref 6), some (.ref 1), some (.int (nI (hN t z 16))), none], [.int (42 : Int32), .ref 1], Ac fp le lp lb il (sbf t) (nI z) bf rf fr mp sc (-1 : Int32) ib ie pw dh rl rb re sy sb rc sg ex)) k_I_headerFault_139 kc_I_headerFault_139 rfl ⟨trivial, trivial, trivial⟩ ?_
              refine Run.callV (b := 1) (As := [.int (42 : Int32)]) (rest := []) v_I_headerFault_142 (c_T_half ht hz (p := 42) rfl (by decide)) rfl (Nat.le_of_ble_eq_true rfl) rfl rfl rfl rfl (fun r cs' hp => ?_)
              obtain ⟨rfl, rfl⟩ := hp
              show Run _ _ _ _ 145 ([some (.ref 6), some (.ref 1), some (.int (nI (hN t z 16))), none], [.int (nI (hN t z 42))], Ac fp le lp lb il (sbf t) (nI z) bf rf fr mp sc (-1 : Int32) ib ie pw dh rl rb re sy sb rc sg ex) _
              refine Run.blk (gs := [True]) (S' := ([some (.ref 6), some (.ref 1), some (.int (nI (hN t z 16))), none], [.int (32 : Int32), .int (nI (hN t z 42))], Ac fp le lp lb il (sbf t) (nI z) bf rf fr mp sc (-1 : Int32) ib ie pw dh rl rb re sy sb rc sg ex)) k_I_headerFault_145 kc_I_headerFault_145 rfl ⟨trivial, trivial⟩ ?_
              refine Run.br (tgt := 159) d_I_headerFault_147 rfl (by decide) (fun c_6 => ?_) (fun c_6 => ?_)
              · have c_6 := (nI_eq (a := (hN t z 42)) (b := 32) (Nat.lt_of_lt_of_le (hN_lt ht z _) (by decide)) (by decide)).mp c_6
                refine Run.blk (gs := [True, True]) (S' := ([some (.ref 6), some (.ref 1), some (.int (nI (hN t z 16))), none], [.int (44 : Int32), .ref 1], Ac fp le lp lb il (sbf t) (nI z) bf rf fr mp sc (-1 : Int32) ib ie pw dh rl rb re sy sb rc sg ex)) k_I_headerFault_159 kc_I_headerFault_159 rfl ⟨trivial, trivial, trivial⟩ ?_
                refine Run.callV (b := 1) (As := [.int (44 : Int32)]) (rest := []) v_I_headerFault_162 (c_T_half ht hz (p := 44) rfl (by decide)) rfl (Nat.le_of_ble_eq_true rfl) rfl rfl rfl rfl (fun r cs' hp => ?_)
                obtain ⟨rfl, rfl⟩ := hp
                show Run _ _ _ _ 165 ([some (.ref 6), some (.ref 1), some (.int (nI (hN t z 16))), none], [.int (nI (hN t z 44))], Ac fp le lp lb il (sbf t) (nI z) bf rf fr mp sc (-1 : Int32) ib ie pw dh rl rb re sy sb rc sg ex) _
                refine Run.blk (gs := [True, True, True]) (S' := ([some (.ref 6), some (.ref 1), some (.int (nI (hN t z 16))), some (.int (nI (hN t z 44)))], [.int (1 : Int32), .int (nI (hN t z 44))], Ac fp le lp lb il (sbf t) (nI z) bf rf fr mp sc (-1 : Int32) ib ie pw dh rl rb re sy sb rc sg ex)) k_I_headerFault_165 kc_I_headerFault_165 rfl ⟨trivial, trivial, trivial, trivial⟩ ?_
                refine Run.br (tgt := 177) d_I_headerFault_168 rfl (by decide) (fun c_7 => ?_) (fun c_7 => ?_)
                · have c_7 := (nI_ltI (a := (hN t z 44)) (b := 1) (Nat.lt_of_lt_of_le (hN_lt ht z _) (by decide)) (by decide)).mp c_7
                  refine Run.blk (gs := [True, True, True]) (S' := ([some (.ref 6), some (.ref 1), some (.int (nI (hN t z 16))), some (.int (nI (hN t z 44)))], [.int (44 : Int32), .int (7 : Int32), .ref 6], Ac fp le lp lb il (sbf t) (nI z) bf rf fr mp sc (-1 : Int32) ib ie pw dh rl rb re sy sb rc sg ex)) k_I_headerFault_177 kc_I_headerFault_177 rfl ⟨trivial, trivial, trivial, trivial⟩ ?_
                  refine Run.callV (b := 6) (As := [.int (7 : Int32), .int (44 : Int32)]) (rest := []) v_I_headerFault_182 c_I_fault rfl (Nat.le_of_ble_eq_true rfl) rfl rfl rfl rfl (fun r cs' hp => ?_)
                  obtain ⟨rfl, rfl⟩ := hp
                  show Run _ _ _ _ 185 ([some (.ref 6), some (.ref 1), some (.int (nI (hN t z 16))), some (.int (nI (hN t z 44)))], [.int (7 : Int32)], Ac fp le lp lb il (sbf t) (nI z) bf rf fr mp sc (44 : Int32) ib ie pw dh rl rb re sy sb rc sg ex) _
                  rw [show hdL t z 0 i = ((7 : Int32), (44 : Int32)) by show hdR t z = _; unfold hdR; rw [if_pos (by omega), if_pos (by omega), if_pos (by omega), if_pos (by omega), if_pos (by omega), if_neg (by omega)]]
                  exact Run.ret (r := some (.int (7 : Int32))) ⟨d_I_headerFault_185, _, rfl, rfl⟩ ⟨rfl, rfl⟩
                · have c_7 : ¬ ((hN t z 44) < 1) := fun q => c_7 ((nI_ltI (a := (hN t z 44)) (b := 1) (Nat.lt_of_lt_of_le (hN_lt ht z _) (by decide)) (by decide)).mpr q)
                  refine Run.blk (gs := [True, True]) (S' := ([some (.ref 6), some (.ref 1), some (.int (nI (hN t z 16))), some (.int (nI (hN t z 44)))], [.int (8 : Int32), .int (nI (hN t z 44))], Ac fp le lp lb il (sbf t) (nI z) bf rf fr mp sc (-1 : Int32) ib ie pw dh rl rb re sy sb rc sg ex)) k_I_headerFault_171 kc_I_headerFault_171 rfl ⟨trivial, trivial, trivial⟩ ?_
                  refine Run.br (tgt := 186) d_I_headerFault_174 rfl (by decide) (fun c_8 => ?_) (fun c_8 => ?_)
                  · have c_8 := (nI_leI (a := (hN t z 44)) (b := 8) (Nat.lt_of_lt_of_le (hN_lt ht z _) (by decide)) (by decide)).mp c_8
                    refine Run.blk (gs := [True, True, True]) (S' := ([some (.ref 6), some (.ref 1), some (.int (nI (hN t z 16))), some (.int (nI (hN t z 44)))], [.int (28 : Int32), .ref 1, .ref 1], Ac fp le lp lb il (sbf t) (nI z) bf rf fr mp sc (-1 : Int32) ib ie pw dh rl rb re sy sb rc sg ex)) k_I_headerFault_186 kc_I_headerFault_186 rfl ⟨trivial, trivial, trivial, trivial⟩ ?_
                    refine Run.callV (b := 1) (As := [.int (28 : Int32)]) (rest := [.ref 1]) v_I_headerFault_190 (c_T_word ht hz (p := 28) rfl (by decide)) rfl (Nat.le_of_ble_eq_true rfl) rfl rfl rfl rfl (fun r cs' hp => ?_)
                    obtain ⟨rfl, rfl⟩ := hp
                    show Run _ _ _ _ 193 ([some (.ref 6), some (.ref 1), some (.int (nI (hN t z 16))), some (.int (nI (hN t z 44)))], [.long (lN (wN t z 28)), .ref 1], Ac fp le lp lb il (sbf t) (nI z) bf rf fr mp sc (-1 : Int32) ib ie pw dh rl rb re sy sb rc sg ex) _
                    refine Run.blk (gs := [True, True, True, True]) (S' := ([some (.ref 6), some (.ref 1), some (.int (nI (hN t z 16))), some (.int (nI (hN t z 44)))], [.long (((32 : Int32) * (nI (hN t z 44))).toInt64), .long (lN (wN t z 28)), .ref 1], Ac fp le lp lb il (sbf t) (nI z) bf rf fr mp sc (-1 : Int32) ib ie pw dh rl rb re sy sb rc sg ex)) k_I_headerFault_193 kc_I_headerFault_193 rfl ⟨trivial, trivial, trivial, trivial, trivial⟩ ?_
                    refine Run.callV (b := 1) (As := [.long (lN (wN t z 28)), .long (((32 : Int32) * (nI (hN t z 44))).toInt64)]) (rest := []) v_I_headerFault_198 (c_T_hasN hz (a := wN t z 28) (m := 32 * hN t z 44) hw28 (by omega) rfl (by rw [show (32 : Int32) = nI 32 from rfl, pk_mul, nI_l (by omega)])) rfl (Nat.le_of_ble_eq_true rfl) rfl rfl rfl rfl (fun r cs' hp => ?_)
                    obtain ⟨rfl, rfl⟩ := hp
                    show Run _ _ _ _ 201 ([some (.ref 6), some (.ref 1), some (.int (nI (hN t z 16))), some (.int (nI (hN t z 44)))], [.int (if wN t z 28 + 32 * hN t z 44 ≤ z then 1 else 0)], Ac fp le lp lb il (sbf t) (nI z) bf rf fr mp sc (-1 : Int32) ib ie pw dh rl rb re sy sb rc sg ex) _
                    refine Run.br (tgt := 208) d_I_headerFault_201 rfl (by decide) (fun c_9 => ?_) (fun c_9 => ?_)
                    · have c_9 := zi_f c_9
                      refine Run.blk (gs := [True, True, True]) (S' := ([some (.ref 6), some (.ref 1), some (.int (nI (hN t z 16))), some (.int (nI (hN t z 44)))], [.int (28 : Int32), .int (8 : Int32), .ref 6], Ac fp le lp lb il (sbf t) (nI z) bf rf fr mp sc (-1 : Int32) ib ie pw dh rl rb re sy sb rc sg ex)) k_I_headerFault_208 kc_I_headerFault_208 rfl ⟨trivial, trivial, trivial, trivial⟩ ?_
                      refine Run.callV (b := 6) (As := [.int (8 : Int32), .int (28 : Int32)]) (rest := []) v_I_headerFault_213 c_I_fault rfl (Nat.le_of_ble_eq_true rfl) rfl rfl rfl rfl (fun r cs' hp => ?_)
                      obtain ⟨rfl, rfl⟩ := hp
                      show Run _ _ _ _ 216 ([some (.ref 6), some (.ref 1), some (.int (nI (hN t z 16))), some (.int (nI (hN t z 44)))], [.int (8 : Int32)], Ac fp le lp lb il (sbf t) (nI z) bf rf fr mp sc (28 : Int32) ib ie pw dh rl rb re sy sb rc sg ex) _
                      rw [show hdL t z 0 i = ((8 : Int32), (28 : Int32)) by show hdR t z = _; unfold hdR; rw [if_pos (by omega), if_pos (by omega), if_pos (by omega), if_pos (by omega), if_pos (by omega), if_pos (by omega), if_neg (by omega)]]
                      exact Run.ret (r := some (.int (8 : Int32))) ⟨d_I_headerFault_216, _, rfl, rfl⟩ ⟨rfl, rfl⟩
                    · have c_9 := zi_t c_9
                      refine Run.blk (gs := [True]) (S' := ([some (.ref 6), some (.ref 1), some (.int (nI (hN t z 16))), some (.int (nI (hN t z 44)))], [.int (0 : Int32)], Ac fp le lp lb il (sbf t) (nI z) bf rf fr mp sc (-1 : Int32) ib ie pw dh rl rb re sy sb rc sg ex)) k_I_headerFault_204 kc_I_headerFault_204 rfl ⟨trivial, trivial⟩ ?_
                      refine Run.goto (tgt := 216) d_I_headerFault_205 (by decide) ?_
                      rw [show hdL t z 0 i = ((0 : Int32), (-1 : Int32)) by show hdR t z = _; unfold hdR; rw [if_pos (by omega), if_pos (by omega), if_pos (by omega), if_pos (by omega), if_pos (by omega), if_pos (by omega), if_pos (by omega)]]
                      exact Run.ret (r := some (.int (0 : Int32))) ⟨d_I_headerFault_216, _, rfl, rfl⟩ ⟨rfl, rfl⟩
                  · have c_8 : ¬ ((hN t z 44) ≤ 8) := fun q => c_8 ((nI_leI (a := (hN t z 44)) (b := 8) (Nat.lt_of_lt_of_le (hN_lt ht z _) (by decide)) (by decide)).mpr q)
                    refine Run.blk (gs := [True, True, True]) (S' := ([some (.ref 6), some (.ref 1), some (.int (nI (hN t z 16))), some (.int (nI (hN t z 44)))], [.int (44 : Int32), .int (7 : Int32), .ref 6], Ac fp le lp lb il (sbf t) (nI z) bf rf fr mp sc (-1 : Int32) ib ie pw dh rl rb re sy sb rc sg ex)) k_I_headerFault_177 kc_I_headerFault_177 rfl ⟨trivial, trivial, trivial, trivial⟩ ?_
                    refine Run.callV (b := 6) (As := [.int (7 : Int32), .int (44 : Int32)]) (rest := []) v_I_headerFault_182 c_I_fault rfl (Nat.le_of_ble_eq_true rfl) rfl rfl rfl rfl (fun r cs' hp => ?_)
                    obtain ⟨rfl, rfl⟩ := hp
                    show Run _ _ _ _ 185 ([some (.ref 6), some (.ref 1), some (.int (nI (hN t z 16))), some (.int (nI (hN t z 44)))], [.int (7 : Int32)], Ac fp le lp lb il (sbf t) (nI z) bf rf fr mp sc (44 : Int32) ib ie pw dh rl rb re sy sb rc sg ex) _
                    rw [show hdL t z 0 i = ((7 : Int32), (44 : Int32)) by show hdR t z = _; unfold hdR; rw [if_pos (by omega), if_pos (by omega), if_pos (by omega), if_pos (by omega), if_pos (by omega), if_neg (by omega)]]
                    exact Run.ret (r := some (.int (7 : Int32))) ⟨d_I_headerFault_185, _, rfl, rfl⟩ ⟨rfl, rfl⟩
              · have c_6 : ¬ ((hN t z 42) = 32) := fun q => c_6 ((nI_eq (a := (hN t z 42)) (b := 32) (Nat.lt_of_lt_of_le (hN_lt ht z _) (by decide)) (by decide)).mpr q)
                refine Run.blk (gs := [True, True, True]) (S' := ([some (.ref 6), some (.ref 1), some (.int (nI (hN t z 16))), none], [.int (42 : Int32), .int (6 : Int32), .ref 6], Ac fp le lp lb il (sbf t) (nI z) bf rf fr mp sc (-1 : Int32) ib ie pw dh rl rb re sy sb rc sg ex)) k_I_headerFault_150 kc_I_headerFault_150 rfl ⟨trivial, trivial, trivial, trivial⟩ ?_
                refine Run.callV (b := 6) (As := [.int (6 : Int32), .int (42 : Int32)]) (rest := []) v_I_headerFault_155 c_I_fault rfl (Nat.le_of_ble_eq_true rfl) rfl rfl rfl rfl (fun r cs' hp => ?_)
                obtain ⟨rfl, rfl⟩ := hp
                show Run _ _ _ _ 158 ([some (.ref 6), some (.ref 1), some (.int (nI (hN t z 16))), none], [.int (6 : Int32)], Ac fp le lp lb il (sbf t) (nI z) bf rf fr mp sc (42 : Int32) ib ie pw dh rl rb re sy sb rc sg ex) _
                rw [show hdL t z 0 i = ((6 : Int32), (42 : Int32)) by show hdR t z = _; unfold hdR; rw [if_pos (by omega), if_pos (by omega), if_pos (by omega), if_pos (by omega), if_neg (by omega)]]
                exact Run.ret (r := some (.int (6 : Int32))) ⟨d_I_headerFault_158, _, rfl, rfl⟩ ⟨rfl, rfl⟩
            · have c_5 : ¬ ((hN t z 40) = 52) := fun q => c_5 ((nI_eq (a := (hN t z 40)) (b := 52) (Nat.lt_of_lt_of_le (hN_lt ht z _) (by decide)) (by decide)).mpr q)
              refine Run.blk (gs := [True, True, True]) (S' := ([some (.ref 6), some (.ref 1), some (.int (nI (hN t z 16))), none], [.int (40 : Int32), .int (6 : Int32), .ref 6], Ac fp le lp lb il (sbf t) (nI z) bf rf fr mp sc (-1 : Int32) ib ie pw dh rl rb re sy sb rc sg ex)) k_I_headerFault_130 kc_I_headerFault_130 rfl ⟨trivial, trivial, trivial, trivial⟩ ?_
              refine Run.callV (b := 6) (As := [.int (6 : Int32), .int (40 : Int32)]) (rest := []) v_I_headerFault_135 c_I_fault rfl (Nat.le_of_ble_eq_true rfl) rfl rfl rfl rfl (fun r cs' hp => ?_)
              obtain ⟨rfl, rfl⟩ := hp
              show Run _ _ _ _ 138 ([some (.ref 6), some (.ref 1), some (.int (nI (hN t z 16))), none], [.int (6 : Int32)], Ac fp le lp lb il (sbf t) (nI z) bf rf fr mp sc (40 : Int32) ib ie pw dh rl rb re sy sb rc sg ex) _
              rw [show hdL t z 0 i = ((6 : Int32), (40 : Int32)) by show hdR t z = _; unfold hdR; rw [if_pos (by omega), if_pos (by omega), if_pos (by omega), if_neg (by omega)]]
              exact Run.ret (r := some (.int (6 : Int32))) ⟨d_I_headerFault_138, _, rfl, rfl⟩ ⟨rfl, rfl⟩
          · have c_4 : ¬ ((wN t z 20) = 1) := fun q => c_4 ((pk_lEQ (a := (wN t z 20)) (b := 1) (Nat.lt_of_lt_of_le (wN_lt ht z _) (by decide)) (by decide)).mpr q)
            refine Run.blk (gs := [True, True, True]) (S' := ([some (.ref 6), some (.ref 1), some (.int (nI (hN t z 16))), none], [.int (20 : Int32), .int (5 : Int32), .ref 6], Ac fp le lp lb il (sbf t) (nI z) bf rf fr mp sc (-1 : Int32) ib ie pw dh rl rb re sy sb rc sg ex)) k_I_headerFault_111 kc_I_headerFault_111 rfl ⟨trivial, trivial, trivial, trivial⟩ ?_
            refine Run.callV (b := 6) (As := [.int (5 : Int32), .int (20 : Int32)]) (rest := []) v_I_headerFault_115 c_I_fault rfl (Nat.le_of_ble_eq_true rfl) rfl rfl rfl rfl (fun r cs' hp => ?_)
            obtain ⟨rfl, rfl⟩ := hp
            show Run _ _ _ _ 118 ([some (.ref 6), some (.ref 1), some (.int (nI (hN t z 16))), none], [.int (5 : Int32)], Ac fp le lp lb il (sbf t) (nI z) bf rf fr mp sc (20 : Int32) ib ie pw dh rl rb re sy sb rc sg ex) _
            rw [show hdL t z 0 i = ((5 : Int32), (20 : Int32)) by show hdR t z = _; unfold hdR; rw [if_pos (by omega), if_pos (by omega), if_neg (by omega)]]
            exact Run.ret (r := some (.int (5 : Int32))) ⟨d_I_headerFault_118, _, rfl, rfl⟩ ⟨rfl, rfl⟩
        · have c_3 : ¬ ((hN t z 18) = 243) := fun q => c_3 ((nI_eq (a := (hN t z 18)) (b := 243) (Nat.lt_of_lt_of_le (hN_lt ht z _) (by decide)) (by decide)).mpr q)
          refine Run.blk (gs := [True, True, True]) (S' := ([some (.ref 6), some (.ref 1), some (.int (nI (hN t z 16))), none], [.int (18 : Int32), .int (4 : Int32), .ref 6], Ac fp le lp lb il (sbf t) (nI z) bf rf fr mp sc (-1 : Int32) ib ie pw dh rl rb re sy sb rc sg ex)) k_I_headerFault_92 kc_I_headerFault_92 rfl ⟨trivial, trivial, trivial, trivial⟩ ?_
          refine Run.callV (b := 6) (As := [.int (4 : Int32), .int (18 : Int32)]) (rest := []) v_I_headerFault_96 c_I_fault rfl (Nat.le_of_ble_eq_true rfl) rfl rfl rfl rfl (fun r cs' hp => ?_)
          obtain ⟨rfl, rfl⟩ := hp
          show Run _ _ _ _ 99 ([some (.ref 6), some (.ref 1), some (.int (nI (hN t z 16))), none], [.int (4 : Int32)], Ac fp le lp lb il (sbf t) (nI z) bf rf fr mp sc (18 : Int32) ib ie pw dh rl rb re sy sb rc sg ex) _
          rw [show hdL t z 0 i = ((4 : Int32), (18 : Int32)) by show hdR t z = _; unfold hdR; rw [if_pos (by omega), if_neg (by omega)]]
          exact Run.ret (r := some (.int (4 : Int32))) ⟨d_I_headerFault_99, _, rfl, rfl⟩ ⟨rfl, rfl⟩
      · have c_2 : ¬ ((hN t z 16) = 2) := fun q => c_2 ((nI_eq (a := (hN t z 16)) (b := 2) (Nat.lt_of_lt_of_le (hN_lt ht z _) (by decide)) (by decide)).mpr q)
        refine Run.blk (gs := [True, True]) (S' := ([some (.ref 6), some (.ref 1), some (.int (nI (hN t z 16))), none], [.int (3 : Int32), .int (nI (hN t z 16))], Ac fp le lp lb il (sbf t) (nI z) bf rf fr mp sc (-1 : Int32) ib ie pw dh rl rb re sy sb rc sg ex)) k_I_headerFault_67 kc_I_headerFault_67 rfl ⟨trivial, trivial, trivial⟩ ?_
        refine Run.br (tgt := 80) d_I_headerFault_69 rfl (by decide) (fun c_10 => ?_) (fun c_10 => ?_)
        · have c_10 := (nI_eq (a := (hN t z 16)) (b := 3) (Nat.lt_of_lt_of_le (hN_lt ht z _) (by decide)) (by decide)).mp c_10
          refine Run.blk (gs := [True, True]) (S' := ([some (.ref 6), some (.ref 1), some (.int (nI (hN t z 16))), none], [.int (18 : Int32), .ref 1], Ac fp le lp lb il (sbf t) (nI z) bf rf fr mp sc (-1 : Int32) ib ie pw dh rl rb re sy sb rc sg ex)) k_I_headerFault_80 kc_I_headerFault_80 rfl ⟨trivial, trivial, trivial⟩ ?_
          refine Run.callV (b := 1) (As := [.int (18 : Int32)]) (rest := []) v_I_headerFault_83 (c_T_half ht hz (p := 18) rfl (by decide)) rfl (Nat.le_of_ble_eq_true rfl) rfl rfl rfl rfl (fun r cs' hp => ?_)
          obtain ⟨rfl, rfl⟩ := hp
          show Run _ _ _ _ 86 ([some (.ref 6), some (.ref 1), some (.int (nI (hN t z 16))), none], [.int (nI (hN t z 18))], Ac fp le lp lb il (sbf t) (nI z) bf rf fr mp sc (-1 : Int32) ib ie pw dh rl rb re sy sb rc sg ex) _
          refine Run.blk (gs := [True]) (S' := ([some (.ref 6), some (.ref 1), some (.int (nI (hN t z 16))), none], [.int (243 : Int32), .int (nI (hN t z 18))], Ac fp le lp lb il (sbf t) (nI z) bf rf fr mp sc (-1 : Int32) ib ie pw dh rl rb re sy sb rc sg ex)) k_I_headerFault_86 kc_I_headerFault_86 rfl ⟨trivial, trivial⟩ ?_
          refine Run.br (tgt := 100) d_I_headerFault_89 rfl (by decide) (fun c_11 => ?_) (fun c_11 => ?_)
          · have c_11 := (nI_eq (a := (hN t z 18)) (b := 243) (Nat.lt_of_lt_of_le (hN_lt ht z _) (by decide)) (by decide)).mp c_11
            refine Run.blk (gs := [True, True]) (S' := ([some (.ref 6), some (.ref 1), some (.int (nI (hN t z 16))), none], [.int (20 : Int32), .ref 1], Ac fp le lp lb il (sbf t) (nI z) bf rf fr mp sc (-1 : Int32) ib ie pw dh rl rb re sy sb rc sg ex)) k_I_headerFault_100 kc_I_headerFault_100 rfl ⟨trivial, trivial, trivial⟩ ?_
            refine Run.callV (b := 1) (As := [.int (20 : Int32)]) (rest := []) v_I_headerFault_103 (c_T_word ht hz (p := 20) rfl (by decide)) rfl (Nat.le_of_ble_eq_true rfl) rfl rfl rfl rfl (fun r cs' hp => ?_)
            obtain ⟨rfl, rfl⟩ := hp
            show Run _ _ _ _ 106 ([some (.ref 6), some (.ref 1), some (.int (nI (hN t z 16))), none], [.long (lN (wN t z 20))], Ac fp le lp lb il (sbf t) (nI z) bf rf fr mp sc (-1 : Int32) ib ie pw dh rl rb re sy sb rc sg ex) _
            refine Run.blk (gs := [True]) (S' := ([some (.ref 6), some (.ref 1), some (.int (nI (hN t z 16))), none], [.long (1 : Int64), .long (lN (wN t z 20))], Ac fp le lp lb il (sbf t) (nI z) bf rf fr mp sc (-1 : Int32) ib ie pw dh rl rb re sy sb rc sg ex)) k_I_headerFault_106 kc_I_headerFault_106 rfl ⟨trivial, trivial⟩ ?_
            refine Run.brl (tgt := 119) dl_I_headerFault_107 d_I_headerFault_107 rfl (by decide) (fun c_12 => ?_) (fun c_12 => ?_)
            · have c_12 := (pk_lEQ (a := (wN t z 20)) (b := 1) (Nat.lt_of_lt_of_le (wN_lt ht z _) (by decide)) (by decide)).mp c_12
              refine Run.blk (gs := [True, True]) (S' := ([some (.ref 6), some (.ref 1), some (.int (nI (hN t z 16))), none], [.int (40 : Int32), .ref 1], Ac fp le lp lb il (sbf t) (nI z) bf rf fr mp sc (-1 : Int32) ib ie pw dh rl rb re sy sb rc sg ex)) k_I_headerFault_119 kc_I_headerFault_119 rfl ⟨trivial, trivial, trivial⟩ ?_
              refine Run.callV (b := 1) (As := [.int (40 : Int32)]) (rest := []) v_I_headerFault_122 (c_T_half ht hz (p := 40) rfl (by decide)) rfl (Nat.le_of_ble_eq_true rfl) rfl rfl rfl rfl (fun r cs' hp => ?_)
              obtain ⟨rfl, rfl⟩ := hp
              show Run _ _ _ _ 125 ([some (.ref 6), some (.ref 1), some (.int (nI (hN t z 16))), none], [.int (nI (hN t z 40))], Ac fp le lp lb il (sbf t) (nI z) bf rf fr mp sc (-1 : Int32) ib ie pw dh rl rb re sy sb rc sg ex) _
              refine Run.blk (gs := [True]) (S' := ([some (.ref 6), some (.ref 1), some (.int (nI (hN t z 16))), none], [.int (52 : Int32), .int (nI (hN t z 40))], Ac fp le lp lb il (sbf t) (nI z) bf rf fr mp sc (-1 : Int32) ib ie pw dh rl rb re sy sb rc sg ex)) k_I_headerFault_125 kc_I_headerFault_125 rfl ⟨trivial, trivial⟩ ?_
              refine Run.br (tgt := 139) d_I_headerFault_127 rfl (by decide) (fun c_13 => ?_) (fun c_13 => ?_)
              · have c_13 := (nI_eq (a := (hN t z 40)) (b := 52) (Nat.lt_of_lt_of_le (hN_lt ht z _) (by decide)) (by decide)).mp c_13
                refine Run.blk (gs := [True, True]) (S' := ([some (.ref 6), some (.ref 1), some (.int (nI (hN t z 16))), none], [.int (42 : Int32), .ref 1], Ac fp le lp lb il (sbf t) (nI z) bf rf fr mp sc (-1 : Int32) ib ie pw dh rl rb re sy sb rc sg ex)) k_I_headerFault_139 kc_I_headerFault_139 rfl ⟨trivial, trivial, trivial⟩ ?_
                refine Run.callV (b := 1) (As := [.int (42 : Int32)]) (rest := []) v_I_headerFault_142 (c_T_half ht hz (p := 42) rfl (by decide)) rfl (Nat.le_of_ble_eq_true rfl) rfl rfl rfl rfl (fun r cs' hp => ?_)
                obtain ⟨rfl, rfl⟩ := hp
                show Run _ _ _ _ 145 ([some (.ref 6), some (.ref 1), some (.int (nI (hN t z 16))), none], [.int (nI (hN t z 42))], Ac fp le lp lb il (sbf t) (nI z) bf rf fr mp sc (-1 : Int32) ib ie pw dh rl rb re sy sb rc sg ex) _
                refine Run.blk (gs := [True]) (S' := ([some (.ref 6), some (.ref 1), some (.int (nI (hN t z 16))), none], [.int (32 : Int32), .int (nI (hN t z 42))], Ac fp le lp lb il (sbf t) (nI z) bf rf fr mp sc (-1 : Int32) ib ie pw dh rl rb re sy sb rc sg ex)) k_I_headerFault_145 kc_I_headerFault_145 rfl ⟨trivial, trivial⟩ ?_
                refine Run.br (tgt := 159) d_I_headerFault_147 rfl (by decide) (fun c_14 => ?_) (fun c_14 => ?_)
                · have c_14 := (nI_eq (a := (hN t z 42)) (b := 32) (Nat.lt_of_lt_of_le (hN_lt ht z _) (by decide)) (by decide)).mp c_14
                  refine Run.blk (gs := [True, True]) (S' := ([some (.ref 6), some (.ref 1), some (.int (nI (hN t z 16))), none], [.int (44 : Int32), .ref 1], Ac fp le lp lb il (sbf t) (nI z) bf rf fr mp sc (-1 : Int32) ib ie pw dh rl rb re sy sb rc sg ex)) k_I_headerFault_159 kc_I_headerFault_159 rfl ⟨trivial, trivial, trivial⟩ ?_
                  refine Run.callV (b := 1) (As := [.int (44 : Int32)]) (rest := []) v_I_headerFault_162 (c_T_half ht hz (p := 44) rfl (by decide)) rfl (Nat.le_of_ble_eq_true rfl) rfl rfl rfl rfl (fun r cs' hp => ?_)
                  obtain ⟨rfl, rfl⟩ := hp
                  show Run _ _ _ _ 165 ([some (.ref 6), some (.ref 1), some (.int (nI (hN t z 16))), none], [.int (nI (hN t z 44))], Ac fp le lp lb il (sbf t) (nI z) bf rf fr mp sc (-1 : Int32) ib ie pw dh rl rb re sy sb rc sg ex) _
                  refine Run.blk (gs := [True, True, True]) (S' := ([some (.ref 6), some (.ref 1), some (.int (nI (hN t z 16))), some (.int (nI (hN t z 44)))], [.int (1 : Int32), .int (nI (hN t z 44))], Ac fp le lp lb il (sbf t) (nI z) bf rf fr mp sc (-1 : Int32) ib ie pw dh rl rb re sy sb rc sg ex)) k_I_headerFault_165 kc_I_headerFault_165 rfl ⟨trivial, trivial, trivial, trivial⟩ ?_
                  refine Run.br (tgt := 177) d_I_headerFault_168 rfl (by decide) (fun c_15 => ?_) (fun c_15 => ?_)
                  · have c_15 := (nI_ltI (a := (hN t z 44)) (b := 1) (Nat.lt_of_lt_of_le (hN_lt ht z _) (by decide)) (by decide)).mp c_15
                    refine Run.blk (gs := [True, True, True]) (S' := ([some (.ref 6), some (.ref 1), some (.int (nI (hN t z 16))), some (.int (nI (hN t z 44)))], [.int (44 : Int32), .int (7 : Int32), .ref 6], Ac fp le lp lb il (sbf t) (nI z) bf rf fr mp sc (-1 : Int32) ib ie pw dh rl rb re sy sb rc sg ex)) k_I_headerFault_177 kc_I_headerFault_177 rfl ⟨trivial, trivial, trivial, trivial⟩ ?_
                    refine Run.callV (b := 6) (As := [.int (7 : Int32), .int (44 : Int32)]) (rest := []) v_I_headerFault_182 c_I_fault rfl (Nat.le_of_ble_eq_true rfl) rfl rfl rfl rfl (fun r cs' hp => ?_)
                    obtain ⟨rfl, rfl⟩ := hp
                    show Run _ _ _ _ 185 ([some (.ref 6), some (.ref 1), some (.int (nI (hN t z 16))), some (.int (nI (hN t z 44)))], [.int (7 : Int32)], Ac fp le lp lb il (sbf t) (nI z) bf rf fr mp sc (44 : Int32) ib ie pw dh rl rb re sy sb rc sg ex) _
                    rw [show hdL t z 0 i = ((7 : Int32), (44 : Int32)) by show hdR t z = _; unfold hdR; rw [if_pos (by omega), if_pos (by omega), if_pos (by omega), if_pos (by omega), if_pos (by omega), if_neg (by omega)]]
                    exact Run.ret (r := some (.int (7 : Int32))) ⟨d_I_headerFault_185, _, rfl, rfl⟩ ⟨rfl, rfl⟩
                  · have c_15 : ¬ ((hN t z 44) < 1) := fun q => c_15 ((nI_ltI (a := (hN t z 44)) (b := 1) (Nat.lt_of_lt_of_le (hN_lt ht z _) (by decide)) (by decide)).mpr q)
                    refine Run.blk (gs := [True, True]) (S' := ([some (.ref 6), some (.ref 1), some (.int (nI (hN t z 16))), some (.int (nI (hN t z 44)))], [.int (8 : Int32), .int (nI (hN t z 44))], Ac fp le lp lb il (sbf t) (nI z) bf rf fr mp sc (-1 : Int32) ib ie pw dh rl rb re sy sb rc sg ex)) k_I_headerFault_171 kc_I_headerFault_171 rfl ⟨trivial, trivial, trivial⟩ ?_
                    refine Run.br (tgt := 186) d_I_headerFault_174 rfl (by decide) (fun c_16 => ?_) (fun c_16 => ?_)
                    · have c_16 := (nI_leI (a := (hN t z 44)) (b := 8) (Nat.lt_of_lt_of_le (hN_lt ht z _) (by decide)) (by decide)).mp c_16
                      refine Run.blk (gs := [True, True, True]) (S' := ([some (.ref 6), some (.ref 1), some (.int (nI (hN t z 16))), some (.int (nI (hN t z 44)))], [.int (28 : Int32), .ref 1, .ref 1], Ac fp le lp lb il (sbf t) (nI z) bf rf fr mp sc (-1 : Int32) ib ie pw dh rl rb re sy sb rc sg ex)) k_I_headerFault_186 kc_I_headerFault_186 rfl ⟨trivial, trivial, trivial, trivial⟩ ?_
                      refine Run.callV (b := 1) (As := [.int (28 : Int32)]) (rest := [.ref 1]) v_I_headerFault_190 (c_T_word ht hz (p := 28) rfl (by decide)) rfl (Nat.le_of_ble_eq_true rfl) rfl rfl rfl rfl (fun r cs' hp => ?_)
                      obtain ⟨rfl, rfl⟩ := hp
                      show Run _ _ _ _ 193 ([some (.ref 6), some (.ref 1), some (.int (nI (hN t z 16))), some (.int (nI (hN t z 44)))], [.long (lN (wN t z 28)), .ref 1], Ac fp le lp lb il (sbf t) (nI z) bf rf fr mp sc (-1 : Int32) ib ie pw dh rl rb re sy sb rc sg ex) _
                      refine Run.blk (gs := [True, True, True, True]) (S' := ([some (.ref 6), some (.ref 1), some (.int (nI (hN t z 16))), some (.int (nI (hN t z 44)))], [.long (((32 : Int32) * (nI (hN t z 44))).toInt64), .long (lN (wN t z 28)), .ref 1], Ac fp le lp lb il (sbf t) (nI z) bf rf fr mp sc (-1 : Int32) ib ie pw dh rl rb re sy sb rc sg ex)) k_I_headerFault_193 kc_I_headerFault_193 rfl ⟨trivial, trivial, trivial, trivial, trivial⟩ ?_
                      refine Run.callV (b := 1) (As := [.long (lN (wN t z 28)), .long (((32 : Int32) * (nI (hN t z 44))).toInt64)]) (rest := []) v_I_headerFault_198 (c_T_hasN hz (a := wN t z 28) (m := 32 * hN t z 44) hw28 (by omega) rfl (by rw [show (32 : Int32) = nI 32 from rfl, pk_mul, nI_l (by omega)])) rfl (Nat.le_of_ble_eq_true rfl) rfl rfl rfl rfl (fun r cs' hp => ?_)
                      obtain ⟨rfl, rfl⟩ := hp
                      show Run _ _ _ _ 201 ([some (.ref 6), some (.ref 1), some (.int (nI (hN t z 16))), some (.int (nI (hN t z 44)))], [.int (if wN t z 28 + 32 * hN t z 44 ≤ z then 1 else 0)], Ac fp le lp lb il (sbf t) (nI z) bf rf fr mp sc (-1 : Int32) ib ie pw dh rl rb re sy sb rc sg ex) _
                      refine Run.br (tgt := 208) d_I_headerFault_201 rfl (by decide) (fun c_17 => ?_) (fun c_17 => ?_)
                      · have c_17 := zi_f c_17
                        refine Run.blk (gs := [True, True, True]) (S' := ([some (.ref 6), some (.ref 1), some (.int (nI (hN t z 16))), some (.int (nI (hN t z 44)))], [.int (28 : Int32), .int (8 : Int32), .ref 6], Ac fp le lp lb il (sbf t) (nI z) bf rf fr mp sc (-1 : Int32) ib ie pw dh rl rb re sy sb rc sg ex)) k_I_headerFault_208 kc_I_headerFault_208 rfl ⟨trivial, trivial, trivial, trivial⟩ ?_
                        refine Run.callV (b := 6) (As := [.int (8 : Int32), .int (28 : Int32)]) (rest := []) v_I_headerFault_213 c_I_fault rfl (Nat.le_of_ble_eq_true rfl) rfl rfl rfl rfl (fun r cs' hp => ?_)
                        obtain ⟨rfl, rfl⟩ := hp
                        show Run _ _ _ _ 216 ([some (.ref 6), some (.ref 1), some (.int (nI (hN t z 16))), some (.int (nI (hN t z 44)))], [.int (8 : Int32)], Ac fp le lp lb il (sbf t) (nI z) bf rf fr mp sc (28 : Int32) ib ie pw dh rl rb re sy sb rc sg ex) _
                        rw [show hdL t z 0 i = ((8 : Int32), (28 : Int32)) by show hdR t z = _; unfold hdR; rw [if_pos (by omega), if_pos (by omega), if_pos (by omega), if_pos (by omega), if_pos (by omega), if_pos (by omega), if_neg (by omega)]]
                        exact Run.ret (r := some (.int (8 : Int32))) ⟨d_I_headerFault_216, _, rfl, rfl⟩ ⟨rfl, rfl⟩
                      · have c_17 := zi_t c_17
                        refine Run.blk (gs := [True]) (S' := ([some (.ref 6), some (.ref 1), some (.int (nI (hN t z 16))), some (.int (nI (hN t z 44)))], [.int (0 : Int32)], Ac fp le lp lb il (sbf t) (nI z) bf rf fr mp sc (-1 : Int32) ib ie pw dh rl rb re sy sb rc sg ex)) k_I_headerFault_204 kc_I_headerFault_204 rfl ⟨trivial, trivial⟩ ?_
                        refine Run.goto (tgt := 216) d_I_headerFault_205 (by decide) ?_
                        rw [show hdL t z 0 i = ((0 : Int32), (-1 : Int32)) by show hdR t z = _; unfold hdR; rw [if_pos (by omega), if_pos (by omega), if_pos (by omega), if_pos (by omega), if_pos (by omega), if_pos (by omega), if_pos (by omega)]]
                        exact Run.ret (r := some (.int (0 : Int32))) ⟨d_I_headerFault_216, _, rfl, rfl⟩ ⟨rfl, rfl⟩
                    · have c_16 : ¬ ((hN t z 44) ≤ 8) := fun q => c_16 ((nI_leI (a := (hN t z 44)) (b := 8) (Nat.lt_of_lt_of_le (hN_lt ht z _) (by decide)) (by decide)).mpr q)
                      refine Run.blk (gs := [True, True, True]) (S' := ([some (.ref 6), some (.ref 1), some (.int (nI (hN t z 16))), some (.int (nI (hN t z 44)))], [.int (44 : Int32), .int (7 : Int32), .ref 6], Ac fp le lp lb il (sbf t) (nI z) bf rf fr mp sc (-1 : Int32) ib ie pw dh rl rb re sy sb rc sg ex)) k_I_headerFault_177 kc_I_headerFault_177 rfl ⟨trivial, trivial, trivial, trivial⟩ ?_
                      refine Run.callV (b := 6) (As := [.int (7 : Int32), .int (44 : Int32)]) (rest := []) v_I_headerFault_182 c_I_fault rfl (Nat.le_of_ble_eq_true rfl) rfl rfl rfl rfl (fun r cs' hp => ?_)
                      obtain ⟨rfl, rfl⟩ := hp
                      show Run _ _ _ _ 185 ([some (.ref 6), some (.ref 1), some (.int (nI (hN t z 16))), some (.int (nI (hN t z 44)))], [.int (7 : Int32)], Ac fp le lp lb il (sbf t) (nI z) bf rf fr mp sc (44 : Int32) ib ie pw dh rl rb re sy sb rc sg ex) _
                      rw [show hdL t z 0 i = ((7 : Int32), (44 : Int32)) by show hdR t z = _; unfold hdR; rw [if_pos (by omega), if_pos (by omega), if_pos (by omega), if_pos (by omega), if_pos (by omega), if_neg (by omega)]]
                      exact Run.ret (r := some (.int (7 : Int32))) ⟨d_I_headerFault_185, _, rfl, rfl⟩ ⟨rfl, rfl⟩
                · have c_14 : ¬ ((hN t z 42) = 32) := fun q => c_14 ((nI_eq (a := (hN t z 42)) (b := 32) (Nat.lt_of_lt_of_le (hN_lt ht z _) (by decide)) (by decide)).mpr q)
                  refine Run.blk (gs := [True, True, True]) (S' := ([some (.ref 6), some (.ref 1), some (.int (nI (hN t z 16))), none], [.int (42 : Int32), .int (6 : Int32), .ref 6], Ac fp le lp lb il (sbf t) (nI z) bf rf fr mp sc (-1 : Int32) ib ie pw dh rl rb re sy sb rc sg ex)) k_I_headerFault_150 kc_I_headerFault_150 rfl ⟨trivial, trivial, trivial, trivial⟩ ?_
                  refine Run.callV (b := 6) (As := [.int (6 : Int32), .int (42 : Int32)]) (rest := []) v_I_headerFault_155 c_I_fault rfl (Nat.le_of_ble_eq_true rfl) rfl rfl rfl rfl (fun r cs' hp => ?_)
                  obtain ⟨rfl, rfl⟩ := hp
                  show Run _ _ _ _ 158 ([some (.ref 6), some (.ref 1), some (.int (nI (hN t z 16))), none], [.int (6 : Int32)], Ac fp le lp lb il (sbf t) (nI z) bf rf fr mp sc (42 : Int32) ib ie pw dh rl rb re sy sb rc sg ex) _
                  rw [show hdL t z 0 i = ((6 : Int32), (42 : Int32)) by show hdR t z = _; unfold hdR; rw [if_pos (by omega), if_pos (by omega), if_pos (by omega), if_pos (by omega), if_neg (by omega)]]
                  exact Run.ret (r := some (.int (6 : Int32))) ⟨d_I_headerFault_158, _, rfl, rfl⟩ ⟨rfl, rfl⟩
              · have c_13 : ¬ ((hN t z 40) = 52) := fun q => c_13 ((nI_eq (a := (hN t z 40)) (b := 52) (Nat.lt_of_lt_of_le (hN_lt ht z _) (by decide)) (by decide)).mpr q)
                refine Run.blk (gs := [True, True, True]) (S' := ([some (.ref 6), some (.ref 1), some (.int (nI (hN t z 16))), none], [.int (40 : Int32), .int (6 : Int32), .ref 6], Ac fp le lp lb il (sbf t) (nI z) bf rf fr mp sc (-1 : Int32) ib ie pw dh rl rb re sy sb rc sg ex)) k_I_headerFault_130 kc_I_headerFault_130 rfl ⟨trivial, trivial, trivial, trivial⟩ ?_
                refine Run.callV (b := 6) (As := [.int (6 : Int32), .int (40 : Int32)]) (rest := []) v_I_headerFault_135 c_I_fault rfl (Nat.le_of_ble_eq_true rfl) rfl rfl rfl rfl (fun r cs' hp => ?_)
                obtain ⟨rfl, rfl⟩ := hp
                show Run _ _ _ _ 138 ([some (.ref 6), some (.ref 1), some (.int (nI (hN t z 16))), none], [.int (6 : Int32)], Ac fp le lp lb il (sbf t) (nI z) bf rf fr mp sc (40 : Int32) ib ie pw dh rl rb re sy sb rc sg ex) _
                rw [show hdL t z 0 i = ((6 : Int32), (40 : Int32)) by show hdR t z = _; unfold hdR; rw [if_pos (by omega), if_pos (by omega), if_pos (by omega), if_neg (by omega)]]
                exact Run.ret (r := some (.int (6 : Int32))) ⟨d_I_headerFault_138, _, rfl, rfl⟩ ⟨rfl, rfl⟩
            · have c_12 : ¬ ((wN t z 20) = 1) := fun q => c_12 ((pk_lEQ (a := (wN t z 20)) (b := 1) (Nat.lt_of_lt_of_le (wN_lt ht z _) (by decide)) (by decide)).mpr q)
              refine Run.blk (gs := [True, True, True]) (S' := ([some (.ref 6), some (.ref 1), some (.int (nI (hN t z 16))), none], [.int (20 : Int32), .int (5 : Int32), .ref 6], Ac fp le lp lb il (sbf t) (nI z) bf rf fr mp sc (-1 : Int32) ib ie pw dh rl rb re sy sb rc sg ex)) k_I_headerFault_111 kc_I_headerFault_111 rfl ⟨trivial, trivial, trivial, trivial⟩ ?_
              refine Run.callV (b := 6) (As := [.int (5 : Int32), .int (20 : Int32)]) (rest := []) v_I_headerFault_115 c_I_fault rfl (Nat.le_of_ble_eq_true rfl) rfl rfl rfl rfl (fun r cs' hp => ?_)
              obtain ⟨rfl, rfl⟩ := hp
              show Run _ _ _ _ 118 ([some (.ref 6), some (.ref 1), some (.int (nI (hN t z 16))), none], [.int (5 : Int32)], Ac fp le lp lb il (sbf t) (nI z) bf rf fr mp sc (20 : Int32) ib ie pw dh rl rb re sy sb rc sg ex) _
              rw [show hdL t z 0 i = ((5 : Int32), (20 : Int32)) by show hdR t z = _; unfold hdR; rw [if_pos (by omega), if_pos (by omega), if_neg (by omega)]]
              exact Run.ret (r := some (.int (5 : Int32))) ⟨d_I_headerFault_118, _, rfl, rfl⟩ ⟨rfl, rfl⟩
          · have c_11 : ¬ ((hN t z 18) = 243) := fun q => c_11 ((nI_eq (a := (hN t z 18)) (b := 243) (Nat.lt_of_lt_of_le (hN_lt ht z _) (by decide)) (by decide)).mpr q)
            refine Run.blk (gs := [True, True, True]) (S' := ([some (.ref 6), some (.ref 1), some (.int (nI (hN t z 16))), none], [.int (18 : Int32), .int (4 : Int32), .ref 6], Ac fp le lp lb il (sbf t) (nI z) bf rf fr mp sc (-1 : Int32) ib ie pw dh rl rb re sy sb rc sg ex)) k_I_headerFault_92 kc_I_headerFault_92 rfl ⟨trivial, trivial, trivial, trivial⟩ ?_
            refine Run.callV (b := 6) (As := [.int (4 : Int32), .int (18 : Int32)]) (rest := []) v_I_headerFault_96 c_I_fault rfl (Nat.le_of_ble_eq_true rfl) rfl rfl rfl rfl (fun r cs' hp => ?_)
            obtain ⟨rfl, rfl⟩ := hp
            show Run _ _ _ _ 99 ([some (.ref 6), some (.ref 1), some (.int (nI (hN t z 16))), none], [.int (4 : Int32)], Ac fp le lp lb il (sbf t) (nI z) bf rf fr mp sc (18 : Int32) ib ie pw dh rl rb re sy sb rc sg ex) _
            rw [show hdL t z 0 i = ((4 : Int32), (18 : Int32)) by show hdR t z = _; unfold hdR; rw [if_pos (by omega), if_neg (by omega)]]
            exact Run.ret (r := some (.int (4 : Int32))) ⟨d_I_headerFault_99, _, rfl, rfl⟩ ⟨rfl, rfl⟩
        · have c_10 : ¬ ((hN t z 16) = 3) := fun q => c_10 ((nI_eq (a := (hN t z 16)) (b := 3) (Nat.lt_of_lt_of_le (hN_lt ht z _) (by decide)) (by decide)).mpr q)
          refine Run.blk (gs := [True, True, True]) (S' := ([some (.ref 6), some (.ref 1), some (.int (nI (hN t z 16))), none], [.int (16 : Int32), .int (3 : Int32), .ref 6], Ac fp le lp lb il (sbf t) (nI z) bf rf fr mp sc (-1 : Int32) ib ie pw dh rl rb re sy sb rc sg ex)) k_I_headerFault_72 kc_I_headerFault_72 rfl ⟨trivial, trivial, trivial, trivial⟩ ?_
          refine Run.callV (b := 6) (As := [.int (3 : Int32), .int (16 : Int32)]) (rest := []) v_I_headerFault_76 c_I_fault rfl (Nat.le_of_ble_eq_true rfl) rfl rfl rfl rfl (fun r cs' hp => ?_)
          obtain ⟨rfl, rfl⟩ := hp
          show Run _ _ _ _ 79 ([some (.ref 6), some (.ref 1), some (.int (nI (hN t z 16))), none], [.int (3 : Int32)], Ac fp le lp lb il (sbf t) (nI z) bf rf fr mp sc (16 : Int32) ib ie pw dh rl rb re sy sb rc sg ex) _
          rw [show hdL t z 0 i = ((3 : Int32), (16 : Int32)) by show hdR t z = _; unfold hdR; rw [if_neg (by omega)]]
          exact Run.ret (r := some (.int (3 : Int32))) ⟨d_I_headerFault_79, _, rfl, rfl⟩ ⟨rfl, rfl⟩
    · exact absurd (by rw [hv, hik]; exact Int32.le_refl _) c_1
  | k + 1, i, v, hv, h => by
    refine Run.blk (gs := [True, True, True]) (S' := ([some (.ref 6), some (.ref 1), some (.int v), none], [.int (7 : Int32), .int v], Ac fp le lp lb il (sbf t) (nI z) bf rf fr mp sc (-1 : Int32) ib ie pw dh rl rb re sy sb rc sg ex)) k_I_headerFault_21 kc_I_headerFault_21 rfl ⟨trivial, trivial, trivial, trivial⟩ ?_
    refine Run.br (tgt := 55) d_I_headerFault_26 rfl (by decide) (fun c_1 => ?_) (fun c_1 => ?_)
    · exact absurd c_1 (by rw [hv]; exact nI_ge (show i < 7 by omega) (by decide))
    · refine Run.blk (gs := [True, True]) (S' := ([some (.ref 6), some (.ref 1), some (.int v), none], [.int v, .ref 1], Ac fp le lp lb il (sbf t) (nI z) bf rf fr mp sc (-1 : Int32) ib ie pw dh rl rb re sy sb rc sg ex)) k_I_headerFault_29 kc_I_headerFault_29 rfl ⟨trivial, trivial, trivial⟩ ?_
      refine Run.callV (b := 1) (As := [.int v]) (rest := []) v_I_headerFault_31 (c_T_byteAt ht hz (p := i) hv (by omega)) rfl (Nat.le_of_ble_eq_true rfl) rfl rfl rfl rfl (fun r cs' hp => ?_)
      obtain ⟨rfl, rfl⟩ := hp
      show Run _ _ _ _ 34 ([some (.ref 6), some (.ref 1), some (.int v), none], [.int (nI (tb t z i))], Ac fp le lp lb il (sbf t) (nI z) bf rf fr mp sc (-1 : Int32) ib ie pw dh rl rb re sy sb rc sg ex) _
      refine Run.blk (gs := [True, True, vp_in v 7]) (S' := ([some (.ref 6), some (.ref 1), some (.int v), none], [.int (G_mag v.toNatClampNeg), .int (nI (tb t z i))], Ac fp le lp lb il (sbf t) (nI z) bf rf fr mp sc (-1 : Int32) ib ie pw dh rl rb re sy sb rc sg ex)) k_I_headerFault_34 kc_I_headerFault_34 rfl ⟨trivial, trivial, (by rw [hv]; exact vp_in_nI (show i < 7 by omega) (by decide)), trivial⟩ ?_
      refine Run.br (tgt := 49) d_I_headerFault_39 rfl (by decide) (fun c_2 => ?_) (fun c_2 => ?_)
      · rw [hv, nI_clamp (by omega), tb_in (by omega)] at c_2
        refine Run.blk (gs := [True]) (S' := ([some (.ref 6), some (.ref 1), some (.int (v + (1 : Int32))), none], [], Ac fp le lp lb il (sbf t) (nI z) bf rf fr mp sc (-1 : Int32) ib ie pw dh rl rb re sy sb rc sg ex)) k_I_headerFault_49 kc_I_headerFault_49 rfl ⟨trivial, trivial⟩ ?_
        refine Run.goto (tgt := 21) d_I_headerFault_52 (by decide) ?_
        rw [show hdL t z (k + 1) i = hdL t z k (i + 1) by rw [hdL, if_pos c_2]]
        exact l_I_headerFault ht hz h52 k (i + 1) _ (by rw [hv, nI_1]) (by omega)
      · rw [hv, nI_clamp (by omega), tb_in (by omega)] at c_2
        refine Run.blk (gs := [True, True, True]) (S' := ([some (.ref 6), some (.ref 1), some (.int v), none], [.int v, .int (2 : Int32), .ref 6], Ac fp le lp lb il (sbf t) (nI z) bf rf fr mp sc (-1 : Int32) ib ie pw dh rl rb re sy sb rc sg ex)) k_I_headerFault_42 kc_I_headerFault_42 rfl ⟨trivial, trivial, trivial, trivial⟩ ?_
        refine Run.callV (b := 6) (As := [.int (2 : Int32), .int v]) (rest := []) v_I_headerFault_45 c_I_fault rfl (Nat.le_of_ble_eq_true rfl) rfl rfl rfl rfl (fun r cs' hp => ?_)
        obtain ⟨rfl, rfl⟩ := hp
        show Run _ _ _ _ 48 ([some (.ref 6), some (.ref 1), some (.int v), none], [.int (2 : Int32)], Ac fp le lp lb il (sbf t) (nI z) bf rf fr mp sc v ib ie pw dh rl rb re sy sb rc sg ex) _
        rw [show hdL t z (k + 1) i = (2, nI i) by rw [hdL, if_neg c_2]]
        exact Run.ret (r := some (.int (2 : Int32))) ⟨d_I_headerFault_48, _, rfl, rfl⟩ ⟨rfl, by rw [hv]⟩
set_option maxRecDepth 100000 in
set_option maxHeartbeats 4000000 in
theorem c_I_headerFault (ht : ∀ j, t j < 256) (hz : z ≤ 900) : Ct m_I_headerFault 0 0 [.ref 6, .ref 1] (Ac fp le lp lb il (sbf t) (nI z) bf rf fr mp sc (-1 : Int32) ib ie pw dh rl rb re sy sb rc sg ex) (vm_is (some (.int ((hdF t z).1))) (Ac fp le lp lb il (sbf t) (nI z) bf rf fr mp sc ((hdF t z).2) ib ie pw dh rl rb re sy sb rc sg ex)) := by
  refine Ct.of ⟨by decide +kernel, rfl⟩ (Nat.le_of_ble_eq_true rfl) (lv := [some (.ref 6), some (.ref 1), none, none]) rfl ?_
  refine Run.blk (gs := [True]) (S' := ([some (.ref 6), some (.ref 1), none, none], [.ref 1], Ac fp le lp lb il (sbf t) (nI z) bf rf fr mp sc (-1 : Int32) ib ie pw dh rl rb re sy sb rc sg ex)) k_I_headerFault_0 kc_I_headerFault_0 rfl ⟨trivial, trivial⟩ ?_
  refine Run.callV (b := 1) (As := []) (rest := []) v_I_headerFault_1 c_T_size rfl (Nat.le_of_ble_eq_true rfl) rfl rfl rfl rfl (fun r cs' hp => ?_)
  obtain ⟨rfl, rfl⟩ := hp
  show Run _ _ _ _ 4 ([some (.ref 6), some (.ref 1), none, none], [.int (nI z)], Ac fp le lp lb il (sbf t) (nI z) bf rf fr mp sc (-1 : Int32) ib ie pw dh rl rb re sy sb rc sg ex) _
  refine Run.blk (gs := [True]) (S' := ([some (.ref 6), some (.ref 1), none, none], [.int (52 : Int32), .int (nI z)], Ac fp le lp lb il (sbf t) (nI z) bf rf fr mp sc (-1 : Int32) ib ie pw dh rl rb re sy sb rc sg ex)) k_I_headerFault_4 kc_I_headerFault_4 rfl ⟨trivial, trivial⟩ ?_
  refine Run.br (tgt := 19) d_I_headerFault_6 rfl (by decide) (fun c_1 => ?_) (fun c_1 => ?_)
  · have c_1 := (nI_leI (a := 52) (b := z) (by decide) (by omega)).mp c_1
    refine Run.blk (gs := [True, True]) (S' := ([some (.ref 6), some (.ref 1), some (.int (0 : Int32)), none], [], Ac fp le lp lb il (sbf t) (nI z) bf rf fr mp sc (-1 : Int32) ib ie pw dh rl rb re sy sb rc sg ex)) k_I_headerFault_19 kc_I_headerFault_19 rfl ⟨trivial, trivial, trivial⟩ ?_
    rw [show hdF t z = hdL t z 7 0 by unfold hdF; rw [if_neg (by omega)]]
    exact l_I_headerFault ht hz (by omega) 7 0 _ rfl rfl
  · have c_1 : ¬ (52 ≤ z) := fun q => c_1 ((nI_leI (a := 52) (b := z) (by decide) (by omega)).mpr q)
    refine Run.blk (gs := [True, True, True]) (S' := ([some (.ref 6), some (.ref 1), none, none], [.ref 1, .int (1 : Int32), .ref 6], Ac fp le lp lb il (sbf t) (nI z) bf rf fr mp sc (-1 : Int32) ib ie pw dh rl rb re sy sb rc sg ex)) k_I_headerFault_9 kc_I_headerFault_9 rfl ⟨trivial, trivial, trivial, trivial⟩ ?_
    refine Run.callV (b := 1) (As := []) (rest := [.int (1 : Int32), .ref 6]) v_I_headerFault_12 c_T_size rfl (Nat.le_of_ble_eq_true rfl) rfl rfl rfl rfl (fun r cs' hp => ?_)
    obtain ⟨rfl, rfl⟩ := hp
    show Run _ _ _ _ 15 ([some (.ref 6), some (.ref 1), none, none], [.int (nI z), .int (1 : Int32), .ref 6], Ac fp le lp lb il (sbf t) (nI z) bf rf fr mp sc (-1 : Int32) ib ie pw dh rl rb re sy sb rc sg ex) _
    refine Run.callV (b := 6) (As := [.int (1 : Int32), .int (nI z)]) (rest := []) v_I_headerFault_15 c_I_fault rfl (Nat.le_of_ble_eq_true rfl) rfl rfl rfl rfl (fun r cs' hp => ?_)
    obtain ⟨rfl, rfl⟩ := hp
    show Run _ _ _ _ 18 ([some (.ref 6), some (.ref 1), none, none], [.int (1 : Int32)], Ac fp le lp lb il (sbf t) (nI z) bf rf fr mp sc (nI z) ib ie pw dh rl rb re sy sb rc sg ex) _
    rw [show hdF t z = (1, nI z) by unfold hdF; rw [if_pos (by omega)]]
    exact Run.ret (r := some (.int (1 : Int32))) ⟨d_I_headerFault_18, _, rfl, rfl⟩ ⟨rfl, rfl⟩
set_option maxRecDepth 100000 in
set_option maxHeartbeats 4000000 in
theorem l_I_meetsEarlier {q : Nat} {rg : Nat → Int32} (hq : vm_g (Ac fp le lp lb il tf tz bf rf fr mp (nI L.length) ifp ib ie pw dh rl rb re sy sb rc sg ex) q = some (pSeg O Ad St Fi He Al fl)) (hS : hSg L sg) (hG : ∀ g, g ∈ L → Gd z rg g) (hL : L.length ≤ 8) (hO : O < 2 ^ 32) (hAd : Ad < 2 ^ 32) (hSt : St < 2 ^ 33) (hHe : He < 2 ^ 32) (hAl : Al < 2 ^ 32) : ∀ (R : List SG) (i : Nat) (v : Int32), v = nI i → L.drop i = R → i ≤ 8 → Run m_I_meetsEarlier n 0 0 2 ([some (.ref 6), some (.ref q), some (.int v)], [], Ac fp le lp lb il tf tz bf rf fr mp (nI L.length) ifp ib ie pw dh rl rb re sy sb rc sg ex) (vm_is (some (.int (if mtB (pgA St He) (pgC St He) R = true then 1 else 0))) (Ac fp le lp lb il tf tz bf rf fr mp (nI L.length) ifp ib ie pw dh rl rb re sy sb rc sg ex))
  | [], i, v, hv, hd, hi9 => by
    refine Run.blk (gs := [True, True, True]) (S' := ([some (.ref 6), some (.ref q), some (.int v)], [.int (nI L.length), .int v], Ac fp le lp lb il tf tz bf rf fr mp (nI L.length) ifp ib ie pw dh rl rb re sy sb rc sg ex)) k_I_meetsEarlier_2 kc_I_meetsEarlier_2 rfl ⟨trivial, trivial, trivial, trivial⟩ ?_
    refine Run.br (tgt := 40) d_I_meetsEarlier_7 rfl (by decide) (fun c_1 => ?_) (fun c_1 => ?_)
    · refine Run.blk (gs := [True]) (S' := ([some (.ref 6), some (.ref q), some (.int v)], [.int (0 : Int32)], Ac fp le lp lb il tf tz bf rf fr mp (nI L.length) ifp ib ie pw dh rl rb re sy sb rc sg ex)) k_I_meetsEarlier_40 kc_I_meetsEarlier_40 rfl ⟨trivial, trivial⟩ ?_
      exact Run.ret (r := some (.int (0 : Int32))) ⟨d_I_meetsEarlier_41, _, rfl, rfl⟩ ⟨rfl, rfl⟩
    · exact absurd (by rw [hv]; exact (nI_leI (a := L.length) (b := i) (by omega) (by omega)).mpr (drop_n hd)) c_1
  | (O2, Ad2, St2, Fi2, He2, Al2, fl2) :: R, i, v, hv, hd, hi9 => by
    obtain ⟨hg, hd2, hi⟩ := drop_c hd
    have b2 := (hG _ (List.mem_of_getElem? hg)).1
    refine Run.blk (gs := [True, True, True]) (S' := ([some (.ref 6), some (.ref q), some (.int v)], [.int (nI L.length), .int v], Ac fp le lp lb il tf tz bf rf fr mp (nI L.length) ifp ib ie pw dh rl rb re sy sb rc sg ex)) k_I_meetsEarlier_2 kc_I_meetsEarlier_2 rfl ⟨trivial, trivial, trivial, trivial⟩ ?_
    refine Run.br (tgt := 40) d_I_meetsEarlier_7 rfl (by decide) (fun c_1 => ?_) (fun c_1 => ?_)
    · exact absurd ((nI_leI (a := L.length) (b := i) (by omega) (by omega)).mp (by rw [← hv]; exact c_1)) (by omega)
    · refine Run.blk (gs := [True, True, True, True]) (S' := ([some (.ref 6), some (.ref q), some (.int v)], [.int (nI 8), .int v], Ac fp le lp lb il tf tz bf rf fr mp (nI L.length) ifp ib ie pw dh rl rb re sy sb rc sg ex)) k_I_meetsEarlier_10 kc_I_meetsEarlier_10 rfl ⟨trivial, trivial, trivial, trivial, trivial⟩ ?_
      refine Run.br (tgt := 40) d_I_meetsEarlier_16 rfl (by decide) (fun c_2 => ?_) (fun c_2 => ?_)
      · exact absurd ((nI_leI (a := 8) (b := i) (by omega) (by omega)).mp (by rw [← hv]; exact c_2)) (by omega)
      · refine Run.blk (gs := [True, True, True, True]) (S' := ([some (.ref 6), some (.ref q), some (.int v)], [.int v, .ref 7, .ref q], Ac fp le lp lb il tf tz bf rf fr mp (nI L.length) ifp ib ie pw dh rl rb re sy sb rc sg ex)) k_I_meetsEarlier_19 kc_I_meetsEarlier_19 rfl ⟨trivial, trivial, trivial, trivial, trivial⟩ ?_
        refine Run.aald (q := 8 + i) d_I_meetsEarlier_25 rfl rfl (vp_j hv (by omega)) (sgf_at hv (by omega)) ?_
        refine Run.callV (b := q) (As := [.ref (8 + i)]) (rest := []) v_I_meetsEarlier_26 (c_S_sharesPageWith hq (Ac_segG (show i < 8 by omega) (hS _ _ hg)) hO hAd hSt hHe hAl b2.1 b2.2.1 b2.2.2.1 b2.2.2.2.1 b2.2.2.2.2) rfl (Nat.le_of_ble_eq_true rfl) rfl hq rfl rfl (fun r cs' hp => ?_)
        obtain ⟨rfl, rfl⟩ := hp
        show Run _ _ _ _ 29 ([some (.ref 6), some (.ref q), some (.int v)], [.int (if pgA St He < pgC St2 He2 ∧ pgA St2 He2 < pgC St He then 1 else 0)], Ac fp le lp lb il tf tz bf rf fr mp (nI L.length) ifp ib ie pw dh rl rb re sy sb rc sg ex) _
        refine Run.br (tgt := 34) d_I_meetsEarlier_29 rfl (by decide) (fun c_3 => ?_) (fun c_3 => ?_)
        · have c_3 := zi_f c_3
          refine Run.blk (gs := [True]) (S' := ([some (.ref 6), some (.ref q), some (.int (v + (1 : Int32)))], [], Ac fp le lp lb il tf tz bf rf fr mp (nI L.length) ifp ib ie pw dh rl rb re sy sb rc sg ex)) k_I_meetsEarlier_34 kc_I_meetsEarlier_34 rfl ⟨trivial, trivial⟩ ?_
          refine Run.goto (tgt := 2) d_I_meetsEarlier_37 (by decide) ?_
          rw [show mtB (pgA St He) (pgC St He) ((O2, Ad2, St2, Fi2, He2, Al2, fl2) :: R) = mtB (pgA St He) (pgC St He) R by rw [mtB, if_neg c_3]]
          exact l_I_meetsEarlier hq hS hG hL hO hAd hSt hHe hAl R (i + 1) _ (by rw [hv, nI_1]) hd2 (by omega)
        · have c_3 := zi_t c_3
          refine Run.blk (gs := [True]) (S' := ([some (.ref 6), some (.ref q), some (.int v)], [.int (1 : Int32)], Ac fp le lp lb il tf tz bf rf fr mp (nI L.length) ifp ib ie pw dh rl rb re sy sb rc sg ex)) k_I_meetsEarlier_32 kc_I_meetsEarlier_32 rfl ⟨trivial, trivial⟩ ?_
          exact Run.ret (r := some (.int (1 : Int32))) ⟨d_I_meetsEarlier_33, _, rfl, rfl⟩ ⟨by rw [mtB, if_pos c_3]; rfl, rfl⟩
set_option maxRecDepth 100000 in
set_option maxHeartbeats 4000000 in
theorem c_I_meetsEarlier {q : Nat} {rg : Nat → Int32} (hq : vm_g (Ac fp le lp lb il tf tz bf rf fr mp (nI L.length) ifp ib ie pw dh rl rb re sy sb rc sg ex) q = some (pSeg O Ad St Fi He Al fl)) (hS : hSg L sg) (hG : ∀ g, g ∈ L → Gd z rg g) (hL : L.length ≤ 8) (hO : O < 2 ^ 32) (hAd : Ad < 2 ^ 32) (hSt : St < 2 ^ 33) (hHe : He < 2 ^ 32) (hAl : Al < 2 ^ 32) : Ct m_I_meetsEarlier 0 0 [.ref 6, .ref q] (Ac fp le lp lb il tf tz bf rf fr mp (nI L.length) ifp ib ie pw dh rl rb re sy sb rc sg ex) (vm_is (some (.int (if mtB (pgA St He) (pgC St He) L = true then 1 else 0))) (Ac fp le lp lb il tf tz bf rf fr mp (nI L.length) ifp ib ie pw dh rl rb re sy sb rc sg ex)) := by
  refine Ct.of ⟨by decide +kernel, rfl⟩ (Nat.le_of_ble_eq_true rfl) (lv := [some (.ref 6), some (.ref q), none]) rfl ?_
  refine Run.blk (gs := [True, True]) (S' := ([some (.ref 6), some (.ref q), some (.int (0 : Int32))], [], Ac fp le lp lb il tf tz bf rf fr mp (nI L.length) ifp ib ie pw dh rl rb re sy sb rc sg ex)) k_I_meetsEarlier_0 kc_I_meetsEarlier_0 rfl ⟨trivial, trivial, trivial⟩ ?_
  exact l_I_meetsEarlier hq hS hG hL hO hAd hSt hHe hAl L 0 _ rfl rfl (by omega)
end P34
