section P20
variable {fp le lp lb il : Int32} {tf bf rf : Nat → Int32} {tz fr mp sc ifp ib ie pw dh rc : Int32} {rl rb re sy sb : Int64} {sg : Nat → A_G} {ex : List va_E}
variable {t b : Nat → Nat} {z n : Nat}
set_option maxRecDepth 100000 in
set_option maxHeartbeats 4000000 in
theorem c_L_protect_A {x y : Int32} (hx : ¬ (0 ≤ x.toInt ∧ x.toInt < 64 ∧ 0 ≤ y.toInt ∧ y.toInt ≤ 7)) : Ct m_L_protect 0 0 [.ref 0, .int x, .int y] (Ac fp le lp lb il tf tz bf rf fr mp sc ifp ib ie pw dh rl rb re sy sb rc sg ex) (vm_is (some (.int (-2 : Int32))) (Ac fp le lp lb il tf tz bf rf fr mp sc ifp ib ie pw dh rl rb re sy sb rc sg ex)) := by
  refine Ct.of ⟨by decide +kernel, rfl⟩ (Nat.le_of_ble_eq_true rfl) (lv := [some (.ref 0), some (.int x), some (.int y), none]) rfl ?_
  refine Run.blk (gs := [True]) (S' := ([some (.ref 0), some (.int x), some (.int y), none], [.int x], Ac fp le lp lb il tf tz bf rf fr mp sc ifp ib ie pw dh rl rb re sy sb rc sg ex)) k_L_protect_0 kc_L_protect_0 rfl ⟨trivial, trivial⟩ ?_
  refine Run.callS (As := [.int x]) (rest := []) v_L_protect_1 (c_L_isPage x) rfl (Nat.le_of_ble_eq_true rfl) rfl (fun r cs' hp => ?_)
  obtain ⟨rfl, rfl⟩ := hp
  show Run _ _ _ _ 4 ([some (.ref 0), some (.int x), some (.int y), none], [.int (if 0 ≤ x.toInt ∧ x.toInt < 64 then 1 else 0)], Ac fp le lp lb il tf tz bf rf fr mp sc ifp ib ie pw dh rl rb re sy sb rc sg ex) _
  refine Run.br (tgt := 17) d_L_protect_4 rfl (by decide) (fun c_1 => ?_) (fun c_1 => ?_)
  · have c_1 := zi_f c_1
    refine Run.blk (gs := [True]) (S' := ([some (.ref 0), some (.int x), some (.int y), none], [.int (-2 : Int32)], Ac fp le lp lb il tf tz bf rf fr mp sc ifp ib ie pw dh rl rb re sy sb rc sg ex)) k_L_protect_17 kc_L_protect_17 rfl ⟨trivial, trivial⟩ ?_
    exact Run.ret (r := some (.int (-2 : Int32))) ⟨d_L_protect_19, _, rfl, rfl⟩ ⟨rfl, rfl⟩
  · have c_1 := zi_t c_1
    refine Run.blk (gs := [True]) (S' := ([some (.ref 0), some (.int x), some (.int y), none], [.int y], Ac fp le lp lb il tf tz bf rf fr mp sc ifp ib ie pw dh rl rb re sy sb rc sg ex)) k_L_protect_7 kc_L_protect_7 rfl ⟨trivial, trivial⟩ ?_
    refine Run.br (tgt := 17) d_L_protect_8 rfl (by decide) (fun c_2 => ?_) (fun c_2 => ?_)
    · refine Run.blk (gs := [True]) (S' := ([some (.ref 0), some (.int x), some (.int y), none], [.int (-2 : Int32)], Ac fp le lp lb il tf tz bf rf fr mp sc ifp ib ie pw dh rl rb re sy sb rc sg ex)) k_L_protect_17 kc_L_protect_17 rfl ⟨trivial, trivial⟩ ?_
      exact Run.ret (r := some (.int (-2 : Int32))) ⟨d_L_protect_19, _, rfl, rfl⟩ ⟨rfl, rfl⟩
    · refine Run.blk (gs := [True, True]) (S' := ([some (.ref 0), some (.int x), some (.int y), none], [.int (7 : Int32), .int y], Ac fp le lp lb il tf tz bf rf fr mp sc ifp ib ie pw dh rl rb re sy sb rc sg ex)) k_L_protect_11 kc_L_protect_11 rfl ⟨trivial, trivial, trivial⟩ ?_
      refine Run.br (tgt := 20) d_L_protect_14 rfl (by decide) (fun c_3 => ?_) (fun c_3 => ?_)
      · exfalso; simp only [← Int32.toInt_inj, Int32.lt_iff_toInt_lt, Int32.le_iff_toInt_le, t0, t1, t2, t4, t64, ti7, ti8, ti900, tim1] at *; omega
      · refine Run.blk (gs := [True]) (S' := ([some (.ref 0), some (.int x), some (.int y), none], [.int (-2 : Int32)], Ac fp le lp lb il tf tz bf rf fr mp sc ifp ib ie pw dh rl rb re sy sb rc sg ex)) k_L_protect_17 kc_L_protect_17 rfl ⟨trivial, trivial⟩ ?_
        exact Run.ret (r := some (.int (-2 : Int32))) ⟨d_L_protect_19, _, rfl, rfl⟩ ⟨rfl, rfl⟩
set_option maxRecDepth 100000 in
set_option maxHeartbeats 4000000 in
theorem c_L_protect_B {p : Nat} {x y : Int32} (hx : x = nI p) (hp : p < 64) (hy : 0 ≤ y.toInt ∧ y.toInt ≤ 7) (hr : rf p = -1) : Ct m_L_protect 0 0 [.ref 0, .int x, .int y] (Ac fp le lp lb il tf tz bf rf fr mp sc ifp ib ie pw dh rl rb re sy sb rc sg ex) (vm_is (some (.int (-3 : Int32))) (Ac fp le lp lb il tf tz bf rf fr mp sc ifp ib ie pw dh rl rb re sy sb rc sg ex)) := by
  subst hx
  refine Ct.of ⟨by decide +kernel, rfl⟩ (Nat.le_of_ble_eq_true rfl) (lv := [some (.ref 0), some (.int (nI p)), some (.int y), none]) rfl ?_
  refine Run.blk (gs := [True]) (S' := ([some (.ref 0), some (.int (nI p)), some (.int y), none], [.int (nI p)], Ac fp le lp lb il tf tz bf rf fr mp sc ifp ib ie pw dh rl rb re sy sb rc sg ex)) k_L_protect_0 kc_L_protect_0 rfl ⟨trivial, trivial⟩ ?_
  refine Run.callS (As := [.int (nI p)]) (rest := []) v_L_protect_1 (c_L_isPage (nI p)) rfl (Nat.le_of_ble_eq_true rfl) rfl (fun r cs' hp => ?_)
  obtain ⟨rfl, rfl⟩ := hp
  show Run _ _ _ _ 4 ([some (.ref 0), some (.int (nI p)), some (.int y), none], [.int (if 0 ≤ (nI p).toInt ∧ (nI p).toInt < 64 then 1 else 0)], Ac fp le lp lb il tf tz bf rf fr mp sc ifp ib ie pw dh rl rb re sy sb rc sg ex) _
  refine Run.br (tgt := 17) d_L_protect_4 rfl (by decide) (fun c_1 => ?_) (fun c_1 => ?_)
  · have c_1 := zi_f c_1
    exfalso; apply c_1; rw [nI_toInt (show p < 2 ^ 31 by omega)]; omega
  · have c_1 := zi_t c_1
    refine Run.blk (gs := [True]) (S' := ([some (.ref 0), some (.int (nI p)), some (.int y), none], [.int y], Ac fp le lp lb il tf tz bf rf fr mp sc ifp ib ie pw dh rl rb re sy sb rc sg ex)) k_L_protect_7 kc_L_protect_7 rfl ⟨trivial, trivial⟩ ?_
    refine Run.br (tgt := 17) d_L_protect_8 rfl (by decide) (fun c_2 => ?_) (fun c_2 => ?_)
    · exfalso; simp only [← Int32.toInt_inj, Int32.lt_iff_toInt_lt, Int32.le_iff_toInt_le, t0, t1, t2, t4, t64, ti7, ti8, ti900, tim1] at c_2; omega
    · refine Run.blk (gs := [True, True]) (S' := ([some (.ref 0), some (.int (nI p)), some (.int y), none], [.int (7 : Int32), .int y], Ac fp le lp lb il tf tz bf rf fr mp sc ifp ib ie pw dh rl rb re sy sb rc sg ex)) k_L_protect_11 kc_L_protect_11 rfl ⟨trivial, trivial, trivial⟩ ?_
      refine Run.br (tgt := 20) d_L_protect_14 rfl (by decide) (fun c_3 => ?_) (fun c_3 => ?_)
      · refine Run.blk (gs := [True, True, True]) (S' := ([some (.ref 0), some (.int (nI p)), some (.int y), none], [.int (nI p), .ref 3], Ac fp le lp lb il tf tz bf rf fr mp sc ifp ib ie pw dh rl rb re sy sb rc sg ex)) k_L_protect_20 kc_L_protect_20 rfl ⟨trivial, trivial, trivial, trivial⟩ ?_
        refine Run.callV (b := 3) (As := [.int (nI p)]) (rest := []) v_L_protect_25 c_P_rightsOf rfl (Nat.le_of_ble_eq_true rfl) rfl rfl rfl rfl (fun r cs' hp => ?_)
        obtain ⟨rfl, rfl⟩ := hp
        show Run _ _ _ _ 28 ([some (.ref 0), some (.int (nI p)), some (.int y), none], [.int (rO rf (nI p))], Ac fp le lp lb il tf tz bf rf fr mp sc ifp ib ie pw dh rl rb re sy sb rc sg ex) _
        refine Run.blk (gs := [True, True, True]) (S' := ([some (.ref 0), some (.int (nI p)), some (.int y), some (.int (rO rf (nI p)))], [.int (-1 : Int32), .int (rO rf (nI p))], Ac fp le lp lb il tf tz bf rf fr mp sc ifp ib ie pw dh rl rb re sy sb rc sg ex)) k_L_protect_28 kc_L_protect_28 rfl ⟨trivial, trivial, trivial, trivial⟩ ?_
        refine Run.br (tgt := 37) d_L_protect_31 rfl (by decide) (fun c_4 => ?_) (fun c_4 => ?_)
        · rw [rO_in hp] at c_4
          exact absurd hr c_4
        · have c_4 := Classical.not_not.mp c_4
          rw [rO_in hp] at c_4
          refine Run.blk (gs := [True]) (S' := ([some (.ref 0), some (.int (nI p)), some (.int y), some (.int (rO rf (nI p)))], [.int (-3 : Int32)], Ac fp le lp lb il tf tz bf rf fr mp sc ifp ib ie pw dh rl rb re sy sb rc sg ex)) k_L_protect_34 kc_L_protect_34 rfl ⟨trivial, trivial⟩ ?_
          exact Run.ret (r := some (.int (-3 : Int32))) ⟨d_L_protect_36, _, rfl, rfl⟩ ⟨rfl, rfl⟩
      · exfalso; simp only [← Int32.toInt_inj, Int32.lt_iff_toInt_lt, Int32.le_iff_toInt_le, t0, t1, t2, t4, t64, ti7, ti8, ti900, tim1] at c_3; omega
set_option maxRecDepth 100000 in
set_option maxHeartbeats 4000000 in
theorem c_L_protect_C {p : Nat} {x y : Int32} (hx : x = nI p) (hp : p < 64) (hy : 0 ≤ y.toInt ∧ y.toInt ≤ 7) (hr : ¬ rf p = -1) : Ct m_L_protect 0 0 [.ref 0, .int x, .int y] (Ac fp le lp lb il tf tz bf rf fr mp sc ifp ib ie pw dh rl rb re sy sb rc sg ex) (vm_is (some (.int (rf p))) (Ac fp le lp lb il tf tz bf (upd rf p y) fr mp sc ifp ib ie pw dh rl rb re sy sb rc sg ex)) := by
  subst hx
  refine Ct.of ⟨by decide +kernel, rfl⟩ (Nat.le_of_ble_eq_true rfl) (lv := [some (.ref 0), some (.int (nI p)), some (.int y), none]) rfl ?_
  refine Run.blk (gs := [True]) (S' := ([some (.ref 0), some (.int (nI p)), some (.int y), none], [.int (nI p)], Ac fp le lp lb il tf tz bf rf fr mp sc ifp ib ie pw dh rl rb re sy sb rc sg ex)) k_L_protect_0 kc_L_protect_0 rfl ⟨trivial, trivial⟩ ?_
  refine Run.callS (As := [.int (nI p)]) (rest := []) v_L_protect_1 (c_L_isPage (nI p)) rfl (Nat.le_of_ble_eq_true rfl) rfl (fun r cs' hp => ?_)
  obtain ⟨rfl, rfl⟩ := hp
  show Run _ _ _ _ 4 ([some (.ref 0), some (.int (nI p)), some (.int y), none], [.int (if 0 ≤ (nI p).toInt ∧ (nI p).toInt < 64 then 1 else 0)], Ac fp le lp lb il tf tz bf rf fr mp sc ifp ib ie pw dh rl rb re sy sb rc sg ex) _
  refine Run.br (tgt := 17) d_L_protect_4 rfl (by decide) (fun c_1 => ?_) (fun c_1 => ?_)
  · have c_1 := zi_f c_1
    exfalso; apply c_1; rw [nI_toInt (show p < 2 ^ 31 by omega)]; omega
  · have c_1 := zi_t c_1
    refine Run.blk (gs := [True]) (S' := ([some (.ref 0), some (.int (nI p)), some (.int y), none], [.int y], Ac fp le lp lb il tf tz bf rf fr mp sc ifp ib ie pw dh rl rb re sy sb rc sg ex)) k_L_protect_7 kc_L_protect_7 rfl ⟨trivial, trivial⟩ ?_
    refine Run.br (tgt := 17) d_L_protect_8 rfl (by decide) (fun c_2 => ?_) (fun c_2 => ?_)
    · exfalso; simp only [← Int32.toInt_inj, Int32.lt_iff_toInt_lt, Int32.le_iff_toInt_le, t0, t1, t2, t4, t64, ti7, ti8, ti900, tim1] at c_2; omega
    · refine Run.blk (gs := [True, True]) (S' := ([some (.ref 0), some (.int (nI p)), some (.int y), none], [.int (7 : Int32), .int y], Ac fp le lp lb il tf tz bf rf fr mp sc ifp ib ie pw dh rl rb re sy sb rc sg ex)) k_L_protect_11 kc_L_protect_11 rfl ⟨trivial, trivial, trivial⟩ ?_
      refine Run.br (tgt := 20) d_L_protect_14 rfl (by decide) (fun c_3 => ?_) (fun c_3 => ?_)
      · refine Run.blk (gs := [True, True, True]) (S' := ([some (.ref 0), some (.int (nI p)), some (.int y), none], [.int (nI p), .ref 3], Ac fp le lp lb il tf tz bf rf fr mp sc ifp ib ie pw dh rl rb re sy sb rc sg ex)) k_L_protect_20 kc_L_protect_20 rfl ⟨trivial, trivial, trivial, trivial⟩ ?_
        refine Run.callV (b := 3) (As := [.int (nI p)]) (rest := []) v_L_protect_25 c_P_rightsOf rfl (Nat.le_of_ble_eq_true rfl) rfl rfl rfl rfl (fun r cs' hp => ?_)
        obtain ⟨rfl, rfl⟩ := hp
        show Run _ _ _ _ 28 ([some (.ref 0), some (.int (nI p)), some (.int y), none], [.int (rO rf (nI p))], Ac fp le lp lb il tf tz bf rf fr mp sc ifp ib ie pw dh rl rb re sy sb rc sg ex) _
        refine Run.blk (gs := [True, True, True]) (S' := ([some (.ref 0), some (.int (nI p)), some (.int y), some (.int (rO rf (nI p)))], [.int (-1 : Int32), .int (rO rf (nI p))], Ac fp le lp lb il tf tz bf rf fr mp sc ifp ib ie pw dh rl rb re sy sb rc sg ex)) k_L_protect_28 kc_L_protect_28 rfl ⟨trivial, trivial, trivial, trivial⟩ ?_
        refine Run.br (tgt := 37) d_L_protect_31 rfl (by decide) (fun c_4 => ?_) (fun c_4 => ?_)
        · rw [rO_in hp] at c_4
          refine Run.blk (gs := [True, True, True, True]) (S' := ([some (.ref 0), some (.int (nI p)), some (.int y), some (.int (rO rf (nI p)))], [.int y, .int (nI p), .ref 3], Ac fp le lp lb il tf tz bf rf fr mp sc ifp ib ie pw dh rl rb re sy sb rc sg ex)) k_L_protect_37 kc_L_protect_37 rfl ⟨trivial, trivial, trivial, trivial, trivial⟩ ?_
          refine Run.callV (b := 3) (As := [.int (nI p), .int y]) (rest := []) v_L_protect_43 (c_P_setRights (p := p) rfl hp) rfl (Nat.le_of_ble_eq_true rfl) rfl rfl rfl rfl (fun r cs' hp => ?_)
          obtain ⟨rfl, rfl⟩ := hp
          show Run _ _ _ _ 46 ([some (.ref 0), some (.int (nI p)), some (.int y), some (.int (rO rf (nI p)))], [], Ac fp le lp lb il tf tz bf (upd rf p y) fr mp sc ifp ib ie pw dh rl rb re sy sb rc sg ex) _
          refine Run.blk (gs := [True]) (S' := ([some (.ref 0), some (.int (nI p)), some (.int y), some (.int (rO rf (nI p)))], [.int (rO rf (nI p))], Ac fp le lp lb il tf tz bf (upd rf p y) fr mp sc ifp ib ie pw dh rl rb re sy sb rc sg ex)) k_L_protect_46 kc_L_protect_46 rfl ⟨trivial, trivial⟩ ?_
          exact Run.ret (r := some (.int (rO rf (nI p)))) ⟨d_L_protect_47, _, rfl, rfl⟩ ⟨by rw [rO_in hp], rfl⟩
        · have c_4 := Classical.not_not.mp c_4
          rw [rO_in hp] at c_4
          exact absurd c_4 hr
      · exfalso; simp only [← Int32.toInt_inj, Int32.lt_iff_toInt_lt, Int32.le_iff_toInt_le, t0, t1, t2, t4, t64, ti7, ti8, ti900, tim1] at c_3; omega
set_option maxRecDepth 100000 in
set_option maxHeartbeats 4000000 in
theorem c_L_rights_A {x : Int32} (hx : ¬ (0 ≤ x.toInt ∧ x.toInt < 64)) : Ct m_L_rights 0 0 [.ref 0, .int x] (Ac fp le lp lb il tf tz bf rf fr mp sc ifp ib ie pw dh rl rb re sy sb rc sg ex) (vm_is (some (.int (-2 : Int32))) (Ac fp le lp lb il tf tz bf rf fr mp sc ifp ib ie pw dh rl rb re sy sb rc sg ex)) := by
  refine Ct.of ⟨by decide +kernel, rfl⟩ (Nat.le_of_ble_eq_true rfl) (lv := [some (.ref 0), some (.int x)]) rfl ?_
  refine Run.blk (gs := [True]) (S' := ([some (.ref 0), some (.int x)], [.int x], Ac fp le lp lb il tf tz bf rf fr mp sc ifp ib ie pw dh rl rb re sy sb rc sg ex)) k_L_rights_0 kc_L_rights_0 rfl ⟨trivial, trivial⟩ ?_
  refine Run.callS (As := [.int x]) (rest := []) v_L_rights_1 (c_L_isPage x) rfl (Nat.le_of_ble_eq_true rfl) rfl (fun r cs' hp => ?_)
  obtain ⟨rfl, rfl⟩ := hp
  show Run _ _ _ _ 4 ([some (.ref 0), some (.int x)], [.int (if 0 ≤ x.toInt ∧ x.toInt < 64 then 1 else 0)], Ac fp le lp lb il tf tz bf rf fr mp sc ifp ib ie pw dh rl rb re sy sb rc sg ex) _
  refine Run.br (tgt := 18) d_L_rights_4 rfl (by decide) (fun c_1 => ?_) (fun c_1 => ?_)
  · have c_1 := zi_f c_1
    refine Run.blk (gs := [True]) (S' := ([some (.ref 0), some (.int x)], [.int (-2 : Int32)], Ac fp le lp lb il tf tz bf rf fr mp sc ifp ib ie pw dh rl rb re sy sb rc sg ex)) k_L_rights_18 kc_L_rights_18 rfl ⟨trivial, trivial⟩ ?_
    exact Run.ret (r := some (.int (-2 : Int32))) ⟨d_L_rights_20, _, rfl, rfl⟩ ⟨rfl, rfl⟩
  · have c_1 := zi_t c_1
    exact absurd c_1 hx
set_option maxRecDepth 100000 in
set_option maxHeartbeats 4000000 in
theorem c_L_rights_B {p : Nat} {x : Int32} (hx : x = nI p) (hp : p < 64) : Ct m_L_rights 0 0 [.ref 0, .int x] (Ac fp le lp lb il tf tz bf rf fr mp sc ifp ib ie pw dh rl rb re sy sb rc sg ex) (vm_is (some (.int (rf p))) (Ac fp le lp lb il tf tz bf rf fr mp sc ifp ib ie pw dh rl rb re sy sb rc sg ex)) := by
  subst hx
  refine Ct.of ⟨by decide +kernel, rfl⟩ (Nat.le_of_ble_eq_true rfl) (lv := [some (.ref 0), some (.int (nI p))]) rfl ?_
  refine Run.blk (gs := [True]) (S' := ([some (.ref 0), some (.int (nI p))], [.int (nI p)], Ac fp le lp lb il tf tz bf rf fr mp sc ifp ib ie pw dh rl rb re sy sb rc sg ex)) k_L_rights_0 kc_L_rights_0 rfl ⟨trivial, trivial⟩ ?_
  refine Run.callS (As := [.int (nI p)]) (rest := []) v_L_rights_1 (c_L_isPage (nI p)) rfl (Nat.le_of_ble_eq_true rfl) rfl (fun r cs' hp => ?_)
  obtain ⟨rfl, rfl⟩ := hp
  show Run _ _ _ _ 4 ([some (.ref 0), some (.int (nI p))], [.int (if 0 ≤ (nI p).toInt ∧ (nI p).toInt < 64 then 1 else 0)], Ac fp le lp lb il tf tz bf rf fr mp sc ifp ib ie pw dh rl rb re sy sb rc sg ex) _
  refine Run.br (tgt := 18) d_L_rights_4 rfl (by decide) (fun c_1 => ?_) (fun c_1 => ?_)
  · have c_1 := zi_f c_1
    exfalso; apply c_1; rw [nI_toInt (show p < 2 ^ 31 by omega)]; omega
  · have c_1 := zi_t c_1
    refine Run.blk (gs := [True, True, True]) (S' := ([some (.ref 0), some (.int (nI p))], [.int (nI p), .ref 3], Ac fp le lp lb il tf tz bf rf fr mp sc ifp ib ie pw dh rl rb re sy sb rc sg ex)) k_L_rights_7 kc_L_rights_7 rfl ⟨trivial, trivial, trivial, trivial⟩ ?_
    refine Run.callV (b := 3) (As := [.int (nI p)]) (rest := []) v_L_rights_12 c_P_rightsOf rfl (Nat.le_of_ble_eq_true rfl) rfl rfl rfl rfl (fun r cs' hp => ?_)
    obtain ⟨rfl, rfl⟩ := hp
    show Run _ _ _ _ 15 ([some (.ref 0), some (.int (nI p))], [.int (rO rf (nI p))], Ac fp le lp lb il tf tz bf rf fr mp sc ifp ib ie pw dh rl rb re sy sb rc sg ex) _
    refine Run.goto (tgt := 20) d_L_rights_15 (by decide) ?_
    exact Run.ret (r := some (.int (rO rf (nI p)))) ⟨d_L_rights_20, _, rfl, rfl⟩ ⟨by rw [rO_in hp], rfl⟩
set_option maxRecDepth 100000 in
set_option maxHeartbeats 4000000 in
theorem c_L_unmap_A {x y : Int32} (hx : ¬ (1 ≤ y.toInt ∧ 0 ≤ x.toInt ∧ x.toInt + y.toInt ≤ 64)) : Ct m_L_unmap 0 0 [.ref 0, .int x, .int y] (Ac fp le lp lb il tf tz bf rf fr mp sc ifp ib ie pw dh rl rb re sy sb rc sg ex) (vm_is (some (.int (-2 : Int32))) (Ac fp le lp lb il tf tz bf rf fr mp sc ifp ib ie pw dh rl rb re sy sb rc sg ex)) := by
  refine Ct.of ⟨by decide +kernel, rfl⟩ (Nat.le_of_ble_eq_true rfl) (lv := [some (.ref 0), some (.int x), some (.int y), none]) rfl ?_
  refine Run.blk (gs := [True, True]) (S' := ([some (.ref 0), some (.int x), some (.int y), none], [.int (1 : Int32), .int y], Ac fp le lp lb il tf tz bf rf fr mp sc ifp ib ie pw dh rl rb re sy sb rc sg ex)) k_L_unmap_0 kc_L_unmap_0 rfl ⟨trivial, trivial, trivial⟩ ?_
  refine Run.br (tgt := 13) d_L_unmap_2 rfl (by decide) (fun c_1 => ?_) (fun c_1 => ?_)
  · refine Run.blk (gs := [True]) (S' := ([some (.ref 0), some (.int x), some (.int y), none], [.int (-2 : Int32)], Ac fp le lp lb il tf tz bf rf fr mp sc ifp ib ie pw dh rl rb re sy sb rc sg ex)) k_L_unmap_13 kc_L_unmap_13 rfl ⟨trivial, trivial⟩ ?_
    exact Run.ret (r := some (.int (-2 : Int32))) ⟨d_L_unmap_15, _, rfl, rfl⟩ ⟨rfl, rfl⟩
  · refine Run.blk (gs := [True, True]) (S' := ([some (.ref 0), some (.int x), some (.int y), none], [.int y, .int x], Ac fp le lp lb il tf tz bf rf fr mp sc ifp ib ie pw dh rl rb re sy sb rc sg ex)) k_L_unmap_5 kc_L_unmap_5 rfl ⟨trivial, trivial, trivial⟩ ?_
    refine Run.callS (As := [.int x, .int y]) (rest := []) v_L_unmap_7 (c_L_arePages x y) rfl (Nat.le_of_ble_eq_true rfl) rfl (fun r cs' hp => ?_)
    obtain ⟨rfl, rfl⟩ := hp
    show Run _ _ _ _ 10 ([some (.ref 0), some (.int x), some (.int y), none], [.int (if y.toInt = 0 ∨ (0 < y.toInt ∧ y.toInt ≤ 64 ∧ 0 ≤ x.toInt ∧ x.toInt ≤ 64 - y.toInt) then 1 else 0)], Ac fp le lp lb il tf tz bf rf fr mp sc ifp ib ie pw dh rl rb re sy sb rc sg ex) _
    refine Run.br (tgt := 16) d_L_unmap_10 rfl (by decide) (fun c_2 => ?_) (fun c_2 => ?_)
    · have c_2 := zi_t c_2
      exfalso; simp only [← Int32.toInt_inj, Int32.lt_iff_toInt_lt, Int32.le_iff_toInt_le, t0, t1, t2, t4, t64, ti7, ti8, ti900, tim1] at *; omega
    · have c_2 := zi_f (Classical.not_not.mp c_2)
      refine Run.blk (gs := [True]) (S' := ([some (.ref 0), some (.int x), some (.int y), none], [.int (-2 : Int32)], Ac fp le lp lb il tf tz bf rf fr mp sc ifp ib ie pw dh rl rb re sy sb rc sg ex)) k_L_unmap_13 kc_L_unmap_13 rfl ⟨trivial, trivial⟩ ?_
      exact Run.ret (r := some (.int (-2 : Int32))) ⟨d_L_unmap_15, _, rfl, rfl⟩ ⟨rfl, rfl⟩
theorem sub_sub_self (m a : Int32) : m - (m - a) = a := by
  apply Int32.toBitVec_inj.mp
  rw [Int32.toBitVec_sub, Int32.toBitVec_sub]
  apply BitVec.eq_of_toNat_eq
  rw [BitVec.toNat_sub, BitVec.toNat_sub]
  have h1 := m.toBitVec.isLt
  have h2 := a.toBitVec.isLt
  omega
set_option maxRecDepth 100000 in
set_option maxHeartbeats 4000000 in
theorem c_L_unmap_B {p k : Nat} {x y : Int32} (hx : x = nI p) (hy : y = nI k) (h1 : 1 ≤ k) (h2 : p + k ≤ 64) : Ct m_L_unmap 0 0 [.ref 0, .int x, .int y] (Ac fp le lp lb il tf tz bf rf fr mp sc ifp ib ie pw dh rl rb re sy sb rc sg ex) (vm_is (some (.int (nI (cntM rf p k)))) (Ac fp le lp lb il tf tz bf (fillI rf p k (-1)) fr (mp - nI (cntM rf p k)) sc ifp ib ie pw dh rl rb re sy sb rc sg ex)) := by
  subst hx
  subst hy
  refine Ct.of ⟨by decide +kernel, rfl⟩ (Nat.le_of_ble_eq_true rfl) (lv := [some (.ref 0), some (.int (nI p)), some (.int (nI k)), none]) rfl ?_
  refine Run.blk (gs := [True, True]) (S' := ([some (.ref 0), some (.int (nI p)), some (.int (nI k)), none], [.int (1 : Int32), .int (nI k)], Ac fp le lp lb il tf tz bf rf fr mp sc ifp ib ie pw dh rl rb re sy sb rc sg ex)) k_L_unmap_0 kc_L_unmap_0 rfl ⟨trivial, trivial, trivial⟩ ?_
  refine Run.br (tgt := 13) d_L_unmap_2 rfl (by decide) (fun c_1 => ?_) (fun c_1 => ?_)
  · exfalso; simp only [← Int32.toInt_inj, Int32.lt_iff_toInt_lt, Int32.le_iff_toInt_le, t0, t1, t2, t4, t64, ti7, ti8, ti900, tim1, nI_toInt (show k < 2 ^ 31 by omega)] at c_1; omega
  · refine Run.blk (gs := [True, True]) (S' := ([some (.ref 0), some (.int (nI p)), some (.int (nI k)), none], [.int (nI k), .int (nI p)], Ac fp le lp lb il tf tz bf rf fr mp sc ifp ib ie pw dh rl rb re sy sb rc sg ex)) k_L_unmap_5 kc_L_unmap_5 rfl ⟨trivial, trivial, trivial⟩ ?_
    refine Run.callS (As := [.int (nI p), .int (nI k)]) (rest := []) v_L_unmap_7 (c_L_arePages (nI p) (nI k)) rfl (Nat.le_of_ble_eq_true rfl) rfl (fun r cs' hp => ?_)
    obtain ⟨rfl, rfl⟩ := hp
    show Run _ _ _ _ 10 ([some (.ref 0), some (.int (nI p)), some (.int (nI k)), none], [.int (if (nI k).toInt = 0 ∨ (0 < (nI k).toInt ∧ (nI k).toInt ≤ 64 ∧ 0 ≤ (nI p).toInt ∧ (nI p).toInt ≤ 64 - (nI k).toInt) then 1 else 0)], Ac fp le lp lb il tf tz bf rf fr mp sc ifp ib ie pw dh rl rb re sy sb rc sg ex) _
    refine Run.br (tgt := 16) d_L_unmap_10 rfl (by decide) (fun c_2 => ?_) (fun c_2 => ?_)
    · have c_2 := zi_t c_2
      refine Run.blk (gs := [True, True]) (S' := ([some (.ref 0), some (.int (nI p)), some (.int (nI k)), none], [.ref 3], Ac fp le lp lb il tf tz bf rf fr mp sc ifp ib ie pw dh rl rb re sy sb rc sg ex)) k_L_unmap_16 kc_L_unmap_16 rfl ⟨trivial, trivial, trivial⟩ ?_
      refine Run.callV (b := 3) (As := []) (rest := []) v_L_unmap_20 c_P_mappedPages rfl (Nat.le_of_ble_eq_true rfl) rfl rfl rfl rfl (fun r cs' hp => ?_)
      obtain ⟨rfl, rfl⟩ := hp
      show Run _ _ _ _ 23 ([some (.ref 0), some (.int (nI p)), some (.int (nI k)), none], [.int mp], Ac fp le lp lb il tf tz bf rf fr mp sc ifp ib ie pw dh rl rb re sy sb rc sg ex) _
      refine Run.blk (gs := [True, True, True, True, True, True, True, True, True]) (S' := ([some (.ref 0), some (.int (nI p)), some (.int (nI k)), some (.int mp)], [.int (((nI p) + (nI k)) - (1 : Int32)), .int (nI p), .ref 3], Ac fp le lp lb il tf tz bf rf fr mp sc ifp ib ie pw dh rl rb re sy sb rc sg ex)) k_L_unmap_23 kc_L_unmap_23 rfl ⟨trivial, trivial, trivial, trivial, trivial, trivial, trivial, trivial, trivial, trivial⟩ ?_
      refine Run.callV (b := 3) (As := [.int (nI p), .int (((nI p) + (nI k)) - (1 : Int32))]) (rest := []) v_L_unmap_34 (c_P_releaseAll (a := p) (c := p + k) rfl (by rw [i32_sub (by rw [nI_add, nI_toInt (by omega)]; omega) (by rw [nI_add, nI_toInt (by omega)]; omega) (by decide) (by decide), nI_add, nI_toInt (by omega), t1]) (by omega) (by omega)) rfl (Nat.le_of_ble_eq_true rfl) rfl rfl rfl rfl (fun r cs' hp => ?_)
      obtain ⟨rfl, rfl⟩ := hp
      show Run _ _ _ _ 37 ([some (.ref 0), some (.int (nI p)), some (.int (nI k)), some (.int mp)], [], Ac fp le lp lb il tf tz bf (fillI rf p (p + k - p) (-1)) fr (mp - nI (cntM rf p (p + k - p))) sc ifp ib ie pw dh rl rb re sy sb rc sg ex) _
      refine Run.blk (gs := [True, True, True]) (S' := ([some (.ref 0), some (.int (nI p)), some (.int (nI k)), some (.int mp)], [.ref 3, .int mp], Ac fp le lp lb il tf tz bf (fillI rf p (p + k - p) (-1)) fr (mp - nI (cntM rf p (p + k - p))) sc ifp ib ie pw dh rl rb re sy sb rc sg ex)) k_L_unmap_37 kc_L_unmap_37 rfl ⟨trivial, trivial, trivial, trivial⟩ ?_
      refine Run.callV (b := 3) (As := []) (rest := [.int mp]) v_L_unmap_42 c_P_mappedPages rfl (Nat.le_of_ble_eq_true rfl) rfl rfl rfl rfl (fun r cs' hp => ?_)
      obtain ⟨rfl, rfl⟩ := hp
      show Run _ _ _ _ 45 ([some (.ref 0), some (.int (nI p)), some (.int (nI k)), some (.int mp)], [.int (mp - nI (cntM rf p (p + k - p))), .int mp], Ac fp le lp lb il tf tz bf (fillI rf p (p + k - p) (-1)) fr (mp - nI (cntM rf p (p + k - p))) sc ifp ib ie pw dh rl rb re sy sb rc sg ex) _
      refine Run.blk (gs := [True]) (S' := ([some (.ref 0), some (.int (nI p)), some (.int (nI k)), some (.int mp)], [.int (mp - (mp - nI (cntM rf p (p + k - p))))], Ac fp le lp lb il tf tz bf (fillI rf p (p + k - p) (-1)) fr (mp - nI (cntM rf p (p + k - p))) sc ifp ib ie pw dh rl rb re sy sb rc sg ex)) k_L_unmap_45 kc_L_unmap_45 rfl ⟨trivial, trivial⟩ ?_
      have e9 : p + k - p = k := by omega
      rw [e9]
      exact Run.ret (r := some (.int (mp - (mp - nI (cntM rf p k))))) ⟨d_L_unmap_46, _, rfl, rfl⟩ ⟨by rw [sub_sub_self], rfl⟩
    · have c_2 := zi_f (Classical.not_not.mp c_2)
      exfalso; apply c_2; rw [nI_toInt (show p < 2 ^ 31 by omega), nI_toInt (show k < 2 ^ 31 by omega)]; omega
set_option maxRecDepth 100000 in
set_option maxHeartbeats 4000000 in
theorem c_L_told_0  : Ct m_L_told 0 0 [.ref 0, .int (0 : Int32)] (Ac fp le lp lb il tf tz bf rf fr mp sc ifp ib ie pw dh rl rb re sy sb rc sg ex) (vm_is (some (.int fp)) (Ac fp le lp lb il tf tz bf rf fr mp sc ifp ib ie pw dh rl rb re sy sb rc sg ex)) := by
  refine Ct.of ⟨by decide +kernel, rfl⟩ (Nat.le_of_ble_eq_true rfl) (lv := [some (.ref 0), some (.int (0 : Int32))]) rfl ?_
  refine Run.blk (gs := [True]) (S' := ([some (.ref 0), some (.int (0 : Int32))], [.int (0 : Int32)], Ac fp le lp lb il tf tz bf rf fr mp sc ifp ib ie pw dh rl rb re sy sb rc sg ex)) k_L_told_0 kc_L_told_0 rfl ⟨trivial, trivial⟩ ?_
  refine Run.tsIn (tgt := 32) (off := 31) d_L_told_1 (by decide) (by decide) (by decide) (by decide) ?_
  refine Run.blk (gs := [True, True]) (S' := ([some (.ref 0), some (.int (0 : Int32))], [.int fp], Ac fp le lp lb il tf tz bf rf fr mp sc ifp ib ie pw dh rl rb re sy sb rc sg ex)) k_L_told_32 kc_L_told_32 rfl ⟨trivial, trivial, trivial⟩ ?_
  exact Run.ret (r := some (.int fp)) ⟨d_L_told_36, _, rfl, rfl⟩ ⟨rfl, rfl⟩
set_option maxRecDepth 100000 in
set_option maxHeartbeats 4000000 in
theorem c_L_told_1  : Ct m_L_told 0 0 [.ref 0, .int (1 : Int32)] (Ac fp le lp lb il tf tz bf rf fr mp sc ifp ib ie pw dh rl rb re sy sb rc sg ex) (vm_is (some (.int le)) (Ac fp le lp lb il tf tz bf rf fr mp sc ifp ib ie pw dh rl rb re sy sb rc sg ex)) := by
  refine Ct.of ⟨by decide +kernel, rfl⟩ (Nat.le_of_ble_eq_true rfl) (lv := [some (.ref 0), some (.int (1 : Int32))]) rfl ?_
  refine Run.blk (gs := [True]) (S' := ([some (.ref 0), some (.int (1 : Int32))], [.int (1 : Int32)], Ac fp le lp lb il tf tz bf rf fr mp sc ifp ib ie pw dh rl rb re sy sb rc sg ex)) k_L_told_0 kc_L_told_0 rfl ⟨trivial, trivial⟩ ?_
  refine Run.tsIn (tgt := 37) (off := 36) d_L_told_1 (by decide) (by decide) (by decide) (by decide) ?_
  refine Run.blk (gs := [True, True]) (S' := ([some (.ref 0), some (.int (1 : Int32))], [.int le], Ac fp le lp lb il tf tz bf rf fr mp sc ifp ib ie pw dh rl rb re sy sb rc sg ex)) k_L_told_37 kc_L_told_37 rfl ⟨trivial, trivial, trivial⟩ ?_
  exact Run.ret (r := some (.int le)) ⟨d_L_told_41, _, rfl, rfl⟩ ⟨rfl, rfl⟩
set_option maxRecDepth 100000 in
set_option maxHeartbeats 4000000 in
theorem c_L_told_2  : Ct m_L_told 0 0 [.ref 0, .int (2 : Int32)] (Ac fp le lp lb il tf tz bf rf fr mp sc ifp ib ie pw dh rl rb re sy sb rc sg ex) (vm_is (some (.int lp)) (Ac fp le lp lb il tf tz bf rf fr mp sc ifp ib ie pw dh rl rb re sy sb rc sg ex)) := by
  refine Ct.of ⟨by decide +kernel, rfl⟩ (Nat.le_of_ble_eq_true rfl) (lv := [some (.ref 0), some (.int (2 : Int32))]) rfl ?_
  refine Run.blk (gs := [True]) (S' := ([some (.ref 0), some (.int (2 : Int32))], [.int (2 : Int32)], Ac fp le lp lb il tf tz bf rf fr mp sc ifp ib ie pw dh rl rb re sy sb rc sg ex)) k_L_told_0 kc_L_told_0 rfl ⟨trivial, trivial⟩ ?_
  refine Run.tsIn (tgt := 42) (off := 41) d_L_told_1 (by decide) (by decide) (by decide) (by decide) ?_
  refine Run.blk (gs := [True, True]) (S' := ([some (.ref 0), some (.int (2 : Int32))], [.int lp], Ac fp le lp lb il tf tz bf rf fr mp sc ifp ib ie pw dh rl rb re sy sb rc sg ex)) k_L_told_42 kc_L_told_42 rfl ⟨trivial, trivial, trivial⟩ ?_
  exact Run.ret (r := some (.int lp)) ⟨d_L_told_46, _, rfl, rfl⟩ ⟨rfl, rfl⟩
set_option maxRecDepth 100000 in
set_option maxHeartbeats 4000000 in
theorem c_L_told_3  : Ct m_L_told 0 0 [.ref 0, .int (3 : Int32)] (Ac fp le lp lb il tf tz bf rf fr mp sc ifp ib ie pw dh rl rb re sy sb rc sg ex) (vm_is (some (.int lb)) (Ac fp le lp lb il tf tz bf rf fr mp sc ifp ib ie pw dh rl rb re sy sb rc sg ex)) := by
  refine Ct.of ⟨by decide +kernel, rfl⟩ (Nat.le_of_ble_eq_true rfl) (lv := [some (.ref 0), some (.int (3 : Int32))]) rfl ?_
  refine Run.blk (gs := [True]) (S' := ([some (.ref 0), some (.int (3 : Int32))], [.int (3 : Int32)], Ac fp le lp lb il tf tz bf rf fr mp sc ifp ib ie pw dh rl rb re sy sb rc sg ex)) k_L_told_0 kc_L_told_0 rfl ⟨trivial, trivial⟩ ?_
  refine Run.tsIn (tgt := 47) (off := 46) d_L_told_1 (by decide) (by decide) (by decide) (by decide) ?_
  refine Run.blk (gs := [True, True]) (S' := ([some (.ref 0), some (.int (3 : Int32))], [.int lb], Ac fp le lp lb il tf tz bf rf fr mp sc ifp ib ie pw dh rl rb re sy sb rc sg ex)) k_L_told_47 kc_L_told_47 rfl ⟨trivial, trivial, trivial⟩ ?_
  exact Run.ret (r := some (.int lb)) ⟨d_L_told_51, _, rfl, rfl⟩ ⟨rfl, rfl⟩
set_option maxRecDepth 100000 in
set_option maxHeartbeats 4000000 in
theorem c_L_told_A {x : Int32} (hx : x.toInt < 0 ∨ 3 < x.toInt) : Ct m_L_told 0 0 [.ref 0, .int x] (Ac fp le lp lb il tf tz bf rf fr mp sc ifp ib ie pw dh rl rb re sy sb rc sg ex) (vm_is (some (.int (-2 : Int32))) (Ac fp le lp lb il tf tz bf rf fr mp sc ifp ib ie pw dh rl rb re sy sb rc sg ex)) := by
  refine Ct.of ⟨by decide +kernel, rfl⟩ (Nat.le_of_ble_eq_true rfl) (lv := [some (.ref 0), some (.int x)]) rfl ?_
  refine Run.blk (gs := [True]) (S' := ([some (.ref 0), some (.int x)], [.int x], Ac fp le lp lb il tf tz bf rf fr mp sc ifp ib ie pw dh rl rb re sy sb rc sg ex)) k_L_told_0 kc_L_told_0 rfl ⟨trivial, trivial⟩ ?_
  refine Run.tsOut (tgt := 52) d_L_told_1 (by omega) (by decide) ?_
  refine Run.blk (gs := [True]) (S' := ([some (.ref 0), some (.int x)], [.int (-2 : Int32)], Ac fp le lp lb il tf tz bf rf fr mp sc ifp ib ie pw dh rl rb re sy sb rc sg ex)) k_L_told_52 kc_L_told_52 rfl ⟨trivial, trivial⟩ ?_
  exact Run.ret (r := some (.int (-2 : Int32))) ⟨d_L_told_54, _, rfl, rfl⟩ ⟨rfl, rfl⟩
set_option maxRecDepth 100000 in
set_option maxHeartbeats 4000000 in
theorem c_L_count_0  : Ct m_L_count 0 0 [.ref 0, .int (0 : Int32)] (Ac fp le lp lb il tf (nI z) bf rf fr mp sc ifp ib ie pw dh rl rb re sy sb rc sg ex) (vm_is (some (.int mp)) (Ac fp le lp lb il tf (nI z) bf rf fr mp sc ifp ib ie pw dh rl rb re sy sb rc sg ex)) := by
  refine Ct.of ⟨by decide +kernel, rfl⟩ (Nat.le_of_ble_eq_true rfl) (lv := [some (.ref 0), some (.int (0 : Int32))]) rfl ?_
  refine Run.blk (gs := [True]) (S' := ([some (.ref 0), some (.int (0 : Int32))], [.int (0 : Int32)], Ac fp le lp lb il tf (nI z) bf rf fr mp sc ifp ib ie pw dh rl rb re sy sb rc sg ex)) k_L_count_0 kc_L_count_0 rfl ⟨trivial, trivial⟩ ?_
  refine Run.tsIn (tgt := 44) (off := 43) d_L_count_1 (by decide) (by decide) (by decide) (by decide) ?_
  refine Run.blk (gs := [True, True]) (S' := ([some (.ref 0), some (.int (0 : Int32))], [.ref 3], Ac fp le lp lb il tf (nI z) bf rf fr mp sc ifp ib ie pw dh rl rb re sy sb rc sg ex)) k_L_count_44 kc_L_count_44 rfl ⟨trivial, trivial, trivial⟩ ?_
  refine Run.callV (b := 3) (As := []) (rest := []) v_L_count_48 c_P_mappedPages rfl (Nat.le_of_ble_eq_true rfl) rfl rfl rfl rfl (fun r cs' hp => ?_)
  obtain ⟨rfl, rfl⟩ := hp
  show Run _ _ _ _ 51 ([some (.ref 0), some (.int (0 : Int32))], [.int mp], Ac fp le lp lb il tf (nI z) bf rf fr mp sc ifp ib ie pw dh rl rb re sy sb rc sg ex) _
  exact Run.ret (r := some (.int mp)) ⟨d_L_count_51, _, rfl, rfl⟩ ⟨rfl, rfl⟩
set_option maxRecDepth 100000 in
set_option maxHeartbeats 4000000 in
theorem c_L_count_1  : Ct m_L_count 0 0 [.ref 0, .int (1 : Int32)] (Ac fp le lp lb il tf (nI z) bf rf fr mp sc ifp ib ie pw dh rl rb re sy sb rc sg ex) (vm_is (some (.int (nI (pwC rf (1 : Int32) 64)))) (Ac fp le lp lb il tf (nI z) bf rf fr mp sc ifp ib ie pw dh rl rb re sy sb rc sg ex)) := by
  refine Ct.of ⟨by decide +kernel, rfl⟩ (Nat.le_of_ble_eq_true rfl) (lv := [some (.ref 0), some (.int (1 : Int32))]) rfl ?_
  refine Run.blk (gs := [True]) (S' := ([some (.ref 0), some (.int (1 : Int32))], [.int (1 : Int32)], Ac fp le lp lb il tf (nI z) bf rf fr mp sc ifp ib ie pw dh rl rb re sy sb rc sg ex)) k_L_count_0 kc_L_count_0 rfl ⟨trivial, trivial⟩ ?_
  refine Run.tsIn (tgt := 52) (off := 51) d_L_count_1 (by decide) (by decide) (by decide) (by decide) ?_
  refine Run.blk (gs := [True, True, True]) (S' := ([some (.ref 0), some (.int (1 : Int32))], [.int (1 : Int32), .ref 3], Ac fp le lp lb il tf (nI z) bf rf fr mp sc ifp ib ie pw dh rl rb re sy sb rc sg ex)) k_L_count_52 kc_L_count_52 rfl ⟨trivial, trivial, trivial, trivial⟩ ?_
  refine Run.callV (b := 3) (As := [.int (1 : Int32)]) (rest := []) v_L_count_57 c_P_pagesWith rfl (Nat.le_of_ble_eq_true rfl) rfl rfl rfl rfl (fun r cs' hp => ?_)
  obtain ⟨rfl, rfl⟩ := hp
  show Run _ _ _ _ 60 ([some (.ref 0), some (.int (1 : Int32))], [.int (nI (pwC rf (1 : Int32) 64))], Ac fp le lp lb il tf (nI z) bf rf fr mp sc ifp ib ie pw dh rl rb re sy sb rc sg ex) _
  exact Run.ret (r := some (.int (nI (pwC rf (1 : Int32) 64)))) ⟨d_L_count_60, _, rfl, rfl⟩ ⟨rfl, rfl⟩
set_option maxRecDepth 100000 in
set_option maxHeartbeats 4000000 in
theorem c_L_count_2  : Ct m_L_count 0 0 [.ref 0, .int (2 : Int32)] (Ac fp le lp lb il tf (nI z) bf rf fr mp sc ifp ib ie pw dh rl rb re sy sb rc sg ex) (vm_is (some (.int (nI (pwC rf (2 : Int32) 64)))) (Ac fp le lp lb il tf (nI z) bf rf fr mp sc ifp ib ie pw dh rl rb re sy sb rc sg ex)) := by
  refine Ct.of ⟨by decide +kernel, rfl⟩ (Nat.le_of_ble_eq_true rfl) (lv := [some (.ref 0), some (.int (2 : Int32))]) rfl ?_
  refine Run.blk (gs := [True]) (S' := ([some (.ref 0), some (.int (2 : Int32))], [.int (2 : Int32)], Ac fp le lp lb il tf (nI z) bf rf fr mp sc ifp ib ie pw dh rl rb re sy sb rc sg ex)) k_L_count_0 kc_L_count_0 rfl ⟨trivial, trivial⟩ ?_
  refine Run.tsIn (tgt := 61) (off := 60) d_L_count_1 (by decide) (by decide) (by decide) (by decide) ?_
  refine Run.blk (gs := [True, True, True]) (S' := ([some (.ref 0), some (.int (2 : Int32))], [.int (2 : Int32), .ref 3], Ac fp le lp lb il tf (nI z) bf rf fr mp sc ifp ib ie pw dh rl rb re sy sb rc sg ex)) k_L_count_61 kc_L_count_61 rfl ⟨trivial, trivial, trivial, trivial⟩ ?_
  refine Run.callV (b := 3) (As := [.int (2 : Int32)]) (rest := []) v_L_count_66 c_P_pagesWith rfl (Nat.le_of_ble_eq_true rfl) rfl rfl rfl rfl (fun r cs' hp => ?_)
  obtain ⟨rfl, rfl⟩ := hp
  show Run _ _ _ _ 69 ([some (.ref 0), some (.int (2 : Int32))], [.int (nI (pwC rf (2 : Int32) 64))], Ac fp le lp lb il tf (nI z) bf rf fr mp sc ifp ib ie pw dh rl rb re sy sb rc sg ex) _
  exact Run.ret (r := some (.int (nI (pwC rf (2 : Int32) 64)))) ⟨d_L_count_69, _, rfl, rfl⟩ ⟨rfl, rfl⟩
set_option maxRecDepth 100000 in
set_option maxHeartbeats 4000000 in
theorem c_L_count_3  : Ct m_L_count 0 0 [.ref 0, .int (3 : Int32)] (Ac fp le lp lb il tf (nI z) bf rf fr mp sc ifp ib ie pw dh rl rb re sy sb rc sg ex) (vm_is (some (.int (nI (pwC rf (4 : Int32) 64)))) (Ac fp le lp lb il tf (nI z) bf rf fr mp sc ifp ib ie pw dh rl rb re sy sb rc sg ex)) := by
  refine Ct.of ⟨by decide +kernel, rfl⟩ (Nat.le_of_ble_eq_true rfl) (lv := [some (.ref 0), some (.int (3 : Int32))]) rfl ?_
  refine Run.blk (gs := [True]) (S' := ([some (.ref 0), some (.int (3 : Int32))], [.int (3 : Int32)], Ac fp le lp lb il tf (nI z) bf rf fr mp sc ifp ib ie pw dh rl rb re sy sb rc sg ex)) k_L_count_0 kc_L_count_0 rfl ⟨trivial, trivial⟩ ?_
  refine Run.tsIn (tgt := 70) (off := 69) d_L_count_1 (by decide) (by decide) (by decide) (by decide) ?_
  refine Run.blk (gs := [True, True, True]) (S' := ([some (.ref 0), some (.int (3 : Int32))], [.int (4 : Int32), .ref 3], Ac fp le lp lb il tf (nI z) bf rf fr mp sc ifp ib ie pw dh rl rb re sy sb rc sg ex)) k_L_count_70 kc_L_count_70 rfl ⟨trivial, trivial, trivial, trivial⟩ ?_
  refine Run.callV (b := 3) (As := [.int (4 : Int32)]) (rest := []) v_L_count_75 c_P_pagesWith rfl (Nat.le_of_ble_eq_true rfl) rfl rfl rfl rfl (fun r cs' hp => ?_)
  obtain ⟨rfl, rfl⟩ := hp
  show Run _ _ _ _ 78 ([some (.ref 0), some (.int (3 : Int32))], [.int (nI (pwC rf (4 : Int32) 64))], Ac fp le lp lb il tf (nI z) bf rf fr mp sc ifp ib ie pw dh rl rb re sy sb rc sg ex) _
  exact Run.ret (r := some (.int (nI (pwC rf (4 : Int32) 64)))) ⟨d_L_count_78, _, rfl, rfl⟩ ⟨rfl, rfl⟩
set_option maxRecDepth 100000 in
set_option maxHeartbeats 4000000 in
theorem c_L_count_4  : Ct m_L_count 0 0 [.ref 0, .int (4 : Int32)] (Ac fp le lp lb il tf (nI z) bf rf fr mp sc ifp ib ie pw dh rl rb re sy sb rc sg ex) (vm_is (some (.int (nI z))) (Ac fp le lp lb il tf (nI z) bf rf fr mp sc ifp ib ie pw dh rl rb re sy sb rc sg ex)) := by
  refine Ct.of ⟨by decide +kernel, rfl⟩ (Nat.le_of_ble_eq_true rfl) (lv := [some (.ref 0), some (.int (4 : Int32))]) rfl ?_
  refine Run.blk (gs := [True]) (S' := ([some (.ref 0), some (.int (4 : Int32))], [.int (4 : Int32)], Ac fp le lp lb il tf (nI z) bf rf fr mp sc ifp ib ie pw dh rl rb re sy sb rc sg ex)) k_L_count_0 kc_L_count_0 rfl ⟨trivial, trivial⟩ ?_
  refine Run.tsIn (tgt := 79) (off := 78) d_L_count_1 (by decide) (by decide) (by decide) (by decide) ?_
  refine Run.blk (gs := [True, True]) (S' := ([some (.ref 0), some (.int (4 : Int32))], [.ref 1], Ac fp le lp lb il tf (nI z) bf rf fr mp sc ifp ib ie pw dh rl rb re sy sb rc sg ex)) k_L_count_79 kc_L_count_79 rfl ⟨trivial, trivial, trivial⟩ ?_
  refine Run.callV (b := 1) (As := []) (rest := []) v_L_count_83 c_T_size rfl (Nat.le_of_ble_eq_true rfl) rfl rfl rfl rfl (fun r cs' hp => ?_)
  obtain ⟨rfl, rfl⟩ := hp
  show Run _ _ _ _ 86 ([some (.ref 0), some (.int (4 : Int32))], [.int (nI z)], Ac fp le lp lb il tf (nI z) bf rf fr mp sc ifp ib ie pw dh rl rb re sy sb rc sg ex) _
  exact Run.ret (r := some (.int (nI z))) ⟨d_L_count_86, _, rfl, rfl⟩ ⟨rfl, rfl⟩
set_option maxRecDepth 100000 in
set_option maxHeartbeats 4000000 in
theorem c_L_count_5  : Ct m_L_count 0 0 [.ref 0, .int (5 : Int32)] (Ac fp le lp lb il tf (nI z) bf rf fr mp sc ifp ib ie pw dh rl rb re sy sb rc sg ex) (vm_is (some (.int il)) (Ac fp le lp lb il tf (nI z) bf rf fr mp sc ifp ib ie pw dh rl rb re sy sb rc sg ex)) := by
  refine Ct.of ⟨by decide +kernel, rfl⟩ (Nat.le_of_ble_eq_true rfl) (lv := [some (.ref 0), some (.int (5 : Int32))]) rfl ?_
  refine Run.blk (gs := [True]) (S' := ([some (.ref 0), some (.int (5 : Int32))], [.int (5 : Int32)], Ac fp le lp lb il tf (nI z) bf rf fr mp sc ifp ib ie pw dh rl rb re sy sb rc sg ex)) k_L_count_0 kc_L_count_0 rfl ⟨trivial, trivial⟩ ?_
  refine Run.tsIn (tgt := 87) (off := 86) d_L_count_1 (by decide) (by decide) (by decide) (by decide) ?_
  refine Run.blk (gs := [True, True]) (S' := ([some (.ref 0), some (.int (5 : Int32))], [.int il], Ac fp le lp lb il tf (nI z) bf rf fr mp sc ifp ib ie pw dh rl rb re sy sb rc sg ex)) k_L_count_87 kc_L_count_87 rfl ⟨trivial, trivial, trivial⟩ ?_
  exact Run.ret (r := some (.int il)) ⟨d_L_count_91, _, rfl, rfl⟩ ⟨rfl, rfl⟩
set_option maxRecDepth 100000 in
set_option maxHeartbeats 4000000 in
theorem c_L_count_6  : Ct m_L_count 0 0 [.ref 0, .int (6 : Int32)] (Ac fp le lp lb il tf (nI z) bf rf fr mp sc ifp ib ie pw dh rl rb re sy sb rc sg ex) (vm_is (some (.int fr)) (Ac fp le lp lb il tf (nI z) bf rf fr mp sc ifp ib ie pw dh rl rb re sy sb rc sg ex)) := by
  refine Ct.of ⟨by decide +kernel, rfl⟩ (Nat.le_of_ble_eq_true rfl) (lv := [some (.ref 0), some (.int (6 : Int32))]) rfl ?_
  refine Run.blk (gs := [True]) (S' := ([some (.ref 0), some (.int (6 : Int32))], [.int (6 : Int32)], Ac fp le lp lb il tf (nI z) bf rf fr mp sc ifp ib ie pw dh rl rb re sy sb rc sg ex)) k_L_count_0 kc_L_count_0 rfl ⟨trivial, trivial⟩ ?_
  refine Run.tsIn (tgt := 92) (off := 91) d_L_count_1 (by decide) (by decide) (by decide) (by decide) ?_
  refine Run.blk (gs := [True, True]) (S' := ([some (.ref 0), some (.int (6 : Int32))], [.ref 3], Ac fp le lp lb il tf (nI z) bf rf fr mp sc ifp ib ie pw dh rl rb re sy sb rc sg ex)) k_L_count_92 kc_L_count_92 rfl ⟨trivial, trivial, trivial⟩ ?_
  refine Run.callV (b := 3) (As := []) (rest := []) v_L_count_96 c_P_frames rfl (Nat.le_of_ble_eq_true rfl) rfl rfl rfl rfl (fun r cs' hp => ?_)
  obtain ⟨rfl, rfl⟩ := hp
  show Run _ _ _ _ 99 ([some (.ref 0), some (.int (6 : Int32))], [.int fr], Ac fp le lp lb il tf (nI z) bf rf fr mp sc ifp ib ie pw dh rl rb re sy sb rc sg ex) _
  exact Run.ret (r := some (.int fr)) ⟨d_L_count_99, _, rfl, rfl⟩ ⟨rfl, rfl⟩
set_option maxRecDepth 100000 in
set_option maxHeartbeats 4000000 in
theorem c_L_count_A {x : Int32} (hx : x.toInt < 0 ∨ 6 < x.toInt) : Ct m_L_count 0 0 [.ref 0, .int x] (Ac fp le lp lb il tf tz bf rf fr mp sc ifp ib ie pw dh rl rb re sy sb rc sg ex) (vm_is (some (.int (-2 : Int32))) (Ac fp le lp lb il tf tz bf rf fr mp sc ifp ib ie pw dh rl rb re sy sb rc sg ex)) := by
  refine Ct.of ⟨by decide +kernel, rfl⟩ (Nat.le_of_ble_eq_true rfl) (lv := [some (.ref 0), some (.int x)]) rfl ?_
  refine Run.blk (gs := [True]) (S' := ([some (.ref 0), some (.int x)], [.int x], Ac fp le lp lb il tf tz bf rf fr mp sc ifp ib ie pw dh rl rb re sy sb rc sg ex)) k_L_count_0 kc_L_count_0 rfl ⟨trivial, trivial⟩ ?_
  refine Run.tsOut (tgt := 100) d_L_count_1 (by omega) (by decide) ?_
  refine Run.blk (gs := [True]) (S' := ([some (.ref 0), some (.int x)], [.int (-2 : Int32)], Ac fp le lp lb il tf tz bf rf fr mp sc ifp ib ie pw dh rl rb re sy sb rc sg ex)) k_L_count_100 kc_L_count_100 rfl ⟨trivial, trivial⟩ ?_
  exact Run.ret (r := some (.int (-2 : Int32))) ⟨d_L_count_102, _, rfl, rfl⟩ ⟨rfl, rfl⟩
set_option maxRecDepth 100000 in
set_option maxHeartbeats 4000000 in
theorem c_L_read_A {x y : Int32} (hr : ¬ f_P_refusal rf x y 4 = 0) : Ct m_L_read 0 0 [.ref 0, .int x, .int y] (Ac fp le lp lb il tf tz bf rf fr mp sc ifp ib ie pw dh rl rb re sy sb rc sg ex) (vm_is (some (.long ((f_P_refusal rf x y 4).toInt64))) (Ac fp le lp lb il tf tz bf rf fr mp sc ifp ib ie pw dh rl rb re sy sb rc sg ex)) := by
  refine Ct.of ⟨by decide +kernel, rfl⟩ (Nat.le_of_ble_eq_true rfl) (lv := [some (.ref 0), some (.int x), some (.int y), none]) rfl ?_
  refine Run.blk (gs := [True, True, True, True, True]) (S' := ([some (.ref 0), some (.int x), some (.int y), none], [.int (4 : Int32), .int y, .int x, .ref 3], Ac fp le lp lb il tf tz bf rf fr mp sc ifp ib ie pw dh rl rb re sy sb rc sg ex)) k_L_read_0 kc_L_read_0 rfl ⟨trivial, trivial, trivial, trivial, trivial, trivial⟩ ?_
  refine Run.callV (b := 3) (As := [.int x, .int y, .int (4 : Int32)]) (rest := []) v_L_read_7 c_P_refusal rfl (Nat.le_of_ble_eq_true rfl) rfl rfl rfl rfl (fun r cs' hp => ?_)
  obtain ⟨rfl, rfl⟩ := hp
  show Run _ _ _ _ 10 ([some (.ref 0), some (.int x), some (.int y), none], [.int (f_P_refusal rf x y (4 : Int32))], Ac fp le lp lb il tf tz bf rf fr mp sc ifp ib ie pw dh rl rb re sy sb rc sg ex) _
  refine Run.blk (gs := [True, True]) (S' := ([some (.ref 0), some (.int x), some (.int y), some (.int (f_P_refusal rf x y (4 : Int32)))], [.int (f_P_refusal rf x y (4 : Int32))], Ac fp le lp lb il tf tz bf rf fr mp sc ifp ib ie pw dh rl rb re sy sb rc sg ex)) k_L_read_10 kc_L_read_10 rfl ⟨trivial, trivial, trivial⟩ ?_
  refine Run.br (tgt := 27) d_L_read_12 rfl (by decide) (fun c_1 => ?_) (fun c_1 => ?_)
  · refine Run.blk (gs := [True, True]) (S' := ([some (.ref 0), some (.int x), some (.int y), some (.int (f_P_refusal rf x y (4 : Int32)))], [.long ((f_P_refusal rf x y (4 : Int32)).toInt64)], Ac fp le lp lb il tf tz bf rf fr mp sc ifp ib ie pw dh rl rb re sy sb rc sg ex)) k_L_read_27 kc_L_read_27 rfl ⟨trivial, trivial, trivial⟩ ?_
    exact Run.ret (r := some (.long ((f_P_refusal rf x y (4 : Int32)).toInt64))) ⟨d_L_read_29, rfl⟩ ⟨rfl, rfl⟩
  · have c_1 := Classical.not_not.mp c_1
    exact absurd c_1 hr
set_option maxRecDepth 100000 in
set_option maxHeartbeats 4000000 in
theorem c_L_fetch_A {x : Int32} (hr : ¬ f_P_refusal rf x 4 1 = 0) : Ct m_L_fetch 0 0 [.ref 0, .int x] (Ac fp le lp lb il tf tz bf rf fr mp sc ifp ib ie pw dh rl rb re sy sb rc sg ex) (vm_is (some (.long ((f_P_refusal rf x 4 1).toInt64))) (Ac fp le lp lb il tf tz bf rf fr mp sc ifp ib ie pw dh rl rb re sy sb rc sg ex)) := by
  refine Ct.of ⟨by decide +kernel, rfl⟩ (Nat.le_of_ble_eq_true rfl) (lv := [some (.ref 0), some (.int x), none]) rfl ?_
  refine Run.blk (gs := [True, True, True, True, True]) (S' := ([some (.ref 0), some (.int x), none], [.int (1 : Int32), .int (4 : Int32), .int x, .ref 3], Ac fp le lp lb il tf tz bf rf fr mp sc ifp ib ie pw dh rl rb re sy sb rc sg ex)) k_L_fetch_0 kc_L_fetch_0 rfl ⟨trivial, trivial, trivial, trivial, trivial, trivial⟩ ?_
  refine Run.callV (b := 3) (As := [.int x, .int (4 : Int32), .int (1 : Int32)]) (rest := []) v_L_fetch_7 c_P_refusal rfl (Nat.le_of_ble_eq_true rfl) rfl rfl rfl rfl (fun r cs' hp => ?_)
  obtain ⟨rfl, rfl⟩ := hp
  show Run _ _ _ _ 10 ([some (.ref 0), some (.int x), none], [.int (f_P_refusal rf x (4 : Int32) (1 : Int32))], Ac fp le lp lb il tf tz bf rf fr mp sc ifp ib ie pw dh rl rb re sy sb rc sg ex) _
  refine Run.blk (gs := [True, True]) (S' := ([some (.ref 0), some (.int x), some (.int (f_P_refusal rf x (4 : Int32) (1 : Int32)))], [.int (f_P_refusal rf x (4 : Int32) (1 : Int32))], Ac fp le lp lb il tf tz bf rf fr mp sc ifp ib ie pw dh rl rb re sy sb rc sg ex)) k_L_fetch_10 kc_L_fetch_10 rfl ⟨trivial, trivial, trivial⟩ ?_
  refine Run.br (tgt := 27) d_L_fetch_12 rfl (by decide) (fun c_1 => ?_) (fun c_1 => ?_)
  · refine Run.blk (gs := [True, True]) (S' := ([some (.ref 0), some (.int x), some (.int (f_P_refusal rf x (4 : Int32) (1 : Int32)))], [.long ((f_P_refusal rf x (4 : Int32) (1 : Int32)).toInt64)], Ac fp le lp lb il tf tz bf rf fr mp sc ifp ib ie pw dh rl rb re sy sb rc sg ex)) k_L_fetch_27 kc_L_fetch_27 rfl ⟨trivial, trivial, trivial⟩ ?_
    exact Run.ret (r := some (.long ((f_P_refusal rf x (4 : Int32) (1 : Int32)).toInt64))) ⟨d_L_fetch_29, rfl⟩ ⟨rfl, rfl⟩
  · have c_1 := Classical.not_not.mp c_1
    exact absurd c_1 hr
set_option maxRecDepth 100000 in
set_option maxHeartbeats 4000000 in
theorem c_L_write_A {x y v : Int32} (hr : ¬ f_P_refusal rf x y 2 = 0) : Ct m_L_write 0 0 [.ref 0, .int x, .int y, .int v] (Ac fp le lp lb il tf tz bf rf fr mp sc ifp ib ie pw dh rl rb re sy sb rc sg ex) (vm_is (some (.int (f_P_refusal rf x y 2))) (Ac fp le lp lb il tf tz bf rf fr mp sc ifp ib ie pw dh rl rb re sy sb rc sg ex)) := by
  refine Ct.of ⟨by decide +kernel, rfl⟩ (Nat.le_of_ble_eq_true rfl) (lv := [some (.ref 0), some (.int x), some (.int y), some (.int v), none]) rfl ?_
  refine Run.blk (gs := [True, True, True, True, True]) (S' := ([some (.ref 0), some (.int x), some (.int y), some (.int v), none], [.int (2 : Int32), .int y, .int x, .ref 3], Ac fp le lp lb il tf tz bf rf fr mp sc ifp ib ie pw dh rl rb re sy sb rc sg ex)) k_L_write_0 kc_L_write_0 rfl ⟨trivial, trivial, trivial, trivial, trivial, trivial⟩ ?_
  refine Run.callV (b := 3) (As := [.int x, .int y, .int (2 : Int32)]) (rest := []) v_L_write_7 c_P_refusal rfl (Nat.le_of_ble_eq_true rfl) rfl rfl rfl rfl (fun r cs' hp => ?_)
  obtain ⟨rfl, rfl⟩ := hp
  show Run _ _ _ _ 10 ([some (.ref 0), some (.int x), some (.int y), some (.int v), none], [.int (f_P_refusal rf x y (2 : Int32))], Ac fp le lp lb il tf tz bf rf fr mp sc ifp ib ie pw dh rl rb re sy sb rc sg ex) _
  refine Run.blk (gs := [True, True]) (S' := ([some (.ref 0), some (.int x), some (.int y), some (.int v), some (.int (f_P_refusal rf x y (2 : Int32)))], [.int (f_P_refusal rf x y (2 : Int32))], Ac fp le lp lb il tf tz bf rf fr mp sc ifp ib ie pw dh rl rb re sy sb rc sg ex)) k_L_write_10 kc_L_write_10 rfl ⟨trivial, trivial, trivial⟩ ?_
  refine Run.br (tgt := 27) d_L_write_14 rfl (by decide) (fun c_1 => ?_) (fun c_1 => ?_)
  · refine Run.blk (gs := [True]) (S' := ([some (.ref 0), some (.int x), some (.int y), some (.int v), some (.int (f_P_refusal rf x y (2 : Int32)))], [.int (f_P_refusal rf x y (2 : Int32))], Ac fp le lp lb il tf tz bf rf fr mp sc ifp ib ie pw dh rl rb re sy sb rc sg ex)) k_L_write_27 kc_L_write_27 rfl ⟨trivial, trivial⟩ ?_
    exact Run.ret (r := some (.int (f_P_refusal rf x y (2 : Int32)))) ⟨d_L_write_29, _, rfl, rfl⟩ ⟨rfl, rfl⟩
  · have c_1 := Classical.not_not.mp c_1
    exact absurd c_1 hr
set_option maxRecDepth 100000 in
set_option maxHeartbeats 4000000 in
theorem c_L_read_1 (hb : ∀ j, b j < 256) {p : Nat} {x : Int32} (hx : x = nI p) (hp : p + 1 ≤ 16384) (hr : f_P_refusal rf x 1 4 = 0) : Ct m_L_read 0 0 [.ref 0, .int x, .int (1 : Int32)] (Ac fp le lp lb il tf tz (sbf b) rf fr mp sc ifp ib ie pw dh rl rb re sy sb rc sg ex) (vm_is (some (.long (lN (n1 b p)))) (Ac fp le lp lb il tf tz (sbf b) rf fr mp sc ifp ib ie pw dh rl rb re sy sb rc sg ex)) := by
  subst hx
  refine Ct.of ⟨by decide +kernel, rfl⟩ (Nat.le_of_ble_eq_true rfl) (lv := [some (.ref 0), some (.int (nI p)), some (.int (1 : Int32)), none]) rfl ?_
  refine Run.blk (gs := [True, True, True, True, True]) (S' := ([some (.ref 0), some (.int (nI p)), some (.int (1 : Int32)), none], [.int (4 : Int32), .int (1 : Int32), .int (nI p), .ref 3], Ac fp le lp lb il tf tz (sbf b) rf fr mp sc ifp ib ie pw dh rl rb re sy sb rc sg ex)) k_L_read_0 kc_L_read_0 rfl ⟨trivial, trivial, trivial, trivial, trivial, trivial⟩ ?_
  refine Run.callV (b := 3) (As := [.int (nI p), .int (1 : Int32), .int (4 : Int32)]) (rest := []) v_L_read_7 c_P_refusal rfl (Nat.le_of_ble_eq_true rfl) rfl rfl rfl rfl (fun r cs' hp => ?_)
  obtain ⟨rfl, rfl⟩ := hp
  show Run _ _ _ _ 10 ([some (.ref 0), some (.int (nI p)), some (.int (1 : Int32)), none], [.int (f_P_refusal rf (nI p) (1 : Int32) (4 : Int32))], Ac fp le lp lb il tf tz (sbf b) rf fr mp sc ifp ib ie pw dh rl rb re sy sb rc sg ex) _
  refine Run.blk (gs := [True, True]) (S' := ([some (.ref 0), some (.int (nI p)), some (.int (1 : Int32)), some (.int (f_P_refusal rf (nI p) (1 : Int32) (4 : Int32)))], [.int (f_P_refusal rf (nI p) (1 : Int32) (4 : Int32))], Ac fp le lp lb il tf tz (sbf b) rf fr mp sc ifp ib ie pw dh rl rb re sy sb rc sg ex)) k_L_read_10 kc_L_read_10 rfl ⟨trivial, trivial, trivial⟩ ?_
  refine Run.br (tgt := 27) d_L_read_12 rfl (by decide) (fun c_1 => ?_) (fun c_1 => ?_)
  · exact absurd hr c_1
  · have c_1 := Classical.not_not.mp c_1
    refine Run.blk (gs := [True, True, True, True]) (S' := ([some (.ref 0), some (.int (nI p)), some (.int (1 : Int32)), some (.int (f_P_refusal rf (nI p) (1 : Int32) (4 : Int32)))], [.int (1 : Int32), .int (nI p), .ref 3], Ac fp le lp lb il tf tz (sbf b) rf fr mp sc ifp ib ie pw dh rl rb re sy sb rc sg ex)) k_L_read_15 kc_L_read_15 rfl ⟨trivial, trivial, trivial, trivial, trivial⟩ ?_
    refine Run.callV (b := 3) (As := [.int (nI p), .int (1 : Int32)]) (rest := []) v_L_read_21 (c_P_number1 hb rfl hp) rfl (Nat.le_of_ble_eq_true rfl) rfl rfl rfl rfl (fun r cs' hp => ?_)
    obtain ⟨rfl, rfl⟩ := hp
    show Run _ _ _ _ 24 ([some (.ref 0), some (.int (nI p)), some (.int (1 : Int32)), some (.int (f_P_refusal rf (nI p) (1 : Int32) (4 : Int32)))], [.long (lN (n1 b p))], Ac fp le lp lb il tf tz (sbf b) rf fr mp sc ifp ib ie pw dh rl rb re sy sb rc sg ex) _
    refine Run.goto (tgt := 29) d_L_read_24 (by decide) ?_
    exact Run.ret (r := some (.long (lN (n1 b p)))) ⟨d_L_read_29, rfl⟩ ⟨rfl, rfl⟩
set_option maxRecDepth 100000 in
set_option maxHeartbeats 4000000 in
theorem c_L_write_1 {p : Nat} {x v : Int32} (hx : x = nI p) (hp : p + 1 ≤ 16384) (hr : f_P_refusal rf x 1 2 = 0) : Ct m_L_write 0 0 [.ref 0, .int x, .int (1 : Int32), .int v] (Ac fp le lp lb il tf tz (sbf b) rf fr mp sc ifp ib ie pw dh rl rb re sy sb rc sg ex) (vm_is (some (.int (0 : Int32))) (Ac fp le lp lb il tf tz (sbf (u1 b p v)) rf fr mp sc ifp ib ie pw dh rl rb re sy sb rc sg ex)) := by
  subst hx
  refine Ct.of ⟨by decide +kernel, rfl⟩ (Nat.le_of_ble_eq_true rfl) (lv := [some (.ref 0), some (.int (nI p)), some (.int (1 : Int32)), some (.int v), none]) rfl ?_
  refine Run.blk (gs := [True, True, True, True, True]) (S' := ([some (.ref 0), some (.int (nI p)), some (.int (1 : Int32)), some (.int v), none], [.int (2 : Int32), .int (1 : Int32), .int (nI p), .ref 3], Ac fp le lp lb il tf tz (sbf b) rf fr mp sc ifp ib ie pw dh rl rb re sy sb rc sg ex)) k_L_write_0 kc_L_write_0 rfl ⟨trivial, trivial, trivial, trivial, trivial, trivial⟩ ?_
  refine Run.callV (b := 3) (As := [.int (nI p), .int (1 : Int32), .int (2 : Int32)]) (rest := []) v_L_write_7 c_P_refusal rfl (Nat.le_of_ble_eq_true rfl) rfl rfl rfl rfl (fun r cs' hp => ?_)
  obtain ⟨rfl, rfl⟩ := hp
  show Run _ _ _ _ 10 ([some (.ref 0), some (.int (nI p)), some (.int (1 : Int32)), some (.int v), none], [.int (f_P_refusal rf (nI p) (1 : Int32) (2 : Int32))], Ac fp le lp lb il tf tz (sbf b) rf fr mp sc ifp ib ie pw dh rl rb re sy sb rc sg ex) _
  refine Run.blk (gs := [True, True]) (S' := ([some (.ref 0), some (.int (nI p)), some (.int (1 : Int32)), some (.int v), some (.int (f_P_refusal rf (nI p) (1 : Int32) (2 : Int32)))], [.int (f_P_refusal rf (nI p) (1 : Int32) (2 : Int32))], Ac fp le lp lb il tf tz (sbf b) rf fr mp sc ifp ib ie pw dh rl rb re sy sb rc sg ex)) k_L_write_10 kc_L_write_10 rfl ⟨trivial, trivial, trivial⟩ ?_
  refine Run.br (tgt := 27) d_L_write_14 rfl (by decide) (fun c_1 => ?_) (fun c_1 => ?_)
  · exact absurd hr c_1
  · have c_1 := Classical.not_not.mp c_1
    refine Run.blk (gs := [True, True, True, True, True]) (S' := ([some (.ref 0), some (.int (nI p)), some (.int (1 : Int32)), some (.int v), some (.int (f_P_refusal rf (nI p) (1 : Int32) (2 : Int32)))], [.int v, .int (1 : Int32), .int (nI p), .ref 3], Ac fp le lp lb il tf tz (sbf b) rf fr mp sc ifp ib ie pw dh rl rb re sy sb rc sg ex)) k_L_write_17 kc_L_write_17 rfl ⟨trivial, trivial, trivial, trivial, trivial, trivial⟩ ?_
    refine Run.callV (b := 3) (As := [.int (nI p), .int (1 : Int32), .int v]) (rest := []) v_L_write_24 (c_P_setNumber1 rfl hp) rfl (Nat.le_of_ble_eq_true rfl) rfl rfl rfl rfl (fun r cs' hp => ?_)
    obtain ⟨rfl, rfl⟩ := hp
    show Run _ _ _ _ 27 ([some (.ref 0), some (.int (nI p)), some (.int (1 : Int32)), some (.int v), some (.int (f_P_refusal rf (nI p) (1 : Int32) (2 : Int32)))], [], Ac fp le lp lb il tf tz (sbf (u1 b p v)) rf fr mp sc ifp ib ie pw dh rl rb re sy sb rc sg ex) _
    refine Run.blk (gs := [True]) (S' := ([some (.ref 0), some (.int (nI p)), some (.int (1 : Int32)), some (.int v), some (.int (f_P_refusal rf (nI p) (1 : Int32) (2 : Int32)))], [.int (f_P_refusal rf (nI p) (1 : Int32) (2 : Int32))], Ac fp le lp lb il tf tz (sbf (u1 b p v)) rf fr mp sc ifp ib ie pw dh rl rb re sy sb rc sg ex)) k_L_write_27 kc_L_write_27 rfl ⟨trivial, trivial⟩ ?_
    exact Run.ret (r := some (.int (f_P_refusal rf (nI p) (1 : Int32) (2 : Int32)))) ⟨d_L_write_29, _, rfl, rfl⟩ ⟨by rw [hr], rfl⟩
set_option maxRecDepth 100000 in
set_option maxHeartbeats 4000000 in
theorem c_L_read_2 (hb : ∀ j, b j < 256) {p : Nat} {x : Int32} (hx : x = nI p) (hp : p + 2 ≤ 16384) (hr : f_P_refusal rf x 2 4 = 0) : Ct m_L_read 0 0 [.ref 0, .int x, .int (2 : Int32)] (Ac fp le lp lb il tf tz (sbf b) rf fr mp sc ifp ib ie pw dh rl rb re sy sb rc sg ex) (vm_is (some (.long (lN (n2 b p)))) (Ac fp le lp lb il tf tz (sbf b) rf fr mp sc ifp ib ie pw dh rl rb re sy sb rc sg ex)) := by
  subst hx
  refine Ct.of ⟨by decide +kernel, rfl⟩ (Nat.le_of_ble_eq_true rfl) (lv := [some (.ref 0), some (.int (nI p)), some (.int (2 : Int32)), none]) rfl ?_
  refine Run.blk (gs := [True, True, True, True, True]) (S' := ([some (.ref 0), some (.int (nI p)), some (.int (2 : Int32)), none], [.int (4 : Int32), .int (2 : Int32), .int (nI p), .ref 3], Ac fp le lp lb il tf tz (sbf b) rf fr mp sc ifp ib ie pw dh rl rb re sy sb rc sg ex)) k_L_read_0 kc_L_read_0 rfl ⟨trivial, trivial, trivial, trivial, trivial, trivial⟩ ?_
  refine Run.callV (b := 3) (As := [.int (nI p), .int (2 : Int32), .int (4 : Int32)]) (rest := []) v_L_read_7 c_P_refusal rfl (Nat.le_of_ble_eq_true rfl) rfl rfl rfl rfl (fun r cs' hp => ?_)
  obtain ⟨rfl, rfl⟩ := hp
  show Run _ _ _ _ 10 ([some (.ref 0), some (.int (nI p)), some (.int (2 : Int32)), none], [.int (f_P_refusal rf (nI p) (2 : Int32) (4 : Int32))], Ac fp le lp lb il tf tz (sbf b) rf fr mp sc ifp ib ie pw dh rl rb re sy sb rc sg ex) _
  refine Run.blk (gs := [True, True]) (S' := ([some (.ref 0), some (.int (nI p)), some (.int (2 : Int32)), some (.int (f_P_refusal rf (nI p) (2 : Int32) (4 : Int32)))], [.int (f_P_refusal rf (nI p) (2 : Int32) (4 : Int32))], Ac fp le lp lb il tf tz (sbf b) rf fr mp sc ifp ib ie pw dh rl rb re sy sb rc sg ex)) k_L_read_10 kc_L_read_10 rfl ⟨trivial, trivial, trivial⟩ ?_
  refine Run.br (tgt := 27) d_L_read_12 rfl (by decide) (fun c_1 => ?_) (fun c_1 => ?_)
  · exact absurd hr c_1
  · have c_1 := Classical.not_not.mp c_1
    refine Run.blk (gs := [True, True, True, True]) (S' := ([some (.ref 0), some (.int (nI p)), some (.int (2 : Int32)), some (.int (f_P_refusal rf (nI p) (2 : Int32) (4 : Int32)))], [.int (2 : Int32), .int (nI p), .ref 3], Ac fp le lp lb il tf tz (sbf b) rf fr mp sc ifp ib ie pw dh rl rb re sy sb rc sg ex)) k_L_read_15 kc_L_read_15 rfl ⟨trivial, trivial, trivial, trivial, trivial⟩ ?_
    refine Run.callV (b := 3) (As := [.int (nI p), .int (2 : Int32)]) (rest := []) v_L_read_21 (c_P_number2 hb rfl hp) rfl (Nat.le_of_ble_eq_true rfl) rfl rfl rfl rfl (fun r cs' hp => ?_)
    obtain ⟨rfl, rfl⟩ := hp
    show Run _ _ _ _ 24 ([some (.ref 0), some (.int (nI p)), some (.int (2 : Int32)), some (.int (f_P_refusal rf (nI p) (2 : Int32) (4 : Int32)))], [.long (lN (n2 b p))], Ac fp le lp lb il tf tz (sbf b) rf fr mp sc ifp ib ie pw dh rl rb re sy sb rc sg ex) _
    refine Run.goto (tgt := 29) d_L_read_24 (by decide) ?_
    exact Run.ret (r := some (.long (lN (n2 b p)))) ⟨d_L_read_29, rfl⟩ ⟨rfl, rfl⟩
set_option maxRecDepth 100000 in
set_option maxHeartbeats 4000000 in
theorem c_L_write_2 {p : Nat} {x v : Int32} (hx : x = nI p) (hp : p + 2 ≤ 16384) (hr : f_P_refusal rf x 2 2 = 0) : Ct m_L_write 0 0 [.ref 0, .int x, .int (2 : Int32), .int v] (Ac fp le lp lb il tf tz (sbf b) rf fr mp sc ifp ib ie pw dh rl rb re sy sb rc sg ex) (vm_is (some (.int (0 : Int32))) (Ac fp le lp lb il tf tz (sbf (u2 b p v)) rf fr mp sc ifp ib ie pw dh rl rb re sy sb rc sg ex)) := by
  subst hx
  refine Ct.of ⟨by decide +kernel, rfl⟩ (Nat.le_of_ble_eq_true rfl) (lv := [some (.ref 0), some (.int (nI p)), some (.int (2 : Int32)), some (.int v), none]) rfl ?_
  refine Run.blk (gs := [True, True, True, True, True]) (S' := ([some (.ref 0), some (.int (nI p)), some (.int (2 : Int32)), some (.int v), none], [.int (2 : Int32), .int (2 : Int32), .int (nI p), .ref 3], Ac fp le lp lb il tf tz (sbf b) rf fr mp sc ifp ib ie pw dh rl rb re sy sb rc sg ex)) k_L_write_0 kc_L_write_0 rfl ⟨trivial, trivial, trivial, trivial, trivial, trivial⟩ ?_
  refine Run.callV (b := 3) (As := [.int (nI p), .int (2 : Int32), .int (2 : Int32)]) (rest := []) v_L_write_7 c_P_refusal rfl (Nat.le_of_ble_eq_true rfl) rfl rfl rfl rfl (fun r cs' hp => ?_)
  obtain ⟨rfl, rfl⟩ := hp
  show Run _ _ _ _ 10 ([some (.ref 0), some (.int (nI p)), some (.int (2 : Int32)), some (.int v), none], [.int (f_P_refusal rf (nI p) (2 : Int32) (2 : Int32))], Ac fp le lp lb il tf tz (sbf b) rf fr mp sc ifp ib ie pw dh rl rb re sy sb rc sg ex) _
  refine Run.blk (gs := [True, True]) (S' := ([some (.ref 0), some (.int (nI p)), some (.int (2 : Int32)), some (.int v), some (.int (f_P_refusal rf (nI p) (2 : Int32) (2 : Int32)))], [.int (f_P_refusal rf (nI p) (2 : Int32) (2 : Int32))], Ac fp le lp lb il tf tz (sbf b) rf fr mp sc ifp ib ie pw dh rl rb re sy sb rc sg ex)) k_L_write_10 kc_L_write_10 rfl ⟨trivial, trivial, trivial⟩ ?_
  refine Run.br (tgt := 27) d_L_write_14 rfl (by decide) (fun c_1 => ?_) (fun c_1 => ?_)
  · exact absurd hr c_1
  · have c_1 := Classical.not_not.mp c_1
    refine Run.blk (gs := [True, True, True, True, True]) (S' := ([some (.ref 0), some (.int (nI p)), some (.int (2 : Int32)), some (.int v), some (.int (f_P_refusal rf (nI p) (2 : Int32) (2 : Int32)))], [.int v, .int (2 : Int32), .int (nI p), .ref 3], Ac fp le lp lb il tf tz (sbf b) rf fr mp sc ifp ib ie pw dh rl rb re sy sb rc sg ex)) k_L_write_17 kc_L_write_17 rfl ⟨trivial, trivial, trivial, trivial, trivial, trivial⟩ ?_
    refine Run.callV (b := 3) (As := [.int (nI p), .int (2 : Int32), .int v]) (rest := []) v_L_write_24 (c_P_setNumber2 rfl hp) rfl (Nat.le_of_ble_eq_true rfl) rfl rfl rfl rfl (fun r cs' hp => ?_)
    obtain ⟨rfl, rfl⟩ := hp
    show Run _ _ _ _ 27 ([some (.ref 0), some (.int (nI p)), some (.int (2 : Int32)), some (.int v), some (.int (f_P_refusal rf (nI p) (2 : Int32) (2 : Int32)))], [], Ac fp le lp lb il tf tz (sbf (u2 b p v)) rf fr mp sc ifp ib ie pw dh rl rb re sy sb rc sg ex) _
    refine Run.blk (gs := [True]) (S' := ([some (.ref 0), some (.int (nI p)), some (.int (2 : Int32)), some (.int v), some (.int (f_P_refusal rf (nI p) (2 : Int32) (2 : Int32)))], [.int (f_P_refusal rf (nI p) (2 : Int32) (2 : Int32))], Ac fp le lp lb il tf tz (sbf (u2 b p v)) rf fr mp sc ifp ib ie pw dh rl rb re sy sb rc sg ex)) k_L_write_27 kc_L_write_27 rfl ⟨trivial, trivial⟩ ?_
    exact Run.ret (r := some (.int (f_P_refusal rf (nI p) (2 : Int32) (2 : Int32)))) ⟨d_L_write_29, _, rfl, rfl⟩ ⟨by rw [hr], rfl⟩
set_option maxRecDepth 100000 in
set_option maxHeartbeats 4000000 in
theorem c_L_read_4 (hb : ∀ j, b j < 256) {p : Nat} {x : Int32} (hx : x = nI p) (hp : p + 4 ≤ 16384) (hr : f_P_refusal rf x 4 4 = 0) : Ct m_L_read 0 0 [.ref 0, .int x, .int (4 : Int32)] (Ac fp le lp lb il tf tz (sbf b) rf fr mp sc ifp ib ie pw dh rl rb re sy sb rc sg ex) (vm_is (some (.long (lN (n4 b p)))) (Ac fp le lp lb il tf tz (sbf b) rf fr mp sc ifp ib ie pw dh rl rb re sy sb rc sg ex)) := by
  subst hx
  refine Ct.of ⟨by decide +kernel, rfl⟩ (Nat.le_of_ble_eq_true rfl) (lv := [some (.ref 0), some (.int (nI p)), some (.int (4 : Int32)), none]) rfl ?_
  refine Run.blk (gs := [True, True, True, True, True]) (S' := ([some (.ref 0), some (.int (nI p)), some (.int (4 : Int32)), none], [.int (4 : Int32), .int (4 : Int32), .int (nI p), .ref 3], Ac fp le lp lb il tf tz (sbf b) rf fr mp sc ifp ib ie pw dh rl rb re sy sb rc sg ex)) k_L_read_0 kc_L_read_0 rfl ⟨trivial, trivial, trivial, trivial, trivial, trivial⟩ ?_
  refine Run.callV (b := 3) (As := [.int (nI p), .int (4 : Int32), .int (4 : Int32)]) (rest := []) v_L_read_7 c_P_refusal rfl (Nat.le_of_ble_eq_true rfl) rfl rfl rfl rfl (fun r cs' hp => ?_)
  obtain ⟨rfl, rfl⟩ := hp
  show Run _ _ _ _ 10 ([some (.ref 0), some (.int (nI p)), some (.int (4 : Int32)), none], [.int (f_P_refusal rf (nI p) (4 : Int32) (4 : Int32))], Ac fp le lp lb il tf tz (sbf b) rf fr mp sc ifp ib ie pw dh rl rb re sy sb rc sg ex) _
  refine Run.blk (gs := [True, True]) (S' := ([some (.ref 0), some (.int (nI p)), some (.int (4 : Int32)), some (.int (f_P_refusal rf (nI p) (4 : Int32) (4 : Int32)))], [.int (f_P_refusal rf (nI p) (4 : Int32) (4 : Int32))], Ac fp le lp lb il tf tz (sbf b) rf fr mp sc ifp ib ie pw dh rl rb re sy sb rc sg ex)) k_L_read_10 kc_L_read_10 rfl ⟨trivial, trivial, trivial⟩ ?_
  refine Run.br (tgt := 27) d_L_read_12 rfl (by decide) (fun c_1 => ?_) (fun c_1 => ?_)
  · exact absurd hr c_1
  · have c_1 := Classical.not_not.mp c_1
    refine Run.blk (gs := [True, True, True, True]) (S' := ([some (.ref 0), some (.int (nI p)), some (.int (4 : Int32)), some (.int (f_P_refusal rf (nI p) (4 : Int32) (4 : Int32)))], [.int (4 : Int32), .int (nI p), .ref 3], Ac fp le lp lb il tf tz (sbf b) rf fr mp sc ifp ib ie pw dh rl rb re sy sb rc sg ex)) k_L_read_15 kc_L_read_15 rfl ⟨trivial, trivial, trivial, trivial, trivial⟩ ?_
    refine Run.callV (b := 3) (As := [.int (nI p), .int (4 : Int32)]) (rest := []) v_L_read_21 (c_P_number4 hb rfl hp) rfl (Nat.le_of_ble_eq_true rfl) rfl rfl rfl rfl (fun r cs' hp => ?_)
    obtain ⟨rfl, rfl⟩ := hp
    show Run _ _ _ _ 24 ([some (.ref 0), some (.int (nI p)), some (.int (4 : Int32)), some (.int (f_P_refusal rf (nI p) (4 : Int32) (4 : Int32)))], [.long (lN (n4 b p))], Ac fp le lp lb il tf tz (sbf b) rf fr mp sc ifp ib ie pw dh rl rb re sy sb rc sg ex) _
    refine Run.goto (tgt := 29) d_L_read_24 (by decide) ?_
    exact Run.ret (r := some (.long (lN (n4 b p)))) ⟨d_L_read_29, rfl⟩ ⟨rfl, rfl⟩
set_option maxRecDepth 100000 in
set_option maxHeartbeats 4000000 in
theorem c_L_write_4 {p : Nat} {x v : Int32} (hx : x = nI p) (hp : p + 4 ≤ 16384) (hr : f_P_refusal rf x 4 2 = 0) : Ct m_L_write 0 0 [.ref 0, .int x, .int (4 : Int32), .int v] (Ac fp le lp lb il tf tz (sbf b) rf fr mp sc ifp ib ie pw dh rl rb re sy sb rc sg ex) (vm_is (some (.int (0 : Int32))) (Ac fp le lp lb il tf tz (sbf (u4 b p v)) rf fr mp sc ifp ib ie pw dh rl rb re sy sb rc sg ex)) := by
  subst hx
  refine Ct.of ⟨by decide +kernel, rfl⟩ (Nat.le_of_ble_eq_true rfl) (lv := [some (.ref 0), some (.int (nI p)), some (.int (4 : Int32)), some (.int v), none]) rfl ?_
  refine Run.blk (gs := [True, True, True, True, True]) (S' := ([some (.ref 0), some (.int (nI p)), some (.int (4 : Int32)), some (.int v), none], [.int (2 : Int32), .int (4 : Int32), .int (nI p), .ref 3], Ac fp le lp lb il tf tz (sbf b) rf fr mp sc ifp ib ie pw dh rl rb re sy sb rc sg ex)) k_L_write_0 kc_L_write_0 rfl ⟨trivial, trivial, trivial, trivial, trivial, trivial⟩ ?_
  refine Run.callV (b := 3) (As := [.int (nI p), .int (4 : Int32), .int (2 : Int32)]) (rest := []) v_L_write_7 c_P_refusal rfl (Nat.le_of_ble_eq_true rfl) rfl rfl rfl rfl (fun r cs' hp => ?_)
  obtain ⟨rfl, rfl⟩ := hp
  show Run _ _ _ _ 10 ([some (.ref 0), some (.int (nI p)), some (.int (4 : Int32)), some (.int v), none], [.int (f_P_refusal rf (nI p) (4 : Int32) (2 : Int32))], Ac fp le lp lb il tf tz (sbf b) rf fr mp sc ifp ib ie pw dh rl rb re sy sb rc sg ex) _
  refine Run.blk (gs := [True, True]) (S' := ([some (.ref 0), some (.int (nI p)), some (.int (4 : Int32)), some (.int v), some (.int (f_P_refusal rf (nI p) (4 : Int32) (2 : Int32)))], [.int (f_P_refusal rf (nI p) (4 : Int32) (2 : Int32))], Ac fp le lp lb il tf tz (sbf b) rf fr mp sc ifp ib ie pw dh rl rb re sy sb rc sg ex)) k_L_write_10 kc_L_write_10 rfl ⟨trivial, trivial, trivial⟩ ?_
  refine Run.br (tgt := 27) d_L_write_14 rfl (by decide) (fun c_1 => ?_) (fun c_1 => ?_)
  · exact absurd hr c_1
  · have c_1 := Classical.not_not.mp c_1
    refine Run.blk (gs := [True, True, True, True, True]) (S' := ([some (.ref 0), some (.int (nI p)), some (.int (4 : Int32)), some (.int v), some (.int (f_P_refusal rf (nI p) (4 : Int32) (2 : Int32)))], [.int v, .int (4 : Int32), .int (nI p), .ref 3], Ac fp le lp lb il tf tz (sbf b) rf fr mp sc ifp ib ie pw dh rl rb re sy sb rc sg ex)) k_L_write_17 kc_L_write_17 rfl ⟨trivial, trivial, trivial, trivial, trivial, trivial⟩ ?_
    refine Run.callV (b := 3) (As := [.int (nI p), .int (4 : Int32), .int v]) (rest := []) v_L_write_24 (c_P_setNumber4 rfl hp) rfl (Nat.le_of_ble_eq_true rfl) rfl rfl rfl rfl (fun r cs' hp => ?_)
    obtain ⟨rfl, rfl⟩ := hp
    show Run _ _ _ _ 27 ([some (.ref 0), some (.int (nI p)), some (.int (4 : Int32)), some (.int v), some (.int (f_P_refusal rf (nI p) (4 : Int32) (2 : Int32)))], [], Ac fp le lp lb il tf tz (sbf (u4 b p v)) rf fr mp sc ifp ib ie pw dh rl rb re sy sb rc sg ex) _
    refine Run.blk (gs := [True]) (S' := ([some (.ref 0), some (.int (nI p)), some (.int (4 : Int32)), some (.int v), some (.int (f_P_refusal rf (nI p) (4 : Int32) (2 : Int32)))], [.int (f_P_refusal rf (nI p) (4 : Int32) (2 : Int32))], Ac fp le lp lb il tf tz (sbf (u4 b p v)) rf fr mp sc ifp ib ie pw dh rl rb re sy sb rc sg ex)) k_L_write_27 kc_L_write_27 rfl ⟨trivial, trivial⟩ ?_
    exact Run.ret (r := some (.int (f_P_refusal rf (nI p) (4 : Int32) (2 : Int32)))) ⟨d_L_write_29, _, rfl, rfl⟩ ⟨by rw [hr], rfl⟩
set_option maxRecDepth 100000 in
set_option maxHeartbeats 4000000 in
theorem c_L_fetch_4 (hb : ∀ j, b j < 256) {p : Nat} {x : Int32} (hx : x = nI p) (hp : p + 4 ≤ 16384) (hr : f_P_refusal rf x 4 1 = 0) : Ct m_L_fetch 0 0 [.ref 0, .int x] (Ac fp le lp lb il tf tz (sbf b) rf fr mp sc ifp ib ie pw dh rl rb re sy sb rc sg ex) (vm_is (some (.long (lN (n4 b p)))) (Ac fp le lp lb il tf tz (sbf b) rf fr mp sc ifp ib ie pw dh rl rb re sy sb rc sg ex)) := by
  subst hx
  refine Ct.of ⟨by decide +kernel, rfl⟩ (Nat.le_of_ble_eq_true rfl) (lv := [some (.ref 0), some (.int (nI p)), none]) rfl ?_
  refine Run.blk (gs := [True, True, True, True, True]) (S' := ([some (.ref 0), some (.int (nI p)), none], [.int (1 : Int32), .int (4 : Int32), .int (nI p), .ref 3], Ac fp le lp lb il tf tz (sbf b) rf fr mp sc ifp ib ie pw dh rl rb re sy sb rc sg ex)) k_L_fetch_0 kc_L_fetch_0 rfl ⟨trivial, trivial, trivial, trivial, trivial, trivial⟩ ?_
  refine Run.callV (b := 3) (As := [.int (nI p), .int (4 : Int32), .int (1 : Int32)]) (rest := []) v_L_fetch_7 c_P_refusal rfl (Nat.le_of_ble_eq_true rfl) rfl rfl rfl rfl (fun r cs' hp => ?_)
  obtain ⟨rfl, rfl⟩ := hp
  show Run _ _ _ _ 10 ([some (.ref 0), some (.int (nI p)), none], [.int (f_P_refusal rf (nI p) (4 : Int32) (1 : Int32))], Ac fp le lp lb il tf tz (sbf b) rf fr mp sc ifp ib ie pw dh rl rb re sy sb rc sg ex) _
  refine Run.blk (gs := [True, True]) (S' := ([some (.ref 0), some (.int (nI p)), some (.int (f_P_refusal rf (nI p) (4 : Int32) (1 : Int32)))], [.int (f_P_refusal rf (nI p) (4 : Int32) (1 : Int32))], Ac fp le lp lb il tf tz (sbf b) rf fr mp sc ifp ib ie pw dh rl rb re sy sb rc sg ex)) k_L_fetch_10 kc_L_fetch_10 rfl ⟨trivial, trivial, trivial⟩ ?_
  refine Run.br (tgt := 27) d_L_fetch_12 rfl (by decide) (fun c_1 => ?_) (fun c_1 => ?_)
  · exact absurd hr c_1
  · have c_1 := Classical.not_not.mp c_1
    refine Run.blk (gs := [True, True, True, True]) (S' := ([some (.ref 0), some (.int (nI p)), some (.int (f_P_refusal rf (nI p) (4 : Int32) (1 : Int32)))], [.int (4 : Int32), .int (nI p), .ref 3], Ac fp le lp lb il tf tz (sbf b) rf fr mp sc ifp ib ie pw dh rl rb re sy sb rc sg ex)) k_L_fetch_15 kc_L_fetch_15 rfl ⟨trivial, trivial, trivial, trivial, trivial⟩ ?_
    refine Run.callV (b := 3) (As := [.int (nI p), .int (4 : Int32)]) (rest := []) v_L_fetch_21 (c_P_number4 hb rfl hp) rfl (Nat.le_of_ble_eq_true rfl) rfl rfl rfl rfl (fun r cs' hp => ?_)
    obtain ⟨rfl, rfl⟩ := hp
    show Run _ _ _ _ 24 ([some (.ref 0), some (.int (nI p)), some (.int (f_P_refusal rf (nI p) (4 : Int32) (1 : Int32)))], [.long (lN (n4 b p))], Ac fp le lp lb il tf tz (sbf b) rf fr mp sc ifp ib ie pw dh rl rb re sy sb rc sg ex) _
    refine Run.goto (tgt := 29) d_L_fetch_24 (by decide) ?_
    exact Run.ret (r := some (.long (lN (n4 b p)))) ⟨d_L_fetch_29, rfl⟩ ⟨rfl, rfl⟩
def sS (b : Nat → Nat) (rf : Nat → Int32) (p : Nat) : Nat → Int32
  | 0 => 7
  | i + 1 => if rf (p + i) = -1 then sm0 (sS b rf p i) 256 else sm1 b (p + i) (sS b rf p i) 256
set_option maxRecDepth 100000 in
set_option maxHeartbeats 4000000 in
theorem c_L_sum_A {x y : Int32} (hx : ¬ (y.toInt = 0 ∨ (0 < y.toInt ∧ y.toInt ≤ 64 ∧ 0 ≤ x.toInt ∧ x.toInt ≤ 64 - y.toInt))) : Ct m_L_sum 0 0 [.ref 0, .int x, .int y] (Ac fp le lp lb il tf tz bf rf fr mp sc ifp ib ie pw dh rl rb re sy sb rc sg ex) (vm_is (some (.int (0 : Int32))) (Ac fp le lp lb il tf tz bf rf fr mp sc ifp ib ie pw dh rl rb re sy sb rc sg ex)) := by
  refine Ct.of ⟨by decide +kernel, rfl⟩ (Nat.le_of_ble_eq_true rfl) (lv := [some (.ref 0), some (.int x), some (.int y), none, none]) rfl ?_
  refine Run.blk (gs := [True, True]) (S' := ([some (.ref 0), some (.int x), some (.int y), none, none], [.int y, .int x], Ac fp le lp lb il tf tz bf rf fr mp sc ifp ib ie pw dh rl rb re sy sb rc sg ex)) k_L_sum_0 kc_L_sum_0 rfl ⟨trivial, trivial, trivial⟩ ?_
  refine Run.callS (As := [.int x, .int y]) (rest := []) v_L_sum_2 (c_L_arePages x y) rfl (Nat.le_of_ble_eq_true rfl) rfl (fun r cs' hp => ?_)
  obtain ⟨rfl, rfl⟩ := hp
  show Run _ _ _ _ 5 ([some (.ref 0), some (.int x), some (.int y), none, none], [.int (if y.toInt = 0 ∨ (0 < y.toInt ∧ y.toInt ≤ 64 ∧ 0 ≤ x.toInt ∧ x.toInt ≤ 64 - y.toInt) then 1 else 0)], Ac fp le lp lb il tf tz bf rf fr mp sc ifp ib ie pw dh rl rb re sy sb rc sg ex) _
  refine Run.br (tgt := 10) d_L_sum_5 rfl (by decide) (fun c_1 => ?_) (fun c_1 => ?_)
  · have c_1 := zi_t c_1
    exact absurd c_1 hx
  · have c_1 := zi_f (Classical.not_not.mp c_1)
    refine Run.blk (gs := [True]) (S' := ([some (.ref 0), some (.int x), some (.int y), none, none], [.int (0 : Int32)], Ac fp le lp lb il tf tz bf rf fr mp sc ifp ib ie pw dh rl rb re sy sb rc sg ex)) k_L_sum_8 kc_L_sum_8 rfl ⟨trivial, trivial⟩ ?_
    exact Run.ret (r := some (.int (0 : Int32))) ⟨d_L_sum_9, _, rfl, rfl⟩ ⟨rfl, rfl⟩
set_option maxRecDepth 100000 in
set_option maxHeartbeats 4000000 in
theorem c_L_sum_0 {x : Int32} : Ct m_L_sum 0 0 [.ref 0, .int x, .int (0 : Int32)] (Ac fp le lp lb il tf tz bf rf fr mp sc ifp ib ie pw dh rl rb re sy sb rc sg ex) (vm_is (some (.int (7 : Int32))) (Ac fp le lp lb il tf tz bf rf fr mp sc ifp ib ie pw dh rl rb re sy sb rc sg ex)) := by
  refine Ct.of ⟨by decide +kernel, rfl⟩ (Nat.le_of_ble_eq_true rfl) (lv := [some (.ref 0), some (.int x), some (.int (0 : Int32)), none, none]) rfl ?_
  refine Run.blk (gs := [True, True]) (S' := ([some (.ref 0), some (.int x), some (.int (0 : Int32)), none, none], [.int (0 : Int32), .int x], Ac fp le lp lb il tf tz bf rf fr mp sc ifp ib ie pw dh rl rb re sy sb rc sg ex)) k_L_sum_0 kc_L_sum_0 rfl ⟨trivial, trivial, trivial⟩ ?_
  refine Run.callS (As := [.int x, .int (0 : Int32)]) (rest := []) v_L_sum_2 (c_L_arePages x (0 : Int32)) rfl (Nat.le_of_ble_eq_true rfl) rfl (fun r cs' hp => ?_)
  obtain ⟨rfl, rfl⟩ := hp
  show Run _ _ _ _ 5 ([some (.ref 0), some (.int x), some (.int (0 : Int32)), none, none], [.int (if (0 : Int32).toInt = 0 ∨ (0 < (0 : Int32).toInt ∧ (0 : Int32).toInt ≤ 64 ∧ 0 ≤ x.toInt ∧ x.toInt ≤ 64 - (0 : Int32).toInt) then 1 else 0)], Ac fp le lp lb il tf tz bf rf fr mp sc ifp ib ie pw dh rl rb re sy sb rc sg ex) _
  refine Run.br (tgt := 10) d_L_sum_5 rfl (by decide) (fun c_1 => ?_) (fun c_1 => ?_)
  · have c_1 := zi_t c_1
    refine Run.blk (gs := [True, True, True, True]) (S' := ([some (.ref 0), some (.int x), some (.int (0 : Int32)), some (.int (7 : Int32)), some (.int (0 : Int32))], [], Ac fp le lp lb il tf tz bf rf fr mp sc ifp ib ie pw dh rl rb re sy sb rc sg ex)) k_L_sum_10 kc_L_sum_10 rfl ⟨trivial, trivial, trivial, trivial, trivial⟩ ?_
    refine Run.blk (gs := [True, True]) (S' := ([some (.ref 0), some (.int x), some (.int (0 : Int32)), some (.int (7 : Int32)), some (.int (0 : Int32))], [.int (0 : Int32), .int (0 : Int32)], Ac fp le lp lb il tf tz bf rf fr mp sc ifp ib ie pw dh rl rb re sy sb rc sg ex)) k_L_sum_16 kc_L_sum_16 rfl ⟨trivial, trivial, trivial⟩ ?_
    refine Run.br (tgt := 41) d_L_sum_19 rfl (by decide) (fun c_2 => ?_) (fun c_2 => ?_)
    · refine Run.blk (gs := [True]) (S' := ([some (.ref 0), some (.int x), some (.int (0 : Int32)), some (.int (7 : Int32)), some (.int (0 : Int32))], [.int (7 : Int32)], Ac fp le lp lb il tf tz bf rf fr mp sc ifp ib ie pw dh rl rb re sy sb rc sg ex)) k_L_sum_41 kc_L_sum_41 rfl ⟨trivial, trivial⟩ ?_
      exact Run.ret (r := some (.int (7 : Int32))) ⟨d_L_sum_42, _, rfl, rfl⟩ ⟨rfl, rfl⟩
    · exact absurd (by decide) c_2
  · have c_1 := zi_f (Classical.not_not.mp c_1)
    exact absurd (Or.inl (by decide)) c_1
set_option maxRecDepth 100000 in
set_option maxHeartbeats 4000000 in
theorem l_L_sum (hb : ∀ j, b j < 256) {p k : Nat} (hpk : p + k ≤ 64) : ∀ (r i : Nat) (s v : Int32), v = nI i → s = sS b rf p i → i + r = k → Run m_L_sum n 0 0 16 ([some (.ref 0), some (.int (nI p)), some (.int (nI k)), some (.int s), some (.int v)], [], Ac fp le lp lb il tf tz (sbf b) rf fr mp sc ifp ib ie pw dh rl rb re sy sb rc sg ex) (vm_is (some (.int (sS b rf p k))) (Ac fp le lp lb il tf tz (sbf b) rf fr mp sc ifp ib ie pw dh rl rb re sy sb rc sg ex))
  | 0, i, s, v, hv, hs, h => by
    have hik : i = k := by omega
    refine Run.blk (gs := [True, True]) (S' := ([some (.ref 0), some (.int (nI p)), some (.int (nI k)), some (.int s), some (.int v)], [.int (nI k), .int v], Ac fp le lp lb il tf tz (sbf b) rf fr mp sc ifp ib ie pw dh rl rb re sy sb rc sg ex)) k_L_sum_16 kc_L_sum_16 rfl ⟨trivial, trivial, trivial⟩ ?_
    refine Run.br (tgt := 41) d_L_sum_19 rfl (by decide) (fun c_1 => ?_) (fun c_1 => ?_)
    · refine Run.blk (gs := [True]) (S' := ([some (.ref 0), some (.int (nI p)), some (.int (nI k)), some (.int s), some (.int v)], [.int s], Ac fp le lp lb il tf tz (sbf b) rf fr mp sc ifp ib ie pw dh rl rb re sy sb rc sg ex)) k_L_sum_41 kc_L_sum_41 rfl ⟨trivial, trivial⟩ ?_
      exact Run.ret (r := some (.int s)) ⟨d_L_sum_42, _, rfl, rfl⟩ ⟨by rw [hs, hik], rfl⟩
    · exact absurd (by rw [hv, hik]; exact Int32.le_refl _) c_1
  | r + 1, i, s, v, hv, hs, h => by
    refine Run.blk (gs := [True, True]) (S' := ([some (.ref 0), some (.int (nI p)), some (.int (nI k)), some (.int s), some (.int v)], [.int (nI k), .int v], Ac fp le lp lb il tf tz (sbf b) rf fr mp sc ifp ib ie pw dh rl rb re sy sb rc sg ex)) k_L_sum_16 kc_L_sum_16 rfl ⟨trivial, trivial, trivial⟩ ?_
    refine Run.br (tgt := 41) d_L_sum_19 rfl (by decide) (fun c_1 => ?_) (fun c_1 => ?_)
    · exact absurd c_1 (by rw [hv]; exact nI_ge (show i < k by omega) (by omega))
    · refine Run.blk (gs := [True, True, True, True, True, True]) (S' := ([some (.ref 0), some (.int (nI p)), some (.int (nI k)), some (.int s), some (.int v)], [.int ((nI p) + v), .int s, .ref 3], Ac fp le lp lb il tf tz (sbf b) rf fr mp sc ifp ib ie pw dh rl rb re sy sb rc sg ex)) k_L_sum_22 kc_L_sum_22 rfl ⟨trivial, trivial, trivial, trivial, trivial, trivial, trivial⟩ ?_
      refine Run.callV (b := 3) (As := [.int s, .int ((nI p) + v)]) (rest := []) v_L_sum_31 (c_P_sumOn (p := p + i) (by rw [hv, nI_add]) (by omega) hb) rfl (Nat.le_of_ble_eq_true rfl) rfl rfl rfl rfl (fun r cs' hp => ?_)
      obtain ⟨rfl, rfl⟩ := hp
      show Run _ _ _ _ 34 ([some (.ref 0), some (.int (nI p)), some (.int (nI k)), some (.int s), some (.int v)], [.int (if rf (p + i) = -1 then sm0 s 256 else sm1 b (p + i) s 256)], Ac fp le lp lb il tf tz (sbf b) rf fr mp sc ifp ib ie pw dh rl rb re sy sb rc sg ex) _
      refine Run.blk (gs := [True, True]) (S' := ([some (.ref 0), some (.int (nI p)), some (.int (nI k)), some (.int (if rf (p + i) = -1 then sm0 s 256 else sm1 b (p + i) s 256)), some (.int (v + (1 : Int32)))], [], Ac fp le lp lb il tf tz (sbf b) rf fr mp sc ifp ib ie pw dh rl rb re sy sb rc sg ex)) k_L_sum_34 kc_L_sum_34 rfl ⟨trivial, trivial, trivial⟩ ?_
      refine Run.goto (tgt := 16) d_L_sum_38 (by decide) ?_
      exact l_L_sum hb hpk r (i + 1) _ _ (by rw [hv, nI_1]) (by rw [hs]; rfl) (by omega)
set_option maxRecDepth 100000 in
set_option maxHeartbeats 4000000 in
theorem c_L_sum_B (hb : ∀ j, b j < 256) {p k : Nat} {x y : Int32} (hx : x = nI p) (hy : y = nI k) (h1 : 1 ≤ k) (h2 : p + k ≤ 64) : Ct m_L_sum 0 0 [.ref 0, .int x, .int y] (Ac fp le lp lb il tf tz (sbf b) rf fr mp sc ifp ib ie pw dh rl rb re sy sb rc sg ex) (vm_is (some (.int (sS b rf p k))) (Ac fp le lp lb il tf tz (sbf b) rf fr mp sc ifp ib ie pw dh rl rb re sy sb rc sg ex)) := by
  subst hx
  subst hy
  refine Ct.of ⟨by decide +kernel, rfl⟩ (Nat.le_of_ble_eq_true rfl) (lv := [some (.ref 0), some (.int (nI p)), some (.int (nI k)), none, none]) rfl ?_
  refine Run.blk (gs := [True, True]) (S' := ([some (.ref 0), some (.int (nI p)), some (.int (nI k)), none, none], [.int (nI k), .int (nI p)], Ac fp le lp lb il tf tz (sbf b) rf fr mp sc ifp ib ie pw dh rl rb re sy sb rc sg ex)) k_L_sum_0 kc_L_sum_0 rfl ⟨trivial, trivial, trivial⟩ ?_
  refine Run.callS (As := [.int (nI p), .int (nI k)]) (rest := []) v_L_sum_2 (c_L_arePages (nI p) (nI k)) rfl (Nat.le_of_ble_eq_true rfl) rfl (fun r cs' hp => ?_)
  obtain ⟨rfl, rfl⟩ := hp
  show Run _ _ _ _ 5 ([some (.ref 0), some (.int (nI p)), some (.int (nI k)), none, none], [.int (if (nI k).toInt = 0 ∨ (0 < (nI k).toInt ∧ (nI k).toInt ≤ 64 ∧ 0 ≤ (nI p).toInt ∧ (nI p).toInt ≤ 64 - (nI k).toInt) then 1 else 0)], Ac fp le lp lb il tf tz (sbf b) rf fr mp sc ifp ib ie pw dh rl rb re sy sb rc sg ex) _
  refine Run.br (tgt := 10) d_L_sum_5 rfl (by decide) (fun c_1 => ?_) (fun c_1 => ?_)
  · have c_1 := zi_t c_1
    refine Run.blk (gs := [True, True, True, True]) (S' := ([some (.ref 0), some (.int (nI p)), some (.int (nI k)), some (.int (7 : Int32)), some (.int (0 : Int32))], [], Ac fp le lp lb il tf tz (sbf b) rf fr mp sc ifp ib ie pw dh rl rb re sy sb rc sg ex)) k_L_sum_10 kc_L_sum_10 rfl ⟨trivial, trivial, trivial, trivial, trivial⟩ ?_
    exact l_L_sum hb h2 k 0 _ _ rfl rfl (by omega)
  · have c_1 := zi_f (Classical.not_not.mp c_1)
    exfalso; apply c_1; rw [nI_toInt (show p < 2 ^ 31 by omega), nI_toInt (show k < 2 ^ 31 by omega)]; omega
end P20
