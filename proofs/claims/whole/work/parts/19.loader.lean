section P19
variable {fp le lp lb il : Int32} {tf bf rf : Nat → Int32} {tz fr mp sc ifp ib ie pw dh rc : Int32} {rl rb re sy sb : Int64} {sg : Nat → A_G} {ex : List va_E}
variable {t b : Nat → Nat} {z n : Nat}
theorem ti8 : (8 : Int32).toInt = 8 := by decide
theorem ti900 : (900 : Int32).toInt = 900 := by decide
theorem ti7 : (7 : Int32).toInt = 7 := by decide
theorem tim1 : (-1 : Int32).toInt = -1 := by decide
theorem lb8_nI (a : Nat) : lb8 (nI a) = a % 256 := by
  unfold lb8
  show (BitVec.ofNat 32 a).toNat % 256 = a % 256
  rw [BitVec.toNat_ofNat]
  omega
def wby (w : Int64) (i : Nat) : Nat := w.toBitVec.toNat / 256 ^ i % 256
theorem wby_lt (w : Int64) (i : Nat) : wby w i < 256 := Nat.mod_lt _ (by decide)
theorem lb8_w (w : Int64) {v : Int32} {i : Nat} (hv : v = nI i) (hi : i < 8) : lb8 (w.toUInt64 >>> (((8 : Int32) * v).toInt64.toUInt64 &&& Int64.toUInt64 63)).toInt64.toInt32 = wby w i := by
  obtain ⟨m, hm, rfl⟩ := wb_of w
  rw [hv, show (8 : Int32) * nI i = nI (8 * i) from pk_mul 8 i, wb_shr hm (by omega), lN_i, lb8_nI, Nat.pow_mul]
  unfold wby
  rw [wb_tn hm]
def apW (t : Nat → Nat) (z : Nat) (w : Int64) : Nat → Nat → Nat
  | 0 => t
  | k + 1 => upN (apW t z w k) (z + k) (wby w k)
theorem nI_ret {k lo hi : Nat} {x : Int32} (hx : x = nI k) (hk : k < 2 ^ 31) : x.toInt = (k : Int) := by rw [hx, nI_toInt hk]
set_option maxRecDepth 100000 in
set_option maxHeartbeats 4000000 in
theorem c_L_add_A (w : Int64) {x : Int32} (hx : ¬ (1 ≤ x.toInt ∧ x.toInt ≤ 8)) : Ct m_L_add 0 0 [.ref 0, .long w, .int x] (Ac fp le lp lb il tf (nI z) bf rf fr mp sc ifp ib ie pw dh rl rb re sy sb rc sg ex) (vm_is (some (.int (-2 : Int32))) (Ac fp le lp lb il tf (nI z) bf rf fr mp sc ifp ib ie pw dh rl rb re sy sb rc sg ex)) := by
  refine Ct.of ⟨by decide +kernel, rfl⟩ (Nat.le_of_ble_eq_true rfl) (lv := [some (.ref 0), some (.long w), none, some (.int x), none]) rfl ?_
  refine Run.blk (gs := [True, True]) (S' := ([some (.ref 0), some (.long w), none, some (.int x), none], [.int (1 : Int32), .int x], Ac fp le lp lb il tf (nI z) bf rf fr mp sc ifp ib ie pw dh rl rb re sy sb rc sg ex)) k_L_add_0 kc_L_add_0 rfl ⟨trivial, trivial, trivial⟩ ?_
  refine Run.br (tgt := 11) d_L_add_2 rfl (by decide) (fun c_1 => ?_) (fun c_1 => ?_)
  · refine Run.blk (gs := [True]) (S' := ([some (.ref 0), some (.long w), none, some (.int x), none], [.int (-2 : Int32)], Ac fp le lp lb il tf (nI z) bf rf fr mp sc ifp ib ie pw dh rl rb re sy sb rc sg ex)) k_L_add_11 kc_L_add_11 rfl ⟨trivial, trivial⟩ ?_
    exact Run.ret (r := some (.int (-2 : Int32))) ⟨d_L_add_13, _, rfl, rfl⟩ ⟨rfl, rfl⟩
  · refine Run.blk (gs := [True, True]) (S' := ([some (.ref 0), some (.long w), none, some (.int x), none], [.int (8 : Int32), .int x], Ac fp le lp lb il tf (nI z) bf rf fr mp sc ifp ib ie pw dh rl rb re sy sb rc sg ex)) k_L_add_5 kc_L_add_5 rfl ⟨trivial, trivial, trivial⟩ ?_
    refine Run.br (tgt := 14) d_L_add_8 rfl (by decide) (fun c_2 => ?_) (fun c_2 => ?_)
    · exfalso; simp only [← Int32.toInt_inj, Int32.lt_iff_toInt_lt, Int32.le_iff_toInt_le, t0, t1, t2, t4, t64, ti7, ti8, ti900, tim1] at *; omega
    · refine Run.blk (gs := [True]) (S' := ([some (.ref 0), some (.long w), none, some (.int x), none], [.int (-2 : Int32)], Ac fp le lp lb il tf (nI z) bf rf fr mp sc ifp ib ie pw dh rl rb re sy sb rc sg ex)) k_L_add_11 kc_L_add_11 rfl ⟨trivial, trivial⟩ ?_
      exact Run.ret (r := some (.int (-2 : Int32))) ⟨d_L_add_13, _, rfl, rfl⟩ ⟨rfl, rfl⟩
set_option maxRecDepth 100000 in
set_option maxHeartbeats 4000000 in
theorem c_L_add_B (w : Int64) {k : Nat} (hz : z ≤ 900) {x : Int32} (hx : x = nI k) (h1 : 1 ≤ k) (h2 : k ≤ 8) (h3 : 900 < z + k) : Ct m_L_add 0 0 [.ref 0, .long w, .int x] (Ac fp le lp lb il tf (nI z) bf rf fr mp sc ifp ib ie pw dh rl rb re sy sb rc sg ex) (vm_is (some (.int (-3 : Int32))) (Ac fp le lp lb il tf (nI z) bf rf fr mp sc ifp ib ie pw dh rl rb re sy sb rc sg ex)) := by
  subst hx
  refine Ct.of ⟨by decide +kernel, rfl⟩ (Nat.le_of_ble_eq_true rfl) (lv := [some (.ref 0), some (.long w), none, some (.int (nI k)), none]) rfl ?_
  refine Run.blk (gs := [True, True]) (S' := ([some (.ref 0), some (.long w), none, some (.int (nI k)), none], [.int (1 : Int32), .int (nI k)], Ac fp le lp lb il tf (nI z) bf rf fr mp sc ifp ib ie pw dh rl rb re sy sb rc sg ex)) k_L_add_0 kc_L_add_0 rfl ⟨trivial, trivial, trivial⟩ ?_
  refine Run.br (tgt := 11) d_L_add_2 rfl (by decide) (fun c_1 => ?_) (fun c_1 => ?_)
  · exfalso; simp only [← Int32.toInt_inj, Int32.lt_iff_toInt_lt, Int32.le_iff_toInt_le, t0, t1, t2, t4, t64, ti7, ti8, ti900, tim1, nI_toInt (show k < 2 ^ 31 by omega)] at *; omega
  · refine Run.blk (gs := [True, True]) (S' := ([some (.ref 0), some (.long w), none, some (.int (nI k)), none], [.int (8 : Int32), .int (nI k)], Ac fp le lp lb il tf (nI z) bf rf fr mp sc ifp ib ie pw dh rl rb re sy sb rc sg ex)) k_L_add_5 kc_L_add_5 rfl ⟨trivial, trivial, trivial⟩ ?_
    refine Run.br (tgt := 14) d_L_add_8 rfl (by decide) (fun c_2 => ?_) (fun c_2 => ?_)
    · refine Run.blk (gs := [True, True, True]) (S' := ([some (.ref 0), some (.long w), none, some (.int (nI k)), none], [.int (nI k), .ref 1], Ac fp le lp lb il tf (nI z) bf rf fr mp sc ifp ib ie pw dh rl rb re sy sb rc sg ex)) k_L_add_14 kc_L_add_14 rfl ⟨trivial, trivial, trivial, trivial⟩ ?_
      refine Run.callV (b := 1) (As := [.int (nI k)]) (rest := []) v_L_add_19 c_T_hasRoomFor rfl (Nat.le_of_ble_eq_true rfl) rfl rfl rfl rfl (fun r cs' hp => ?_)
      obtain ⟨rfl, rfl⟩ := hp
      show Run _ _ _ _ 22 ([some (.ref 0), some (.long w), none, some (.int (nI k)), none], [.int (if (nI k) ≤ 900 - nI z then 1 else 0)], Ac fp le lp lb il tf (nI z) bf rf fr mp sc ifp ib ie pw dh rl rb re sy sb rc sg ex) _
      refine Run.br (tgt := 28) d_L_add_22 rfl (by decide) (fun c_3 => ?_) (fun c_3 => ?_)
      · have c_3 := zi_t c_3
        exfalso; rw [nI_sub900 hz] at c_3; simp only [← Int32.toInt_inj, Int32.lt_iff_toInt_lt, Int32.le_iff_toInt_le, t0, t1, t2, t4, t64, ti7, ti8, ti900, tim1, nI_toInt (show k < 2 ^ 31 by omega), nI_toInt (show 900 - z < 2 ^ 31 by omega)] at *; omega
      · have c_3 := zi_f (Classical.not_not.mp c_3)
        refine Run.blk (gs := [True]) (S' := ([some (.ref 0), some (.long w), none, some (.int (nI k)), none], [.int (-3 : Int32)], Ac fp le lp lb il tf (nI z) bf rf fr mp sc ifp ib ie pw dh rl rb re sy sb rc sg ex)) k_L_add_25 kc_L_add_25 rfl ⟨trivial, trivial⟩ ?_
        exact Run.ret (r := some (.int (-3 : Int32))) ⟨d_L_add_27, _, rfl, rfl⟩ ⟨rfl, rfl⟩
    · exfalso; simp only [← Int32.toInt_inj, Int32.lt_iff_toInt_lt, Int32.le_iff_toInt_le, t0, t1, t2, t4, t64, ti7, ti8, ti900, tim1, nI_toInt (show k < 2 ^ 31 by omega)] at *; omega
set_option maxRecDepth 100000 in
set_option maxHeartbeats 4000000 in
theorem l_L_add {k : Nat} (w : Int64) (hk : k ≤ 8) (hzk : z + k ≤ 900) : ∀ (r i : Nat) (v : Int32) (tt : Nat → Nat) (zz : Nat), v = nI i → tt = apW t z w i → zz = z + i → i + r = k → Run m_L_add n 0 0 31 ([some (.ref 0), some (.long w), none, some (.int (nI k)), some (.int v)], [], Ac fp le lp lb il (sbf tt) (nI zz) bf rf fr mp sc ifp ib ie pw dh rl rb re sy sb rc sg ex) (vm_is (some (.int (nI (z + k)))) (Ac fp le lp lb il (sbf (apW t z w k)) (nI (z + k)) bf rf fr mp sc ifp ib ie pw dh rl rb re sy sb rc sg ex))
  | 0, i, v, tt, zz, hv, htt, hzz, h => by
    have hik : i = k := by omega
    refine Run.blk (gs := [True, True]) (S' := ([some (.ref 0), some (.long w), none, some (.int (nI k)), some (.int v)], [.int (nI k), .int v], Ac fp le lp lb il (sbf tt) (nI zz) bf rf fr mp sc ifp ib ie pw dh rl rb re sy sb rc sg ex)) k_L_add_31 kc_L_add_31 rfl ⟨trivial, trivial, trivial⟩ ?_
    refine Run.br (tgt := 58) d_L_add_34 rfl (by decide) (fun c_1 => ?_) (fun c_1 => ?_)
    · refine Run.blk (gs := [True, True]) (S' := ([some (.ref 0), some (.long w), none, some (.int (nI k)), some (.int v)], [.ref 1], Ac fp le lp lb il (sbf tt) (nI zz) bf rf fr mp sc ifp ib ie pw dh rl rb re sy sb rc sg ex)) k_L_add_58 kc_L_add_58 rfl ⟨trivial, trivial, trivial⟩ ?_
      refine Run.callV (b := 1) (As := []) (rest := []) v_L_add_62 c_T_size rfl (Nat.le_of_ble_eq_true rfl) rfl rfl rfl rfl (fun r cs' hp => ?_)
      obtain ⟨rfl, rfl⟩ := hp
      show Run _ _ _ _ 65 ([some (.ref 0), some (.long w), none, some (.int (nI k)), some (.int v)], [.int (nI zz)], Ac fp le lp lb il (sbf tt) (nI zz) bf rf fr mp sc ifp ib ie pw dh rl rb re sy sb rc sg ex) _
      exact Run.ret (r := some (.int (nI zz))) ⟨d_L_add_65, _, rfl, rfl⟩ ⟨by rw [hzz, hik], by rw [htt, hzz, hik]⟩
    · exact absurd (by rw [hv, hik]; exact Int32.le_refl _) c_1
  | r + 1, i, v, tt, zz, hv, htt, hzz, h => by
    refine Run.blk (gs := [True, True]) (S' := ([some (.ref 0), some (.long w), none, some (.int (nI k)), some (.int v)], [.int (nI k), .int v], Ac fp le lp lb il (sbf tt) (nI zz) bf rf fr mp sc ifp ib ie pw dh rl rb re sy sb rc sg ex)) k_L_add_31 kc_L_add_31 rfl ⟨trivial, trivial, trivial⟩ ?_
    refine Run.br (tgt := 58) d_L_add_34 rfl (by decide) (fun c_1 => ?_) (fun c_1 => ?_)
    · exact absurd c_1 (by rw [hv]; exact nI_ge (show i < k by omega) (by omega))
    · refine Run.blk (gs := [True, True, True, True, True, True, True, True]) (S' := ([some (.ref 0), some (.long w), none, some (.int (nI k)), some (.int v)], [.int (((w.toUInt64 >>> (((8 : Int32) * v).toInt64.toUInt64 &&& Int64.toUInt64 63)).toInt64).toInt32), .ref 1], Ac fp le lp lb il (sbf tt) (nI zz) bf rf fr mp sc ifp ib ie pw dh rl rb re sy sb rc sg ex)) k_L_add_37 kc_L_add_37 rfl ⟨trivial, trivial, trivial, trivial, trivial, trivial, trivial, trivial, trivial⟩ ?_
      refine Run.callV (b := 1) (As := [.int (((w.toUInt64 >>> (((8 : Int32) * v).toInt64.toUInt64 &&& Int64.toUInt64 63)).toInt64).toInt32)]) (rest := []) v_L_add_49 (c_T_append (by omega)) rfl (Nat.le_of_ble_eq_true rfl) rfl rfl rfl rfl (fun r cs' hp => ?_)
      obtain ⟨rfl, rfl⟩ := hp
      show Run _ _ _ _ 52 ([some (.ref 0), some (.long w), none, some (.int (nI k)), some (.int v)], [], Ac fp le lp lb il (sbf (upN tt zz (lb8 (((w.toUInt64 >>> (((8 : Int32) * v).toInt64.toUInt64 &&& Int64.toUInt64 63)).toInt64).toInt32)))) (nI (zz + 1)) bf rf fr mp sc ifp ib ie pw dh rl rb re sy sb rc sg ex) _
      refine Run.blk (gs := [True]) (S' := ([some (.ref 0), some (.long w), none, some (.int (nI k)), some (.int (v + (1 : Int32)))], [], Ac fp le lp lb il (sbf (upN tt zz (lb8 (((w.toUInt64 >>> (((8 : Int32) * v).toInt64.toUInt64 &&& Int64.toUInt64 63)).toInt64).toInt32)))) (nI (zz + 1)) bf rf fr mp sc ifp ib ie pw dh rl rb re sy sb rc sg ex)) k_L_add_52 kc_L_add_52 rfl ⟨trivial, trivial⟩ ?_
      refine Run.goto (tgt := 31) d_L_add_55 (by decide) ?_
      exact l_L_add w hk hzk r (i + 1) _ _ _ (by rw [hv, nI_1]) (by rw [htt, lb8_w w hv (by omega), hzz]; rfl) (by omega) (by omega)
set_option maxRecDepth 100000 in
set_option maxHeartbeats 4000000 in
theorem c_L_add_C (w : Int64) {k : Nat} {x : Int32} (hx : x = nI k) (h1 : 1 ≤ k) (h2 : k ≤ 8) (h3 : z + k ≤ 900) : Ct m_L_add 0 0 [.ref 0, .long w, .int x] (Ac fp le lp lb il (sbf t) (nI z) bf rf fr mp sc ifp ib ie pw dh rl rb re sy sb rc sg ex) (vm_is (some (.int (nI (z + k)))) (Ac fp le lp lb il (sbf (apW t z w k)) (nI (z + k)) bf rf fr mp sc ifp ib ie pw dh rl rb re sy sb rc sg ex)) := by
  subst hx
  refine Ct.of ⟨by decide +kernel, rfl⟩ (Nat.le_of_ble_eq_true rfl) (lv := [some (.ref 0), some (.long w), none, some (.int (nI k)), none]) rfl ?_
  refine Run.blk (gs := [True, True]) (S' := ([some (.ref 0), some (.long w), none, some (.int (nI k)), none], [.int (1 : Int32), .int (nI k)], Ac fp le lp lb il (sbf t) (nI z) bf rf fr mp sc ifp ib ie pw dh rl rb re sy sb rc sg ex)) k_L_add_0 kc_L_add_0 rfl ⟨trivial, trivial, trivial⟩ ?_
  refine Run.br (tgt := 11) d_L_add_2 rfl (by decide) (fun c_1 => ?_) (fun c_1 => ?_)
  · exfalso; simp only [← Int32.toInt_inj, Int32.lt_iff_toInt_lt, Int32.le_iff_toInt_le, t0, t1, t2, t4, t64, ti7, ti8, ti900, tim1, nI_toInt (show k < 2 ^ 31 by omega)] at *; omega
  · refine Run.blk (gs := [True, True]) (S' := ([some (.ref 0), some (.long w), none, some (.int (nI k)), none], [.int (8 : Int32), .int (nI k)], Ac fp le lp lb il (sbf t) (nI z) bf rf fr mp sc ifp ib ie pw dh rl rb re sy sb rc sg ex)) k_L_add_5 kc_L_add_5 rfl ⟨trivial, trivial, trivial⟩ ?_
    refine Run.br (tgt := 14) d_L_add_8 rfl (by decide) (fun c_2 => ?_) (fun c_2 => ?_)
    · refine Run.blk (gs := [True, True, True]) (S' := ([some (.ref 0), some (.long w), none, some (.int (nI k)), none], [.int (nI k), .ref 1], Ac fp le lp lb il (sbf t) (nI z) bf rf fr mp sc ifp ib ie pw dh rl rb re sy sb rc sg ex)) k_L_add_14 kc_L_add_14 rfl ⟨trivial, trivial, trivial, trivial⟩ ?_
      refine Run.callV (b := 1) (As := [.int (nI k)]) (rest := []) v_L_add_19 c_T_hasRoomFor rfl (Nat.le_of_ble_eq_true rfl) rfl rfl rfl rfl (fun r cs' hp => ?_)
      obtain ⟨rfl, rfl⟩ := hp
      show Run _ _ _ _ 22 ([some (.ref 0), some (.long w), none, some (.int (nI k)), none], [.int (if (nI k) ≤ 900 - nI z then 1 else 0)], Ac fp le lp lb il (sbf t) (nI z) bf rf fr mp sc ifp ib ie pw dh rl rb re sy sb rc sg ex) _
      refine Run.br (tgt := 28) d_L_add_22 rfl (by decide) (fun c_3 => ?_) (fun c_3 => ?_)
      · have c_3 := zi_t c_3
        refine Run.blk (gs := [True, True]) (S' := ([some (.ref 0), some (.long w), none, some (.int (nI k)), some (.int (0 : Int32))], [], Ac fp le lp lb il (sbf t) (nI z) bf rf fr mp sc ifp ib ie pw dh rl rb re sy sb rc sg ex)) k_L_add_28 kc_L_add_28 rfl ⟨trivial, trivial, trivial⟩ ?_
        exact l_L_add w h2 h3 k 0 _ _ _ rfl rfl rfl (by omega)
      · have c_3 := zi_f (Classical.not_not.mp c_3)
        exfalso; rw [nI_sub900 (by omega)] at c_3; simp only [← Int32.toInt_inj, Int32.lt_iff_toInt_lt, Int32.le_iff_toInt_le, t0, t1, t2, t4, t64, ti7, ti8, ti900, tim1, nI_toInt (show k < 2 ^ 31 by omega), nI_toInt (show 900 - z < 2 ^ 31 by omega)] at *; omega
    · exfalso; simp only [← Int32.toInt_inj, Int32.lt_iff_toInt_lt, Int32.le_iff_toInt_le, t0, t1, t2, t4, t64, ti7, ti8, ti900, tim1, nI_toInt (show k < 2 ^ 31 by omega)] at *; omega
set_option maxRecDepth 100000 in
set_option maxHeartbeats 4000000 in
theorem c_L_zeros_A {x : Int32} (hx : ¬ (1 ≤ x.toInt ∧ x.toInt ≤ 900)) : Ct m_L_zeros 0 0 [.ref 0, .int x] (Ac fp le lp lb il tf (nI z) bf rf fr mp sc ifp ib ie pw dh rl rb re sy sb rc sg ex) (vm_is (some (.int (-2 : Int32))) (Ac fp le lp lb il tf (nI z) bf rf fr mp sc ifp ib ie pw dh rl rb re sy sb rc sg ex)) := by
  refine Ct.of ⟨by decide +kernel, rfl⟩ (Nat.le_of_ble_eq_true rfl) (lv := [some (.ref 0), some (.int x), none]) rfl ?_
  refine Run.blk (gs := [True, True]) (S' := ([some (.ref 0), some (.int x), none], [.int (1 : Int32), .int x], Ac fp le lp lb il tf (nI z) bf rf fr mp sc ifp ib ie pw dh rl rb re sy sb rc sg ex)) k_L_zeros_0 kc_L_zeros_0 rfl ⟨trivial, trivial, trivial⟩ ?_
  refine Run.br (tgt := 12) d_L_zeros_2 rfl (by decide) (fun c_1 => ?_) (fun c_1 => ?_)
  · refine Run.blk (gs := [True]) (S' := ([some (.ref 0), some (.int x), none], [.int (-2 : Int32)], Ac fp le lp lb il tf (nI z) bf rf fr mp sc ifp ib ie pw dh rl rb re sy sb rc sg ex)) k_L_zeros_12 kc_L_zeros_12 rfl ⟨trivial, trivial⟩ ?_
    exact Run.ret (r := some (.int (-2 : Int32))) ⟨d_L_zeros_14, _, rfl, rfl⟩ ⟨rfl, rfl⟩
  · refine Run.blk (gs := [True, True]) (S' := ([some (.ref 0), some (.int x), none], [.int (900 : Int32), .int x], Ac fp le lp lb il tf (nI z) bf rf fr mp sc ifp ib ie pw dh rl rb re sy sb rc sg ex)) k_L_zeros_5 kc_L_zeros_5 rfl ⟨trivial, trivial, trivial⟩ ?_
    refine Run.br (tgt := 15) d_L_zeros_9 rfl (by decide) (fun c_2 => ?_) (fun c_2 => ?_)
    · exfalso; simp only [← Int32.toInt_inj, Int32.lt_iff_toInt_lt, Int32.le_iff_toInt_le, t0, t1, t2, t4, t64, ti7, ti8, ti900, tim1] at *; omega
    · refine Run.blk (gs := [True]) (S' := ([some (.ref 0), some (.int x), none], [.int (-2 : Int32)], Ac fp le lp lb il tf (nI z) bf rf fr mp sc ifp ib ie pw dh rl rb re sy sb rc sg ex)) k_L_zeros_12 kc_L_zeros_12 rfl ⟨trivial, trivial⟩ ?_
      exact Run.ret (r := some (.int (-2 : Int32))) ⟨d_L_zeros_14, _, rfl, rfl⟩ ⟨rfl, rfl⟩
set_option maxRecDepth 100000 in
set_option maxHeartbeats 4000000 in
theorem c_L_zeros_B {k : Nat} (hz : z ≤ 900) {x : Int32} (hx : x = nI k) (h1 : 1 ≤ k) (h2 : k ≤ 900) (h3 : 900 < z + k) : Ct m_L_zeros 0 0 [.ref 0, .int x] (Ac fp le lp lb il tf (nI z) bf rf fr mp sc ifp ib ie pw dh rl rb re sy sb rc sg ex) (vm_is (some (.int (-3 : Int32))) (Ac fp le lp lb il tf (nI z) bf rf fr mp sc ifp ib ie pw dh rl rb re sy sb rc sg ex)) := by
  subst hx
  refine Ct.of ⟨by decide +kernel, rfl⟩ (Nat.le_of_ble_eq_true rfl) (lv := [some (.ref 0), some (.int (nI k)), none]) rfl ?_
  refine Run.blk (gs := [True, True]) (S' := ([some (.ref 0), some (.int (nI k)), none], [.int (1 : Int32), .int (nI k)], Ac fp le lp lb il tf (nI z) bf rf fr mp sc ifp ib ie pw dh rl rb re sy sb rc sg ex)) k_L_zeros_0 kc_L_zeros_0 rfl ⟨trivial, trivial, trivial⟩ ?_
  refine Run.br (tgt := 12) d_L_zeros_2 rfl (by decide) (fun c_1 => ?_) (fun c_1 => ?_)
  · exfalso; simp only [← Int32.toInt_inj, Int32.lt_iff_toInt_lt, Int32.le_iff_toInt_le, t0, t1, t2, t4, t64, ti7, ti8, ti900, tim1, nI_toInt (show k < 2 ^ 31 by omega)] at *; omega
  · refine Run.blk (gs := [True, True]) (S' := ([some (.ref 0), some (.int (nI k)), none], [.int (900 : Int32), .int (nI k)], Ac fp le lp lb il tf (nI z) bf rf fr mp sc ifp ib ie pw dh rl rb re sy sb rc sg ex)) k_L_zeros_5 kc_L_zeros_5 rfl ⟨trivial, trivial, trivial⟩ ?_
    refine Run.br (tgt := 15) d_L_zeros_9 rfl (by decide) (fun c_2 => ?_) (fun c_2 => ?_)
    · refine Run.blk (gs := [True, True, True]) (S' := ([some (.ref 0), some (.int (nI k)), none], [.int (nI k), .ref 1], Ac fp le lp lb il tf (nI z) bf rf fr mp sc ifp ib ie pw dh rl rb re sy sb rc sg ex)) k_L_zeros_15 kc_L_zeros_15 rfl ⟨trivial, trivial, trivial, trivial⟩ ?_
      refine Run.callV (b := 1) (As := [.int (nI k)]) (rest := []) v_L_zeros_20 c_T_hasRoomFor rfl (Nat.le_of_ble_eq_true rfl) rfl rfl rfl rfl (fun r cs' hp => ?_)
      obtain ⟨rfl, rfl⟩ := hp
      show Run _ _ _ _ 23 ([some (.ref 0), some (.int (nI k)), none], [.int (if (nI k) ≤ 900 - nI z then 1 else 0)], Ac fp le lp lb il tf (nI z) bf rf fr mp sc ifp ib ie pw dh rl rb re sy sb rc sg ex) _
      refine Run.br (tgt := 29) d_L_zeros_23 rfl (by decide) (fun c_3 => ?_) (fun c_3 => ?_)
      · have c_3 := zi_t c_3
        exfalso; rw [nI_sub900 hz] at c_3; simp only [← Int32.toInt_inj, Int32.lt_iff_toInt_lt, Int32.le_iff_toInt_le, t0, t1, t2, t4, t64, ti7, ti8, ti900, tim1, nI_toInt (show k < 2 ^ 31 by omega), nI_toInt (show 900 - z < 2 ^ 31 by omega)] at *; omega
      · have c_3 := zi_f (Classical.not_not.mp c_3)
        refine Run.blk (gs := [True]) (S' := ([some (.ref 0), some (.int (nI k)), none], [.int (-3 : Int32)], Ac fp le lp lb il tf (nI z) bf rf fr mp sc ifp ib ie pw dh rl rb re sy sb rc sg ex)) k_L_zeros_26 kc_L_zeros_26 rfl ⟨trivial, trivial⟩ ?_
        exact Run.ret (r := some (.int (-3 : Int32))) ⟨d_L_zeros_28, _, rfl, rfl⟩ ⟨rfl, rfl⟩
    · exfalso; simp only [← Int32.toInt_inj, Int32.lt_iff_toInt_lt, Int32.le_iff_toInt_le, t0, t1, t2, t4, t64, ti7, ti8, ti900, tim1, nI_toInt (show k < 2 ^ 31 by omega)] at *; omega
set_option maxRecDepth 100000 in
set_option maxHeartbeats 4000000 in
theorem l_L_zeros {k : Nat} (hk : k ≤ 900) (hzk : z + k ≤ 900) : ∀ (r i : Nat) (v : Int32) (tt : Nat → Nat) (zz : Nat), v = nI i → tt = fillN t z i 0 → zz = z + i → i + r = k → Run m_L_zeros n 0 0 31 ([some (.ref 0), some (.int (nI k)), some (.int v)], [], Ac fp le lp lb il (sbf tt) (nI zz) bf rf fr mp sc ifp ib ie pw dh rl rb re sy sb rc sg ex) (vm_is (some (.int (nI (z + k)))) (Ac fp le lp lb il (sbf (fillN t z k 0)) (nI (z + k)) bf rf fr mp sc ifp ib ie pw dh rl rb re sy sb rc sg ex))
  | 0, i, v, tt, zz, hv, htt, hzz, h => by
    have hik : i = k := by omega
    refine Run.blk (gs := [True, True]) (S' := ([some (.ref 0), some (.int (nI k)), some (.int v)], [.int (nI k), .int v], Ac fp le lp lb il (sbf tt) (nI zz) bf rf fr mp sc ifp ib ie pw dh rl rb re sy sb rc sg ex)) k_L_zeros_31 kc_L_zeros_31 rfl ⟨trivial, trivial, trivial⟩ ?_
    refine Run.br (tgt := 50) d_L_zeros_33 rfl (by decide) (fun c_1 => ?_) (fun c_1 => ?_)
    · refine Run.blk (gs := [True, True]) (S' := ([some (.ref 0), some (.int (nI k)), some (.int v)], [.ref 1], Ac fp le lp lb il (sbf tt) (nI zz) bf rf fr mp sc ifp ib ie pw dh rl rb re sy sb rc sg ex)) k_L_zeros_50 kc_L_zeros_50 rfl ⟨trivial, trivial, trivial⟩ ?_
      refine Run.callV (b := 1) (As := []) (rest := []) v_L_zeros_54 c_T_size rfl (Nat.le_of_ble_eq_true rfl) rfl rfl rfl rfl (fun r cs' hp => ?_)
      obtain ⟨rfl, rfl⟩ := hp
      show Run _ _ _ _ 57 ([some (.ref 0), some (.int (nI k)), some (.int v)], [.int (nI zz)], Ac fp le lp lb il (sbf tt) (nI zz) bf rf fr mp sc ifp ib ie pw dh rl rb re sy sb rc sg ex) _
      exact Run.ret (r := some (.int (nI zz))) ⟨d_L_zeros_57, _, rfl, rfl⟩ ⟨by rw [hzz, hik], by rw [htt, hzz, hik]⟩
    · exact absurd (by rw [hv, hik]; exact Int32.le_refl _) c_1
  | r + 1, i, v, tt, zz, hv, htt, hzz, h => by
    refine Run.blk (gs := [True, True]) (S' := ([some (.ref 0), some (.int (nI k)), some (.int v)], [.int (nI k), .int v], Ac fp le lp lb il (sbf tt) (nI zz) bf rf fr mp sc ifp ib ie pw dh rl rb re sy sb rc sg ex)) k_L_zeros_31 kc_L_zeros_31 rfl ⟨trivial, trivial, trivial⟩ ?_
    refine Run.br (tgt := 50) d_L_zeros_33 rfl (by decide) (fun c_1 => ?_) (fun c_1 => ?_)
    · exact absurd c_1 (by rw [hv]; exact nI_ge (show i < k by omega) (by omega))
    · refine Run.blk (gs := [True, True, True]) (S' := ([some (.ref 0), some (.int (nI k)), some (.int v)], [.int (0 : Int32), .ref 1], Ac fp le lp lb il (sbf tt) (nI zz) bf rf fr mp sc ifp ib ie pw dh rl rb re sy sb rc sg ex)) k_L_zeros_36 kc_L_zeros_36 rfl ⟨trivial, trivial, trivial, trivial⟩ ?_
      refine Run.callV (b := 1) (As := [.int (0 : Int32)]) (rest := []) v_L_zeros_41 (c_T_append (by omega)) rfl (Nat.le_of_ble_eq_true rfl) rfl rfl rfl rfl (fun r cs' hp => ?_)
      obtain ⟨rfl, rfl⟩ := hp
      show Run _ _ _ _ 44 ([some (.ref 0), some (.int (nI k)), some (.int v)], [], Ac fp le lp lb il (sbf (upN tt zz (lb8 0))) (nI (zz + 1)) bf rf fr mp sc ifp ib ie pw dh rl rb re sy sb rc sg ex) _
      refine Run.blk (gs := [True]) (S' := ([some (.ref 0), some (.int (nI k)), some (.int (v + (1 : Int32)))], [], Ac fp le lp lb il (sbf (upN tt zz (lb8 0))) (nI (zz + 1)) bf rf fr mp sc ifp ib ie pw dh rl rb re sy sb rc sg ex)) k_L_zeros_44 kc_L_zeros_44 rfl ⟨trivial, trivial⟩ ?_
      refine Run.goto (tgt := 31) d_L_zeros_47 (by decide) ?_
      exact l_L_zeros hk hzk r (i + 1) _ _ _ (by rw [hv, nI_1]) (by rw [htt, hzz, lb8_0, fillN_s]) (by omega) (by omega)
set_option maxRecDepth 100000 in
set_option maxHeartbeats 4000000 in
theorem c_L_zeros_C {k : Nat} {x : Int32} (hx : x = nI k) (h1 : 1 ≤ k) (h2 : k ≤ 900) (h3 : z + k ≤ 900) : Ct m_L_zeros 0 0 [.ref 0, .int x] (Ac fp le lp lb il (sbf t) (nI z) bf rf fr mp sc ifp ib ie pw dh rl rb re sy sb rc sg ex) (vm_is (some (.int (nI (z + k)))) (Ac fp le lp lb il (sbf (fillN t z k 0)) (nI (z + k)) bf rf fr mp sc ifp ib ie pw dh rl rb re sy sb rc sg ex)) := by
  subst hx
  refine Ct.of ⟨by decide +kernel, rfl⟩ (Nat.le_of_ble_eq_true rfl) (lv := [some (.ref 0), some (.int (nI k)), none]) rfl ?_
  refine Run.blk (gs := [True, True]) (S' := ([some (.ref 0), some (.int (nI k)), none], [.int (1 : Int32), .int (nI k)], Ac fp le lp lb il (sbf t) (nI z) bf rf fr mp sc ifp ib ie pw dh rl rb re sy sb rc sg ex)) k_L_zeros_0 kc_L_zeros_0 rfl ⟨trivial, trivial, trivial⟩ ?_
  refine Run.br (tgt := 12) d_L_zeros_2 rfl (by decide) (fun c_1 => ?_) (fun c_1 => ?_)
  · exfalso; simp only [← Int32.toInt_inj, Int32.lt_iff_toInt_lt, Int32.le_iff_toInt_le, t0, t1, t2, t4, t64, ti7, ti8, ti900, tim1, nI_toInt (show k < 2 ^ 31 by omega)] at *; omega
  · refine Run.blk (gs := [True, True]) (S' := ([some (.ref 0), some (.int (nI k)), none], [.int (900 : Int32), .int (nI k)], Ac fp le lp lb il (sbf t) (nI z) bf rf fr mp sc ifp ib ie pw dh rl rb re sy sb rc sg ex)) k_L_zeros_5 kc_L_zeros_5 rfl ⟨trivial, trivial, trivial⟩ ?_
    refine Run.br (tgt := 15) d_L_zeros_9 rfl (by decide) (fun c_2 => ?_) (fun c_2 => ?_)
    · refine Run.blk (gs := [True, True, True]) (S' := ([some (.ref 0), some (.int (nI k)), none], [.int (nI k), .ref 1], Ac fp le lp lb il (sbf t) (nI z) bf rf fr mp sc ifp ib ie pw dh rl rb re sy sb rc sg ex)) k_L_zeros_15 kc_L_zeros_15 rfl ⟨trivial, trivial, trivial, trivial⟩ ?_
      refine Run.callV (b := 1) (As := [.int (nI k)]) (rest := []) v_L_zeros_20 c_T_hasRoomFor rfl (Nat.le_of_ble_eq_true rfl) rfl rfl rfl rfl (fun r cs' hp => ?_)
      obtain ⟨rfl, rfl⟩ := hp
      show Run _ _ _ _ 23 ([some (.ref 0), some (.int (nI k)), none], [.int (if (nI k) ≤ 900 - nI z then 1 else 0)], Ac fp le lp lb il (sbf t) (nI z) bf rf fr mp sc ifp ib ie pw dh rl rb re sy sb rc sg ex) _
      refine Run.br (tgt := 29) d_L_zeros_23 rfl (by decide) (fun c_3 => ?_) (fun c_3 => ?_)
      · have c_3 := zi_t c_3
        refine Run.blk (gs := [True, True]) (S' := ([some (.ref 0), some (.int (nI k)), some (.int (0 : Int32))], [], Ac fp le lp lb il (sbf t) (nI z) bf rf fr mp sc ifp ib ie pw dh rl rb re sy sb rc sg ex)) k_L_zeros_29 kc_L_zeros_29 rfl ⟨trivial, trivial, trivial⟩ ?_
        exact l_L_zeros h2 h3 k 0 _ _ _ rfl (fillN_0 _ _ _).symm rfl (by omega)
      · have c_3 := zi_f (Classical.not_not.mp c_3)
        exfalso; rw [nI_sub900 (by omega)] at c_3; simp only [← Int32.toInt_inj, Int32.lt_iff_toInt_lt, Int32.le_iff_toInt_le, t0, t1, t2, t4, t64, ti7, ti8, ti900, tim1, nI_toInt (show k < 2 ^ 31 by omega), nI_toInt (show 900 - z < 2 ^ 31 by omega)] at *; omega
    · exfalso; simp only [← Int32.toInt_inj, Int32.lt_iff_toInt_lt, Int32.le_iff_toInt_le, t0, t1, t2, t4, t64, ti7, ti8, ti900, tim1, nI_toInt (show k < 2 ^ 31 by omega)] at *; omega
theorem tl1 : (1 : Int64).toInt = 1 := by decide
set_option maxRecDepth 100000 in
set_option maxHeartbeats 4000000 in
theorem c_L_peek_A (hz : z ≤ 900) {x : Int32} (hx : ¬ (0 ≤ x.toInt ∧ x.toInt < (z : Int))) : Ct m_L_peek 0 0 [.ref 0, .int x] (Ac fp le lp lb il tf (nI z) bf rf fr mp sc ifp ib ie pw dh rl rb re sy sb rc sg ex) (vm_is (some (.int (-1 : Int32))) (Ac fp le lp lb il tf (nI z) bf rf fr mp sc ifp ib ie pw dh rl rb re sy sb rc sg ex)) := by
  refine Ct.of ⟨by decide +kernel, rfl⟩ (Nat.le_of_ble_eq_true rfl) (lv := [some (.ref 0), some (.int x)]) rfl ?_
  refine Run.blk (gs := [True, True, True, True, True]) (S' := ([some (.ref 0), some (.int x)], [.long (1 : Int64), .long x.toInt64, .ref 1], Ac fp le lp lb il tf (nI z) bf rf fr mp sc ifp ib ie pw dh rl rb re sy sb rc sg ex)) k_L_peek_0 kc_L_peek_0 rfl ⟨trivial, trivial, trivial, trivial, trivial, trivial⟩ ?_
  refine Run.callV (b := 1) (As := [.long x.toInt64, .long (1 : Int64)]) (rest := []) v_L_peek_7 (c_T_has hz (a := x.toInt64) (b := (1 : Int64)) (by rw [i32_64]; have := i32_r x; omega) (by rw [i32_64]; have := i32_r x; omega) (by decide) (by decide)) rfl (Nat.le_of_ble_eq_true rfl) rfl rfl rfl rfl (fun r cs' hp => ?_)
  obtain ⟨rfl, rfl⟩ := hp
  show Run _ _ _ _ 10 ([some (.ref 0), some (.int x)], [.int (if 0 ≤ x.toInt64.toInt ∧ 0 ≤ (1 : Int64).toInt ∧ x.toInt64.toInt + (1 : Int64).toInt ≤ (z : Int) then 1 else 0)], Ac fp le lp lb il tf (nI z) bf rf fr mp sc ifp ib ie pw dh rl rb re sy sb rc sg ex) _
  refine Run.br (tgt := 24) d_L_peek_10 rfl (by decide) (fun c_1 => ?_) (fun c_1 => ?_)
  · have c_1 := zi_f c_1
    refine Run.blk (gs := [True]) (S' := ([some (.ref 0), some (.int x)], [.int (-1 : Int32)], Ac fp le lp lb il tf (nI z) bf rf fr mp sc ifp ib ie pw dh rl rb re sy sb rc sg ex)) k_L_peek_24 kc_L_peek_24 rfl ⟨trivial, trivial⟩ ?_
    exact Run.ret (r := some (.int (-1 : Int32))) ⟨d_L_peek_25, _, rfl, rfl⟩ ⟨rfl, rfl⟩
  · have c_1 := zi_t c_1
    exfalso; simp only [i32_64, tl1] at *; omega
set_option maxRecDepth 100000 in
set_option maxHeartbeats 4000000 in
theorem c_L_peek_B (ht : ∀ j, t j < 256) (hz : z ≤ 900) {p : Nat} {x : Int32} (hx : x = nI p) (hp : p < z) : Ct m_L_peek 0 0 [.ref 0, .int x] (Ac fp le lp lb il (sbf t) (nI z) bf rf fr mp sc ifp ib ie pw dh rl rb re sy sb rc sg ex) (vm_is (some (.int (nI (t p)))) (Ac fp le lp lb il (sbf t) (nI z) bf rf fr mp sc ifp ib ie pw dh rl rb re sy sb rc sg ex)) := by
  subst hx
  refine Ct.of ⟨by decide +kernel, rfl⟩ (Nat.le_of_ble_eq_true rfl) (lv := [some (.ref 0), some (.int (nI p))]) rfl ?_
  refine Run.blk (gs := [True, True, True, True, True]) (S' := ([some (.ref 0), some (.int (nI p))], [.long (1 : Int64), .long ((nI p).toInt64), .ref 1], Ac fp le lp lb il (sbf t) (nI z) bf rf fr mp sc ifp ib ie pw dh rl rb re sy sb rc sg ex)) k_L_peek_0 kc_L_peek_0 rfl ⟨trivial, trivial, trivial, trivial, trivial, trivial⟩ ?_
  refine Run.callV (b := 1) (As := [.long ((nI p).toInt64), .long (1 : Int64)]) (rest := []) v_L_peek_7 (c_T_has hz (a := ((nI p).toInt64)) (b := (1 : Int64)) (by rw [i32_64]; have := i32_r (nI p); omega) (by rw [i32_64]; have := i32_r (nI p); omega) (by decide) (by decide)) rfl (Nat.le_of_ble_eq_true rfl) rfl rfl rfl rfl (fun r cs' hp => ?_)
  obtain ⟨rfl, rfl⟩ := hp
  show Run _ _ _ _ 10 ([some (.ref 0), some (.int (nI p))], [.int (if 0 ≤ ((nI p).toInt64).toInt ∧ 0 ≤ (1 : Int64).toInt ∧ ((nI p).toInt64).toInt + (1 : Int64).toInt ≤ (z : Int) then 1 else 0)], Ac fp le lp lb il (sbf t) (nI z) bf rf fr mp sc ifp ib ie pw dh rl rb re sy sb rc sg ex) _
  refine Run.br (tgt := 24) d_L_peek_10 rfl (by decide) (fun c_1 => ?_) (fun c_1 => ?_)
  · have c_1 := zi_f c_1
    exfalso; simp only [i32_64, tl1, nI_toInt (show p < 2 ^ 31 by omega)] at *; omega
  · have c_1 := zi_t c_1
    refine Run.blk (gs := [True, True, True]) (S' := ([some (.ref 0), some (.int (nI p))], [.int (nI p), .ref 1], Ac fp le lp lb il (sbf t) (nI z) bf rf fr mp sc ifp ib ie pw dh rl rb re sy sb rc sg ex)) k_L_peek_13 kc_L_peek_13 rfl ⟨trivial, trivial, trivial, trivial⟩ ?_
    refine Run.callV (b := 1) (As := [.int (nI p)]) (rest := []) v_L_peek_18 (c_T_byteAt ht hz (p := p) rfl (by omega)) rfl (Nat.le_of_ble_eq_true rfl) rfl rfl rfl rfl (fun r cs' hp => ?_)
    obtain ⟨rfl, rfl⟩ := hp
    show Run _ _ _ _ 21 ([some (.ref 0), some (.int (nI p))], [.int (nI (tb t z p))], Ac fp le lp lb il (sbf t) (nI z) bf rf fr mp sc ifp ib ie pw dh rl rb re sy sb rc sg ex) _
    refine Run.goto (tgt := 25) d_L_peek_21 (by decide) ?_
    exact Run.ret (r := some (.int (nI (tb t z p)))) ⟨d_L_peek_25, _, rfl, rfl⟩ ⟨by rw [tb, if_pos hp], rfl⟩
set_option maxRecDepth 100000 in
set_option maxHeartbeats 4000000 in
theorem c_L_cut_A (hz : z ≤ 900) {x : Int32} (hx : ¬ (0 ≤ x.toInt ∧ x.toInt ≤ (z : Int))) : Ct m_L_cut 0 0 [.ref 0, .int x] (Ac fp le lp lb il tf (nI z) bf rf fr mp sc ifp ib ie pw dh rl rb re sy sb rc sg ex) (vm_is (some (.int (-2 : Int32))) (Ac fp le lp lb il tf (nI z) bf rf fr mp sc ifp ib ie pw dh rl rb re sy sb rc sg ex)) := by
  refine Ct.of ⟨by decide +kernel, rfl⟩ (Nat.le_of_ble_eq_true rfl) (lv := [some (.ref 0), some (.int x), none]) rfl ?_
  refine Run.blk (gs := [True, True]) (S' := ([some (.ref 0), some (.int x), none], [.ref 1], Ac fp le lp lb il tf (nI z) bf rf fr mp sc ifp ib ie pw dh rl rb re sy sb rc sg ex)) k_L_cut_0 kc_L_cut_0 rfl ⟨trivial, trivial, trivial⟩ ?_
  refine Run.callV (b := 1) (As := []) (rest := []) v_L_cut_4 c_T_size rfl (Nat.le_of_ble_eq_true rfl) rfl rfl rfl rfl (fun r cs' hp => ?_)
  obtain ⟨rfl, rfl⟩ := hp
  show Run _ _ _ _ 7 ([some (.ref 0), some (.int x), none], [.int (nI z)], Ac fp le lp lb il tf (nI z) bf rf fr mp sc ifp ib ie pw dh rl rb re sy sb rc sg ex) _
  refine Run.blk (gs := [True, True]) (S' := ([some (.ref 0), some (.int x), some (.int (nI z))], [.int x], Ac fp le lp lb il tf (nI z) bf rf fr mp sc ifp ib ie pw dh rl rb re sy sb rc sg ex)) k_L_cut_7 kc_L_cut_7 rfl ⟨trivial, trivial, trivial⟩ ?_
  refine Run.br (tgt := 17) d_L_cut_9 rfl (by decide) (fun c_1 => ?_) (fun c_1 => ?_)
  · refine Run.blk (gs := [True]) (S' := ([some (.ref 0), some (.int x), some (.int (nI z))], [.int (-2 : Int32)], Ac fp le lp lb il tf (nI z) bf rf fr mp sc ifp ib ie pw dh rl rb re sy sb rc sg ex)) k_L_cut_17 kc_L_cut_17 rfl ⟨trivial, trivial⟩ ?_
    exact Run.ret (r := some (.int (-2 : Int32))) ⟨d_L_cut_19, _, rfl, rfl⟩ ⟨rfl, rfl⟩
  · refine Run.blk (gs := [True, True]) (S' := ([some (.ref 0), some (.int x), some (.int (nI z))], [.int (nI z), .int x], Ac fp le lp lb il tf (nI z) bf rf fr mp sc ifp ib ie pw dh rl rb re sy sb rc sg ex)) k_L_cut_12 kc_L_cut_12 rfl ⟨trivial, trivial, trivial⟩ ?_
    refine Run.br (tgt := 20) d_L_cut_14 rfl (by decide) (fun c_2 => ?_) (fun c_2 => ?_)
    · exfalso; simp only [← Int32.toInt_inj, Int32.lt_iff_toInt_lt, Int32.le_iff_toInt_le, t0, t1, t2, t4, t64, ti7, ti8, ti900, tim1, nI_toInt (show z < 2 ^ 31 by omega)] at *; omega
    · refine Run.blk (gs := [True]) (S' := ([some (.ref 0), some (.int x), some (.int (nI z))], [.int (-2 : Int32)], Ac fp le lp lb il tf (nI z) bf rf fr mp sc ifp ib ie pw dh rl rb re sy sb rc sg ex)) k_L_cut_17 kc_L_cut_17 rfl ⟨trivial, trivial⟩ ?_
      exact Run.ret (r := some (.int (-2 : Int32))) ⟨d_L_cut_19, _, rfl, rfl⟩ ⟨rfl, rfl⟩
set_option maxRecDepth 100000 in
set_option maxHeartbeats 4000000 in
theorem c_L_cut_B (hz : z ≤ 900) {p : Nat} {x : Int32} (hx : x = nI p) (hp : p ≤ z) : Ct m_L_cut 0 0 [.ref 0, .int x] (Ac fp le lp lb il tf (nI z) bf rf fr mp sc ifp ib ie pw dh rl rb re sy sb rc sg ex) (vm_is (some (.int (nI (z - p)))) (Ac fp le lp lb il tf (nI p) bf rf fr mp sc ifp ib ie pw dh rl rb re sy sb rc sg ex)) := by
  subst hx
  refine Ct.of ⟨by decide +kernel, rfl⟩ (Nat.le_of_ble_eq_true rfl) (lv := [some (.ref 0), some (.int (nI p)), none]) rfl ?_
  refine Run.blk (gs := [True, True]) (S' := ([some (.ref 0), some (.int (nI p)), none], [.ref 1], Ac fp le lp lb il tf (nI z) bf rf fr mp sc ifp ib ie pw dh rl rb re sy sb rc sg ex)) k_L_cut_0 kc_L_cut_0 rfl ⟨trivial, trivial, trivial⟩ ?_
  refine Run.callV (b := 1) (As := []) (rest := []) v_L_cut_4 c_T_size rfl (Nat.le_of_ble_eq_true rfl) rfl rfl rfl rfl (fun r cs' hp => ?_)
  obtain ⟨rfl, rfl⟩ := hp
  show Run _ _ _ _ 7 ([some (.ref 0), some (.int (nI p)), none], [.int (nI z)], Ac fp le lp lb il tf (nI z) bf rf fr mp sc ifp ib ie pw dh rl rb re sy sb rc sg ex) _
  refine Run.blk (gs := [True, True]) (S' := ([some (.ref 0), some (.int (nI p)), some (.int (nI z))], [.int (nI p)], Ac fp le lp lb il tf (nI z) bf rf fr mp sc ifp ib ie pw dh rl rb re sy sb rc sg ex)) k_L_cut_7 kc_L_cut_7 rfl ⟨trivial, trivial, trivial⟩ ?_
  refine Run.br (tgt := 17) d_L_cut_9 rfl (by decide) (fun c_1 => ?_) (fun c_1 => ?_)
  · exfalso; simp only [← Int32.toInt_inj, Int32.lt_iff_toInt_lt, Int32.le_iff_toInt_le, t0, t1, t2, t4, t64, ti7, ti8, ti900, tim1, nI_toInt (show z < 2 ^ 31 by omega), nI_toInt (show p < 2 ^ 31 by omega)] at *; omega
  · refine Run.blk (gs := [True, True]) (S' := ([some (.ref 0), some (.int (nI p)), some (.int (nI z))], [.int (nI z), .int (nI p)], Ac fp le lp lb il tf (nI z) bf rf fr mp sc ifp ib ie pw dh rl rb re sy sb rc sg ex)) k_L_cut_12 kc_L_cut_12 rfl ⟨trivial, trivial, trivial⟩ ?_
    refine Run.br (tgt := 20) d_L_cut_14 rfl (by decide) (fun c_2 => ?_) (fun c_2 => ?_)
    · refine Run.blk (gs := [True, True, True]) (S' := ([some (.ref 0), some (.int (nI p)), some (.int (nI z))], [.int (nI p), .ref 1], Ac fp le lp lb il tf (nI z) bf rf fr mp sc ifp ib ie pw dh rl rb re sy sb rc sg ex)) k_L_cut_20 kc_L_cut_20 rfl ⟨trivial, trivial, trivial, trivial⟩ ?_
      refine Run.callV (b := 1) (As := [.int (nI p)]) (rest := []) v_L_cut_25 (c_T_shorten hz hp rfl) rfl (Nat.le_of_ble_eq_true rfl) rfl rfl rfl rfl (fun r cs' hp => ?_)
      obtain ⟨rfl, rfl⟩ := hp
      show Run _ _ _ _ 28 ([some (.ref 0), some (.int (nI p)), some (.int (nI z))], [], Ac fp le lp lb il tf (nI p) bf rf fr mp sc ifp ib ie pw dh rl rb re sy sb rc sg ex) _
      refine Run.blk (gs := [True, True, True]) (S' := ([some (.ref 0), some (.int (nI p)), some (.int (nI z))], [.int ((nI z) - (nI p))], Ac fp le lp lb il tf (nI p) bf rf fr mp sc ifp ib ie pw dh rl rb re sy sb rc sg ex)) k_L_cut_28 kc_L_cut_28 rfl ⟨trivial, trivial, trivial, trivial⟩ ?_
      exact Run.ret (r := some (.int ((nI z) - (nI p)))) ⟨d_L_cut_31, _, rfl, rfl⟩ ⟨by rw [pk_sub hp], rfl⟩
    · exfalso; simp only [← Int32.toInt_inj, Int32.lt_iff_toInt_lt, Int32.le_iff_toInt_le, t0, t1, t2, t4, t64, ti7, ti8, ti900, tim1, nI_toInt (show z < 2 ^ 31 by omega), nI_toInt (show p < 2 ^ 31 by omega)] at *; omega
set_option maxRecDepth 100000 in
set_option maxHeartbeats 4000000 in
theorem c_L_poke_A (hz : z ≤ 900) {x y v : Int32} (hx : ¬ ((y.toInt = 1 ∨ y.toInt = 2 ∨ y.toInt = 4) ∧ 0 ≤ x.toInt ∧ x.toInt + y.toInt ≤ (z : Int))) : Ct m_L_poke 0 0 [.ref 0, .int x, .int y, .int v] (Ac fp le lp lb il tf (nI z) bf rf fr mp sc ifp ib ie pw dh rl rb re sy sb rc sg ex) (vm_is (some (.int (-2 : Int32))) (Ac fp le lp lb il tf (nI z) bf rf fr mp sc ifp ib ie pw dh rl rb re sy sb rc sg ex)) := by
  refine Ct.of ⟨by decide +kernel, rfl⟩ (Nat.le_of_ble_eq_true rfl) (lv := [some (.ref 0), some (.int x), some (.int y), some (.int v), none]) rfl ?_
  refine Run.blk (gs := [True]) (S' := ([some (.ref 0), some (.int x), some (.int y), some (.int v), none], [.int y], Ac fp le lp lb il tf (nI z) bf rf fr mp sc ifp ib ie pw dh rl rb re sy sb rc sg ex)) k_L_poke_0 kc_L_poke_0 rfl ⟨trivial, trivial⟩ ?_
  refine Run.callS (As := [.int y]) (rest := []) v_L_poke_1 (c_L_isSize y) rfl (Nat.le_of_ble_eq_true rfl) rfl (fun r cs' hp => ?_)
  obtain ⟨rfl, rfl⟩ := hp
  show Run _ _ _ _ 4 ([some (.ref 0), some (.int x), some (.int y), some (.int v), none], [.int (if y.toInt = 1 ∨ y.toInt = 2 ∨ y.toInt = 4 then 1 else 0)], Ac fp le lp lb il tf (nI z) bf rf fr mp sc ifp ib ie pw dh rl rb re sy sb rc sg ex) _
  refine Run.br (tgt := 21) d_L_poke_4 rfl (by decide) (fun c_1 => ?_) (fun c_1 => ?_)
  · have c_1 := zi_f c_1
    refine Run.blk (gs := [True]) (S' := ([some (.ref 0), some (.int x), some (.int y), some (.int v), none], [.int (-2 : Int32)], Ac fp le lp lb il tf (nI z) bf rf fr mp sc ifp ib ie pw dh rl rb re sy sb rc sg ex)) k_L_poke_21 kc_L_poke_21 rfl ⟨trivial, trivial⟩ ?_
    exact Run.ret (r := some (.int (-2 : Int32))) ⟨d_L_poke_23, _, rfl, rfl⟩ ⟨rfl, rfl⟩
  · have c_1 := zi_t c_1
    refine Run.blk (gs := [True, True, True, True, True, True]) (S' := ([some (.ref 0), some (.int x), some (.int y), some (.int v), none], [.long y.toInt64, .long x.toInt64, .ref 1], Ac fp le lp lb il tf (nI z) bf rf fr mp sc ifp ib ie pw dh rl rb re sy sb rc sg ex)) k_L_poke_7 kc_L_poke_7 rfl ⟨trivial, trivial, trivial, trivial, trivial, trivial, trivial⟩ ?_
    refine Run.callV (b := 1) (As := [.long x.toInt64, .long y.toInt64]) (rest := []) v_L_poke_15 (c_T_has hz (a := x.toInt64) (b := y.toInt64) (by rw [i32_64]; have := i32_r x; omega) (by rw [i32_64]; have := i32_r x; omega) (by rw [i32_64]; have := i32_r y; omega) (by rw [i32_64]; have := i32_r y; omega)) rfl (Nat.le_of_ble_eq_true rfl) rfl rfl rfl rfl (fun r cs' hp => ?_)
    obtain ⟨rfl, rfl⟩ := hp
    show Run _ _ _ _ 18 ([some (.ref 0), some (.int x), some (.int y), some (.int v), none], [.int (if 0 ≤ x.toInt64.toInt ∧ 0 ≤ y.toInt64.toInt ∧ x.toInt64.toInt + y.toInt64.toInt ≤ (z : Int) then 1 else 0)], Ac fp le lp lb il tf (nI z) bf rf fr mp sc ifp ib ie pw dh rl rb re sy sb rc sg ex) _
    refine Run.br (tgt := 24) d_L_poke_18 rfl (by decide) (fun c_2 => ?_) (fun c_2 => ?_)
    · have c_2 := zi_t c_2
      exfalso; simp only [i32_64] at *; omega
    · have c_2 := zi_f (Classical.not_not.mp c_2)
      refine Run.blk (gs := [True]) (S' := ([some (.ref 0), some (.int x), some (.int y), some (.int v), none], [.int (-2 : Int32)], Ac fp le lp lb il tf (nI z) bf rf fr mp sc ifp ib ie pw dh rl rb re sy sb rc sg ex)) k_L_poke_21 kc_L_poke_21 rfl ⟨trivial, trivial⟩ ?_
      exact Run.ret (r := some (.int (-2 : Int32))) ⟨d_L_poke_23, _, rfl, rfl⟩ ⟨rfl, rfl⟩
set_option maxRecDepth 100000 in
set_option maxHeartbeats 4000000 in
theorem c_L_poke_1 (hz : z ≤ 900) {p : Nat} {x v : Int32} (hx : x = nI p) (hp : p + 1 ≤ z) : Ct m_L_poke 0 0 [.ref 0, .int x, .int (1 : Int32), .int v] (Ac fp le lp lb il (sbf t) (nI z) bf rf fr mp sc ifp ib ie pw dh rl rb re sy sb rc sg ex) (vm_is (some (.int (0 : Int32))) (Ac fp le lp lb il (sbf (u1 t p v)) (nI z) bf rf fr mp sc ifp ib ie pw dh rl rb re sy sb rc sg ex)) := by
  subst hx
  refine Ct.of ⟨by decide +kernel, rfl⟩ (Nat.le_of_ble_eq_true rfl) (lv := [some (.ref 0), some (.int (nI p)), some (.int (1 : Int32)), some (.int v), none]) rfl ?_
  refine Run.blk (gs := [True]) (S' := ([some (.ref 0), some (.int (nI p)), some (.int (1 : Int32)), some (.int v), none], [.int (1 : Int32)], Ac fp le lp lb il (sbf t) (nI z) bf rf fr mp sc ifp ib ie pw dh rl rb re sy sb rc sg ex)) k_L_poke_0 kc_L_poke_0 rfl ⟨trivial, trivial⟩ ?_
  refine Run.callS (As := [.int (1 : Int32)]) (rest := []) v_L_poke_1 (c_L_isSize (1 : Int32)) rfl (Nat.le_of_ble_eq_true rfl) rfl (fun r cs' hp => ?_)
  obtain ⟨rfl, rfl⟩ := hp
  show Run _ _ _ _ 4 ([some (.ref 0), some (.int (nI p)), some (.int (1 : Int32)), some (.int v), none], [.int (if (1 : Int32).toInt = 1 ∨ (1 : Int32).toInt = 2 ∨ (1 : Int32).toInt = 4 then 1 else 0)], Ac fp le lp lb il (sbf t) (nI z) bf rf fr mp sc ifp ib ie pw dh rl rb re sy sb rc sg ex) _
  refine Run.br (tgt := 21) d_L_poke_4 rfl (by decide) (fun c_1 => ?_) (fun c_1 => ?_)
  · have c_1 := zi_f c_1
    exact absurd (by decide) c_1
  · have c_1 := zi_t c_1
    refine Run.blk (gs := [True, True, True, True, True, True]) (S' := ([some (.ref 0), some (.int (nI p)), some (.int (1 : Int32)), some (.int v), none], [.long ((1 : Int32).toInt64), .long ((nI p).toInt64), .ref 1], Ac fp le lp lb il (sbf t) (nI z) bf rf fr mp sc ifp ib ie pw dh rl rb re sy sb rc sg ex)) k_L_poke_7 kc_L_poke_7 rfl ⟨trivial, trivial, trivial, trivial, trivial, trivial, trivial⟩ ?_
    refine Run.callV (b := 1) (As := [.long ((nI p).toInt64), .long ((1 : Int32).toInt64)]) (rest := []) v_L_poke_15 (c_T_has hz (a := ((nI p).toInt64)) (b := ((1 : Int32).toInt64)) (by rw [i32_64]; have := i32_r (nI p); omega) (by rw [i32_64]; have := i32_r (nI p); omega) (by rw [i32_64]; have := i32_r (1 : Int32); omega) (by rw [i32_64]; have := i32_r (1 : Int32); omega)) rfl (Nat.le_of_ble_eq_true rfl) rfl rfl rfl rfl (fun r cs' hp => ?_)
    obtain ⟨rfl, rfl⟩ := hp
    show Run _ _ _ _ 18 ([some (.ref 0), some (.int (nI p)), some (.int (1 : Int32)), some (.int v), none], [.int (if 0 ≤ ((nI p).toInt64).toInt ∧ 0 ≤ ((1 : Int32).toInt64).toInt ∧ ((nI p).toInt64).toInt + ((1 : Int32).toInt64).toInt ≤ (z : Int) then 1 else 0)], Ac fp le lp lb il (sbf t) (nI z) bf rf fr mp sc ifp ib ie pw dh rl rb re sy sb rc sg ex) _
    refine Run.br (tgt := 24) d_L_poke_18 rfl (by decide) (fun c_2 => ?_) (fun c_2 => ?_)
    · have c_2 := zi_t c_2
      refine Run.blk (gs := [True, True]) (S' := ([some (.ref 0), some (.int (nI p)), some (.int (1 : Int32)), some (.int v), some (.int (0 : Int32))], [], Ac fp le lp lb il (sbf t) (nI z) bf rf fr mp sc ifp ib ie pw dh rl rb re sy sb rc sg ex)) k_L_poke_24 kc_L_poke_24 rfl ⟨trivial, trivial, trivial⟩ ?_
      refine Run.blk (gs := [True, True]) (S' := ([some (.ref 0), some (.int (nI p)), some (.int (1 : Int32)), some (.int v), some (.int (0 : Int32))], [.int (1 : Int32), .int (0 : Int32)], Ac fp le lp lb il (sbf t) (nI z) bf rf fr mp sc ifp ib ie pw dh rl rb re sy sb rc sg ex)) k_L_poke_27 kc_L_poke_27 rfl ⟨trivial, trivial, trivial⟩ ?_
      refine Run.br (tgt := 57) d_L_poke_30 rfl (by decide) (fun c_3 => ?_) (fun c_3 => ?_)
      · exact absurd c_3 (by decide)
      · refine Run.blk (gs := [True, True, True, True, True, True, True, True, True, True]) (S' := ([some (.ref 0), some (.int (nI p)), some (.int (1 : Int32)), some (.int v), some (.int (0 : Int32))], [.int ((v.toUInt32 >>> (((8 : Int32) * (0 : Int32)).toUInt32 &&& Int32.toUInt32 31)).toInt32), .int ((nI p) + (0 : Int32)), .ref 1], Ac fp le lp lb il (sbf t) (nI z) bf rf fr mp sc ifp ib ie pw dh rl rb re sy sb rc sg ex)) k_L_poke_33 kc_L_poke_33 rfl ⟨trivial, trivial, trivial, trivial, trivial, trivial, trivial, trivial, trivial, trivial, trivial⟩ ?_
        refine Run.callV (b := 1) (As := [.int ((nI p) + (0 : Int32)), .int ((v.toUInt32 >>> (((8 : Int32) * (0 : Int32)).toUInt32 &&& Int32.toUInt32 31)).toInt32)]) (rest := []) v_L_poke_48 (c_T_setByte (p := p + 0) hz (by omega) (show _ = nI (p + 0) from by rw [show (0 : Int32) = nI 0 from by decide]; exact nI_add p 0)) rfl (Nat.le_of_ble_eq_true rfl) rfl rfl rfl rfl (fun r cs' hp => ?_)
        obtain ⟨rfl, rfl⟩ := hp
        show Run _ _ _ _ 51 ([some (.ref 0), some (.int (nI p)), some (.int (1 : Int32)), some (.int v), some (.int (0 : Int32))], [], Ac fp le lp lb il (sbf (upN t (p + 0) (lb8 ((v.toUInt32 >>> (((8 : Int32) * (0 : Int32)).toUInt32 &&& Int32.toUInt32 31)).toInt32)))) (nI z) bf rf fr mp sc ifp ib ie pw dh rl rb re sy sb rc sg ex) _
        refine Run.blk (gs := [True]) (S' := ([some (.ref 0), some (.int (nI p)), some (.int (1 : Int32)), some (.int v), some (.int ((0 : Int32) + (1 : Int32)))], [], Ac fp le lp lb il (sbf (upN t (p + 0) (lb8 ((v.toUInt32 >>> (((8 : Int32) * (0 : Int32)).toUInt32 &&& Int32.toUInt32 31)).toInt32)))) (nI z) bf rf fr mp sc ifp ib ie pw dh rl rb re sy sb rc sg ex)) k_L_poke_51 kc_L_poke_51 rfl ⟨trivial, trivial⟩ ?_
        refine Run.goto (tgt := 27) d_L_poke_54 (by decide) ?_
        refine Run.blk (gs := [True, True]) (S' := ([some (.ref 0), some (.int (nI p)), some (.int (1 : Int32)), some (.int v), some (.int ((0 : Int32) + (1 : Int32)))], [.int (1 : Int32), .int ((0 : Int32) + (1 : Int32))], Ac fp le lp lb il (sbf (upN t (p + 0) (lb8 ((v.toUInt32 >>> (((8 : Int32) * (0 : Int32)).toUInt32 &&& Int32.toUInt32 31)).toInt32)))) (nI z) bf rf fr mp sc ifp ib ie pw dh rl rb re sy sb rc sg ex)) k_L_poke_27 kc_L_poke_27 rfl ⟨trivial, trivial, trivial⟩ ?_
        refine Run.br (tgt := 57) d_L_poke_30 rfl (by decide) (fun c_4 => ?_) (fun c_4 => ?_)
        · refine Run.blk (gs := [True]) (S' := ([some (.ref 0), some (.int (nI p)), some (.int (1 : Int32)), some (.int v), some (.int ((0 : Int32) + (1 : Int32)))], [.int (0 : Int32)], Ac fp le lp lb il (sbf (upN t (p + 0) (lb8 ((v.toUInt32 >>> (((8 : Int32) * (0 : Int32)).toUInt32 &&& Int32.toUInt32 31)).toInt32)))) (nI z) bf rf fr mp sc ifp ib ie pw dh rl rb re sy sb rc sg ex)) k_L_poke_57 kc_L_poke_57 rfl ⟨trivial, trivial⟩ ?_
          refine Run.ret (r := some (.int (0 : Int32))) ⟨d_L_poke_58, _, rfl, rfl⟩ ⟨rfl, ?_⟩
          rw [lb8_sh v _ 0 (by decide)]
          rfl
        · exact absurd c_4 (by decide)
    · have c_2 := zi_f (Classical.not_not.mp c_2)
      exfalso; apply c_2; simp only [i32_64, nI_toInt (show p < 2 ^ 31 by omega), t1, t2, t4]; omega
set_option maxRecDepth 100000 in
set_option maxHeartbeats 4000000 in
theorem c_L_poke_2 (hz : z ≤ 900) {p : Nat} {x v : Int32} (hx : x = nI p) (hp : p + 2 ≤ z) : Ct m_L_poke 0 0 [.ref 0, .int x, .int (2 : Int32), .int v] (Ac fp le lp lb il (sbf t) (nI z) bf rf fr mp sc ifp ib ie pw dh rl rb re sy sb rc sg ex) (vm_is (some (.int (0 : Int32))) (Ac fp le lp lb il (sbf (u2 t p v)) (nI z) bf rf fr mp sc ifp ib ie pw dh rl rb re sy sb rc sg ex)) := by
  subst hx
  refine Ct.of ⟨by decide +kernel, rfl⟩ (Nat.le_of_ble_eq_true rfl) (lv := [some (.ref 0), some (.int (nI p)), some (.int (2 : Int32)), some (.int v), none]) rfl ?_
  refine Run.blk (gs := [True]) (S' := ([some (.ref 0), some (.int (nI p)), some (.int (2 : Int32)), some (.int v), none], [.int (2 : Int32)], Ac fp le lp lb il (sbf t) (nI z) bf rf fr mp sc ifp ib ie pw dh rl rb re sy sb rc sg ex)) k_L_poke_0 kc_L_poke_0 rfl ⟨trivial, trivial⟩ ?_
  refine Run.callS (As := [.int (2 : Int32)]) (rest := []) v_L_poke_1 (c_L_isSize (2 : Int32)) rfl (Nat.le_of_ble_eq_true rfl) rfl (fun r cs' hp => ?_)
  obtain ⟨rfl, rfl⟩ := hp
  show Run _ _ _ _ 4 ([some (.ref 0), some (.int (nI p)), some (.int (2 : Int32)), some (.int v), none], [.int (if (2 : Int32).toInt = 1 ∨ (2 : Int32).toInt = 2 ∨ (2 : Int32).toInt = 4 then 1 else 0)], Ac fp le lp lb il (sbf t) (nI z) bf rf fr mp sc ifp ib ie pw dh rl rb re sy sb rc sg ex) _
  refine Run.br (tgt := 21) d_L_poke_4 rfl (by decide) (fun c_1 => ?_) (fun c_1 => ?_)
  · have c_1 := zi_f c_1
    exact absurd (by decide) c_1
  · have c_1 := zi_t c_1
    refine Run.blk (gs := [True, True, True, True, True, True]) (S' := ([some (.ref 0), some (.int (nI p)), some (.int (2 : Int32)), some (.int v), none], [.long ((2 : Int32).toInt64), .long ((nI p).toInt64), .ref 1], Ac fp le lp lb il (sbf t) (nI z) bf rf fr mp sc ifp ib ie pw dh rl rb re sy sb rc sg ex)) k_L_poke_7 kc_L_poke_7 rfl ⟨trivial, trivial, trivial, trivial, trivial, trivial, trivial⟩ ?_
    refine Run.callV (b := 1) (As := [.long ((nI p).toInt64), .long ((2 : Int32).toInt64)]) (rest := []) v_L_poke_15 (c_T_has hz (a := ((nI p).toInt64)) (b := ((2 : Int32).toInt64)) (by rw [i32_64]; have := i32_r (nI p); omega) (by rw [i32_64]; have := i32_r (nI p); omega) (by rw [i32_64]; have := i32_r (2 : Int32); omega) (by rw [i32_64]; have := i32_r (2 : Int32); omega)) rfl (Nat.le_of_ble_eq_true rfl) rfl rfl rfl rfl (fun r cs' hp => ?_)
    obtain ⟨rfl, rfl⟩ := hp
    show Run _ _ _ _ 18 ([some (.ref 0), some (.int (nI p)), some (.int (2 : Int32)), some (.int v), none], [.int (if 0 ≤ ((nI p).toInt64).toInt ∧ 0 ≤ ((2 : Int32).toInt64).toInt ∧ ((nI p).toInt64).toInt + ((2 : Int32).toInt64).toInt ≤ (z : Int) then 1 else 0)], Ac fp le lp lb il (sbf t) (nI z) bf rf fr mp sc ifp ib ie pw dh rl rb re sy sb rc sg ex) _
    refine Run.br (tgt := 24) d_L_poke_18 rfl (by decide) (fun c_2 => ?_) (fun c_2 => ?_)
    · have c_2 := zi_t c_2
      refine Run.blk (gs := [True, True]) (S' := ([some (.ref 0), some (.int (nI p)), some (.int (2 : Int32)), some (.int v), some (.int (0 : Int32))], [], Ac fp le lp lb il (sbf t) (nI z) bf rf fr mp sc ifp ib ie pw dh rl rb re sy sb rc sg ex)) k_L_poke_24 kc_L_poke_24 rfl ⟨trivial, trivial, trivial⟩ ?_
      refine Run.blk (gs := [True, True]) (S' := ([some (.ref 0), some (.int (nI p)), some (.int (2 : Int32)), some (.int v), some (.int (0 : Int32))], [.int (2 : Int32), .int (0 : Int32)], Ac fp le lp lb il (sbf t) (nI z) bf rf fr mp sc ifp ib ie pw dh rl rb re sy sb rc sg ex)) k_L_poke_27 kc_L_poke_27 rfl ⟨trivial, trivial, trivial⟩ ?_
      refine Run.br (tgt := 57) d_L_poke_30 rfl (by decide) (fun c_3 => ?_) (fun c_3 => ?_)
      · exact absurd c_3 (by decide)
      · refine Run.blk (gs := [True, True, True, True, True, True, True, True, True, True]) (S' := ([some (.ref 0), some (.int (nI p)), some (.int (2 : Int32)), some (.int v), some (.int (0 : Int32))], [.int ((v.toUInt32 >>> (((8 : Int32) * (0 : Int32)).toUInt32 &&& Int32.toUInt32 31)).toInt32), .int ((nI p) + (0 : Int32)), .ref 1], Ac fp le lp lb il (sbf t) (nI z) bf rf fr mp sc ifp ib ie pw dh rl rb re sy sb rc sg ex)) k_L_poke_33 kc_L_poke_33 rfl ⟨trivial, trivial, trivial, trivial, trivial, trivial, trivial, trivial, trivial, trivial, trivial⟩ ?_
        refine Run.callV (b := 1) (As := [.int ((nI p) + (0 : Int32)), .int ((v.toUInt32 >>> (((8 : Int32) * (0 : Int32)).toUInt32 &&& Int32.toUInt32 31)).toInt32)]) (rest := []) v_L_poke_48 (c_T_setByte (p := p + 0) hz (by omega) (show _ = nI (p + 0) from by rw [show (0 : Int32) = nI 0 from by decide]; exact nI_add p 0)) rfl (Nat.le_of_ble_eq_true rfl) rfl rfl rfl rfl (fun r cs' hp => ?_)
        obtain ⟨rfl, rfl⟩ := hp
        show Run _ _ _ _ 51 ([some (.ref 0), some (.int (nI p)), some (.int (2 : Int32)), some (.int v), some (.int (0 : Int32))], [], Ac fp le lp lb il (sbf (upN t (p + 0) (lb8 ((v.toUInt32 >>> (((8 : Int32) * (0 : Int32)).toUInt32 &&& Int32.toUInt32 31)).toInt32)))) (nI z) bf rf fr mp sc ifp ib ie pw dh rl rb re sy sb rc sg ex) _
        refine Run.blk (gs := [True]) (S' := ([some (.ref 0), some (.int (nI p)), some (.int (2 : Int32)), some (.int v), some (.int ((0 : Int32) + (1 : Int32)))], [], Ac fp le lp lb il (sbf (upN t (p + 0) (lb8 ((v.toUInt32 >>> (((8 : Int32) * (0 : Int32)).toUInt32 &&& Int32.toUInt32 31)).toInt32)))) (nI z) bf rf fr mp sc ifp ib ie pw dh rl rb re sy sb rc sg ex)) k_L_poke_51 kc_L_poke_51 rfl ⟨trivial, trivial⟩ ?_
        refine Run.goto (tgt := 27) d_L_poke_54 (by decide) ?_
        refine Run.blk (gs := [True, True]) (S' := ([some (.ref 0), some (.int (nI p)), some (.int (2 : Int32)), some (.int v), some (.int ((0 : Int32) + (1 : Int32)))], [.int (2 : Int32), .int ((0 : Int32) + (1 : Int32))], Ac fp le lp lb il (sbf (upN t (p + 0) (lb8 ((v.toUInt32 >>> (((8 : Int32) * (0 : Int32)).toUInt32 &&& Int32.toUInt32 31)).toInt32)))) (nI z) bf rf fr mp sc ifp ib ie pw dh rl rb re sy sb rc sg ex)) k_L_poke_27 kc_L_poke_27 rfl ⟨trivial, trivial, trivial⟩ ?_
        refine Run.br (tgt := 57) d_L_poke_30 rfl (by decide) (fun c_4 => ?_) (fun c_4 => ?_)
        · exact absurd c_4 (by decide)
        · refine Run.blk (gs := [True, True, True, True, True, True, True, True, True, True]) (S' := ([some (.ref 0), some (.int (nI p)), some (.int (2 : Int32)), some (.int v), some (.int ((0 : Int32) + (1 : Int32)))], [.int ((v.toUInt32 >>> (((8 : Int32) * ((0 : Int32) + (1 : Int32))).toUInt32 &&& Int32.toUInt32 31)).toInt32), .int ((nI p) + ((0 : Int32) + (1 : Int32))), .ref 1], Ac fp le lp lb il (sbf (upN t (p + 0) (lb8 ((v.toUInt32 >>> (((8 : Int32) * (0 : Int32)).toUInt32 &&& Int32.toUInt32 31)).toInt32)))) (nI z) bf rf fr mp sc ifp ib ie pw dh rl rb re sy sb rc sg ex)) k_L_poke_33 kc_L_poke_33 rfl ⟨trivial, trivial, trivial, trivial, trivial, trivial, trivial, trivial, trivial, trivial, trivial⟩ ?_
          refine Run.callV (b := 1) (As := [.int ((nI p) + ((0 : Int32) + (1 : Int32))), .int ((v.toUInt32 >>> (((8 : Int32) * ((0 : Int32) + (1 : Int32))).toUInt32 &&& Int32.toUInt32 31)).toInt32)]) (rest := []) v_L_poke_48 (c_T_setByte (p := p + 1) hz (by omega) (show _ = nI (p + 1) from by rw [show ((0 : Int32) + (1 : Int32)) = nI 1 from by decide]; exact nI_add p 1)) rfl (Nat.le_of_ble_eq_true rfl) rfl rfl rfl rfl (fun r cs' hp => ?_)
          obtain ⟨rfl, rfl⟩ := hp
          show Run _ _ _ _ 51 ([some (.ref 0), some (.int (nI p)), some (.int (2 : Int32)), some (.int v), some (.int ((0 : Int32) + (1 : Int32)))], [], Ac fp le lp lb il (sbf (upN (upN t (p + 0) (lb8 ((v.toUInt32 >>> (((8 : Int32) * (0 : Int32)).toUInt32 &&& Int32.toUInt32 31)).toInt32))) (p + 1) (lb8 ((v.toUInt32 >>> (((8 : Int32) * ((0 : Int32) + (1 : Int32))).toUInt32 &&& Int32.toUInt32 31)).toInt32)))) (nI z) bf rf fr mp sc ifp ib ie pw dh rl rb re sy sb rc sg ex) _
          refine Run.blk (gs := [True]) (S' := ([some (.ref 0), some (.int (nI p)), some (.int (2 : Int32)), some (.int v), some (.int (((0 : Int32) + (1 : Int32)) + (1 : Int32)))], [], Ac fp le lp lb il (sbf (upN (upN t (p + 0) (lb8 ((v.toUInt32 >>> (((8 : Int32) * (0 : Int32)).toUInt32 &&& Int32.toUInt32 31)).toInt32))) (p + 1) (lb8 ((v.toUInt32 >>> (((8 : Int32) * ((0 : Int32) + (1 : Int32))).toUInt32 &&& Int32.toUInt32 31)).toInt32)))) (nI z) bf rf fr mp sc ifp ib ie pw dh rl rb re sy sb rc sg ex)) k_L_poke_51 kc_L_poke_51 rfl ⟨trivial, trivial⟩ ?_
          refine Run.goto (tgt := 27) d_L_poke_54 (by decide) ?_
          refine Run.blk (gs := [True, True]) (S' := ([some (.ref 0), some (.int (nI p)), some (.int (2 : Int32)), some (.int v), some (.int (((0 : Int32) + (1 : Int32)) + (1 : Int32)))], [.int (2 : Int32), .int (((0 : Int32) + (1 : Int32)) + (1 : Int32))], Ac fp le lp lb il (sbf (upN (upN t (p + 0) (lb8 ((v.toUInt32 >>> (((8 : Int32) * (0 : Int32)).toUInt32 &&& Int32.toUInt32 31)).toInt32))) (p + 1) (lb8 ((v.toUInt32 >>> (((8 : Int32) * ((0 : Int32) + (1 : Int32))).toUInt32 &&& Int32.toUInt32 31)).toInt32)))) (nI z) bf rf fr mp sc ifp ib ie pw dh rl rb re sy sb rc sg ex)) k_L_poke_27 kc_L_poke_27 rfl ⟨trivial, trivial, trivial⟩ ?_
          refine Run.br (tgt := 57) d_L_poke_30 rfl (by decide) (fun c_5 => ?_) (fun c_5 => ?_)
          · refine Run.blk (gs := [True]) (S' := ([some (.ref 0), some (.int (nI p)), some (.int (2 : Int32)), some (.int v), some (.int (((0 : Int32) + (1 : Int32)) + (1 : Int32)))], [.int (0 : Int32)], Ac fp le lp lb il (sbf (upN (upN t (p + 0) (lb8 ((v.toUInt32 >>> (((8 : Int32) * (0 : Int32)).toUInt32 &&& Int32.toUInt32 31)).toInt32))) (p + 1) (lb8 ((v.toUInt32 >>> (((8 : Int32) * ((0 : Int32) + (1 : Int32))).toUInt32 &&& Int32.toUInt32 31)).toInt32)))) (nI z) bf rf fr mp sc ifp ib ie pw dh rl rb re sy sb rc sg ex)) k_L_poke_57 kc_L_poke_57 rfl ⟨trivial, trivial⟩ ?_
            refine Run.ret (r := some (.int (0 : Int32))) ⟨d_L_poke_58, _, rfl, rfl⟩ ⟨rfl, ?_⟩
            rw [lb8_sh v _ 0 (by decide), lb8_sh v _ 1 (by decide)]
            rfl
          · exact absurd c_5 (by decide)
    · have c_2 := zi_f (Classical.not_not.mp c_2)
      exfalso; apply c_2; simp only [i32_64, nI_toInt (show p < 2 ^ 31 by omega), t1, t2, t4]; omega
set_option maxRecDepth 100000 in
set_option maxHeartbeats 4000000 in
theorem c_L_poke_4 (hz : z ≤ 900) {p : Nat} {x v : Int32} (hx : x = nI p) (hp : p + 4 ≤ z) : Ct m_L_poke 0 0 [.ref 0, .int x, .int (4 : Int32), .int v] (Ac fp le lp lb il (sbf t) (nI z) bf rf fr mp sc ifp ib ie pw dh rl rb re sy sb rc sg ex) (vm_is (some (.int (0 : Int32))) (Ac fp le lp lb il (sbf (u4 t p v)) (nI z) bf rf fr mp sc ifp ib ie pw dh rl rb re sy sb rc sg ex)) := by
  subst hx
  refine Ct.of ⟨by decide +kernel, rfl⟩ (Nat.le_of_ble_eq_true rfl) (lv := [some (.ref 0), some (.int (nI p)), some (.int (4 : Int32)), some (.int v), none]) rfl ?_
  refine Run.blk (gs := [True]) (S' := ([some (.ref 0), some (.int (nI p)), some (.int (4 : Int32)), some (.int v), none], [.int (4 : Int32)], Ac fp le lp lb il (sbf t) (nI z) bf rf fr mp sc ifp ib ie pw dh rl rb re sy sb rc sg ex)) k_L_poke_0 kc_L_poke_0 rfl ⟨trivial, trivial⟩ ?_
  refine Run.callS (As := [.int (4 : Int32)]) (rest := []) v_L_poke_1 (c_L_isSize (4 : Int32)) rfl (Nat.le_of_ble_eq_true rfl) rfl (fun r cs' hp => ?_)
  obtain ⟨rfl, rfl⟩ := hp
  show Run _ _ _ _ 4 ([some (.ref 0), some (.int (nI p)), some (.int (4 : Int32)), some (.int v), none], [.int (if (4 : Int32).toInt = 1 ∨ (4 : Int32).toInt = 2 ∨ (4 : Int32).toInt = 4 then 1 else 0)], Ac fp le lp lb il (sbf t) (nI z) bf rf fr mp sc ifp ib ie pw dh rl rb re sy sb rc sg ex) _
  refine Run.br (tgt := 21) d_L_poke_4 rfl (by decide) (fun c_1 => ?_) (fun c_1 => ?_)
  · have c_1 := zi_f c_1
    exact absurd (by decide) c_1
  · have c_1 := zi_t c_1
    refine Run.blk (gs := [True, True, True, True, True, True]) (S' := ([some (.ref 0), some (.int (nI p)), some (.int (4 : Int32)), some (.int v), none], [.long ((4 : Int32).toInt64), .long ((nI p).toInt64), .ref 1], Ac fp le lp lb il (sbf t) (nI z) bf rf fr mp sc ifp ib ie pw dh rl rb re sy sb rc sg ex)) k_L_poke_7 kc_L_poke_7 rfl ⟨trivial, trivial, trivial, trivial, trivial, trivial, trivial⟩ ?_
    refine Run.callV (b := 1) (As := [.long ((nI p).toInt64), .long ((4 : Int32).toInt64)]) (rest := []) v_L_poke_15 (c_T_has hz (a := ((nI p).toInt64)) (b := ((4 : Int32).toInt64)) (by rw [i32_64]; have := i32_r (nI p); omega) (by rw [i32_64]; have := i32_r (nI p); omega) (by rw [i32_64]; have := i32_r (4 : Int32); omega) (by rw [i32_64]; have := i32_r (4 : Int32); omega)) rfl (Nat.le_of_ble_eq_true rfl) rfl rfl rfl rfl (fun r cs' hp => ?_)
    obtain ⟨rfl, rfl⟩ := hp
    show Run _ _ _ _ 18 ([some (.ref 0), some (.int (nI p)), some (.int (4 : Int32)), some (.int v), none], [.int (if 0 ≤ ((nI p).toInt64).toInt ∧ 0 ≤ ((4 : Int32).toInt64).toInt ∧ ((nI p).toInt64).toInt + ((4 : Int32).toInt64).toInt ≤ (z : Int) then 1 else 0)], Ac fp le lp lb il (sbf t) (nI z) bf rf fr mp sc ifp ib ie pw dh rl rb re sy sb rc sg ex) _
    refine Run.br (tgt := 24) d_L_poke_18 rfl (by decide) (fun c_2 => ?_) (fun c_2 => ?_)
    · have c_2 := zi_t c_2
      refine Run.blk (gs := [True, True]) (S' := ([some (.ref 0), some (.int (nI p)), some (.int (4 : Int32)), some (.int v), some (.int (0 : Int32))], [], Ac fp le lp lb il (sbf t) (nI z) bf rf fr mp sc ifp ib ie pw dh rl rb re sy sb rc sg ex)) k_L_poke_24 kc_L_poke_24 rfl ⟨trivial, trivial, trivial⟩ ?_
      refine Run.blk (gs := [True, True]) (S' := ([some (.ref 0), some (.int (nI p)), some (.int (4 : Int32)), some (.int v), some (.int (0 : Int32))], [.int (4 : Int32), .int (0 : Int32)], Ac fp le lp lb il (sbf t) (nI z) bf rf fr mp sc ifp ib ie pw dh rl rb re sy sb rc sg ex)) k_L_poke_27 kc_L_poke_27 rfl ⟨trivial, trivial, trivial⟩ ?_
      refine Run.br (tgt := 57) d_L_poke_30 rfl (by decide) (fun c_3 => ?_) (fun c_3 => ?_)
      · exact absurd c_3 (by decide)
      · refine Run.blk (gs := [True, True, True, True, True, True, True, True, True, True]) (S' := ([some (.ref 0), some (.int (nI p)), some (.int (4 : Int32)), some (.int v), some (.int (0 : Int32))], [.int ((v.toUInt32 >>> (((8 : Int32) * (0 : Int32)).toUInt32 &&& Int32.toUInt32 31)).toInt32), .int ((nI p) + (0 : Int32)), .ref 1], Ac fp le lp lb il (sbf t) (nI z) bf rf fr mp sc ifp ib ie pw dh rl rb re sy sb rc sg ex)) k_L_poke_33 kc_L_poke_33 rfl ⟨trivial, trivial, trivial, trivial, trivial, trivial, trivial, trivial, trivial, trivial, trivial⟩ ?_
        refine Run.callV (b := 1) (As := [.int ((nI p) + (0 : Int32)), .int ((v.toUInt32 >>> (((8 : Int32) * (0 : Int32)).toUInt32 &&& Int32.toUInt32 31)).toInt32)]) (rest := []) v_L_poke_48 (c_T_setByte (p := p + 0) hz (by omega) (show _ = nI (p + 0) from by rw [show (0 : Int32) = nI 0 from by decide]; exact nI_add p 0)) rfl (Nat.le_of_ble_eq_true rfl) rfl rfl rfl rfl (fun r cs' hp => ?_)
        obtain ⟨rfl, rfl⟩ := hp
        show Run _ _ _ _ 51 ([some (.ref 0), some (.int (nI p)), some (.int (4 : Int32)), some (.int v), some (.int (0 : Int32))], [], Ac fp le lp lb il (sbf (upN t (p + 0) (lb8 ((v.toUInt32 >>> (((8 : Int32) * (0 : Int32)).toUInt32 &&& Int32.toUInt32 31)).toInt32)))) (nI z) bf rf fr mp sc ifp ib ie pw dh rl rb re sy sb rc sg ex) _
        refine Run.blk (gs := [True]) (S' := ([some (.ref 0), some (.int (nI p)), some (.int (4 : Int32)), some (.int v), some (.int ((0 : Int32) + (1 : Int32)))], [], Ac fp le lp lb il (sbf (upN t (p + 0) (lb8 ((v.toUInt32 >>> (((8 : Int32) * (0 : Int32)).toUInt32 &&& Int32.toUInt32 31)).toInt32)))) (nI z) bf rf fr mp sc ifp ib ie pw dh rl rb re sy sb rc sg ex)) k_L_poke_51 kc_L_poke_51 rfl ⟨trivial, trivial⟩ ?_
        refine Run.goto (tgt := 27) d_L_poke_54 (by decide) ?_
        refine Run.blk (gs := [True, True]) (S' := ([some (.ref 0), some (.int (nI p)), some (.int (4 : Int32)), some (.int v), some (.int ((0 : Int32) + (1 : Int32)))], [.int (4 : Int32), .int ((0 : Int32) + (1 : Int32))], Ac fp le lp lb il (sbf (upN t (p + 0) (lb8 ((v.toUInt32 >>> (((8 : Int32) * (0 : Int32)).toUInt32 &&& Int32.toUInt32 31)).toInt32)))) (nI z) bf rf fr mp sc ifp ib ie pw dh rl rb re sy sb rc sg ex)) k_L_poke_27 kc_L_poke_27 rfl ⟨trivial, trivial, trivial⟩ ?_
        refine Run.br (tgt := 57) d_L_poke_30 rfl (by decide) (fun c_4 => ?_) (fun c_4 => ?_)
        · exact absurd c_4 (by decide)
        · refine Run.blk (gs := [True, True, True, True, True, True, True, True, True, True]) (S' := ([some (.ref 0), some (.int (nI p)), some (.int (4 : Int32)), some (.int v), some (.int ((0 : Int32) + (1 : Int32)))], [.int ((v.toUInt32 >>> (((8 : Int32) * ((0 : Int32) + (1 : Int32))).toUInt32 &&& Int32.toUInt32 31)).toInt32), .int ((nI p) + ((0 : Int32) + (1 : Int32))), .ref 1], Ac fp le lp lb il (sbf (upN t (p + 0) (lb8 ((v.toUInt32 >>> (((8 : Int32) * (0 : Int32)).toUInt32 &&& Int32.toUInt32 31)).toInt32)))) (nI z) bf rf fr mp sc ifp ib ie pw dh rl rb re sy sb rc sg ex)) k_L_poke_33 kc_L_poke_33 rfl ⟨trivial, trivial, trivial, trivial, trivial, trivial, trivial, trivial, trivial, trivial, trivial⟩ ?_
          refine Run.callV (b := 1) (As := [.int ((nI p) + ((0 : Int32) + (1 : Int32))), .int ((v.toUInt32 >>> (((8 : Int32) * ((0 : Int32) + (1 : Int32))).toUInt32 &&& Int32.toUInt32 31)).toInt32)]) (rest := []) v_L_poke_48 (c_T_setByte (p := p + 1) hz (by omega) (show _ = nI (p + 1) from by rw [show ((0 : Int32) + (1 : Int32)) = nI 1 from by decide]; exact nI_add p 1)) rfl (Nat.le_of_ble_eq_true rfl) rfl rfl rfl rfl (fun r cs' hp => ?_)
          obtain ⟨rfl, rfl⟩ := hp
          show Run _ _ _ _ 51 ([some (.ref 0), some (.int (nI p)), some (.int (4 : Int32)), some (.int v), some (.int ((0 : Int32) + (1 : Int32)))], [], Ac fp le lp lb il (sbf (upN (upN t (p + 0) (lb8 ((v.toUInt32 >>> (((8 : Int32) * (0 : Int32)).toUInt32 &&& Int32.toUInt32 31)).toInt32))) (p + 1) (lb8 ((v.toUInt32 >>> (((8 : Int32) * ((0 : Int32) + (1 : Int32))).toUInt32 &&& Int32.toUInt32 31)).toInt32)))) (nI z) bf rf fr mp sc ifp ib ie pw dh rl rb re sy sb rc sg ex) _
          refine Run.blk (gs := [True]) (S' := ([some (.ref 0), some (.int (nI p)), some (.int (4 : Int32)), some (.int v), some (.int (((0 : Int32) + (1 : Int32)) + (1 : Int32)))], [], Ac fp le lp lb il (sbf (upN (upN t (p + 0) (lb8 ((v.toUInt32 >>> (((8 : Int32) * (0 : Int32)).toUInt32 &&& Int32.toUInt32 31)).toInt32))) (p + 1) (lb8 ((v.toUInt32 >>> (((8 : Int32) * ((0 : Int32) + (1 : Int32))).toUInt32 &&& Int32.toUInt32 31)).toInt32)))) (nI z) bf rf fr mp sc ifp ib ie pw dh rl rb re sy sb rc sg ex)) k_L_poke_51 kc_L_poke_51 rfl ⟨trivial, trivial⟩ ?_
          refine Run.goto (tgt := 27) d_L_poke_54 (by decide) ?_
          refine Run.blk (gs := [True, True]) (S' := ([some (.ref 0), some (.int (nI p)), some (.int (4 : Int32)), some (.int v), some (.int (((0 : Int32) + (1 : Int32)) + (1 : Int32)))], [.int (4 : Int32), .int (((0 : Int32) + (1 : Int32)) + (1 : Int32))], Ac fp le lp lb il (sbf (upN (upN t (p + 0) (lb8 ((v.toUInt32 >>> (((8 : Int32) * (0 : Int32)).toUInt32 &&& Int32.toUInt32 31)).toInt32))) (p + 1) (lb8 ((v.toUInt32 >>> (((8 : Int32) * ((0 : Int32) + (1 : Int32))).toUInt32 &&& Int32.toUInt32 31)).toInt32)))) (nI z) bf rf fr mp sc ifp ib ie pw dh rl rb re sy sb rc sg ex)) k_L_poke_27 kc_L_poke_27 rfl ⟨trivial, trivial, trivial⟩ ?_
          refine Run.br (tgt := 57) d_L_poke_30 rfl (by decide) (fun c_5 => ?_) (fun c_5 => ?_)
          · exact absurd c_5 (by decide)
          · refine Run.blk (gs := [True, True, True, True, True, True, True, True, True, True]) (S' := ([some (.ref 0), some (.int (nI p)), some (.int (4 : Int32)), some (.int v), some (.int (((0 : Int32) + (1 : Int32)) + (1 : Int32)))], [.int ((v.toUInt32 >>> (((8 : Int32) * (((0 : Int32) + (1 : Int32)) + (1 : Int32))).toUInt32 &&& Int32.toUInt32 31)).toInt32), .int ((nI p) + (((0 : Int32) + (1 : Int32)) + (1 : Int32))), .ref 1], Ac fp le lp lb il (sbf (upN (upN t (p + 0) (lb8 ((v.toUInt32 >>> (((8 : Int32) * (0 : Int32)).toUInt32 &&& Int32.toUInt32 31)).toInt32))) (p + 1) (lb8 ((v.toUInt32 >>> (((8 : Int32) * ((0 : Int32) + (1 : Int32))).toUInt32 &&& Int32.toUInt32 31)).toInt32)))) (nI z) bf rf fr mp sc ifp ib ie pw dh rl rb re sy sb rc sg ex)) k_L_poke_33 kc_L_poke_33 rfl ⟨trivial, trivial, trivial, trivial, trivial, trivial, trivial, trivial, trivial, trivial, trivial⟩ ?_
            refine Run.callV (b := 1) (As := [.int ((nI p) + (((0 : Int32) + (1 : Int32)) + (1 : Int32))), .int ((v.toUInt32 >>> (((8 : Int32) * (((0 : Int32) + (1 : Int32)) + (1 : Int32))).toUInt32 &&& Int32.toUInt32 31)).toInt32)]) (rest := []) v_L_poke_48 (c_T_setByte (p := p + 2) hz (by omega) (show _ = nI (p + 2) from by rw [show (((0 : Int32) + (1 : Int32)) + (1 : Int32)) = nI 2 from by decide]; exact nI_add p 2)) rfl (Nat.le_of_ble_eq_true rfl) rfl rfl rfl rfl (fun r cs' hp => ?_)
            obtain ⟨rfl, rfl⟩ := hp
            show Run _ _ _ _ 51 ([some (.ref 0), some (.int (nI p)), some (.int (4 : Int32)), some (.int v), some (.int (((0 : Int32) + (1 : Int32)) + (1 : Int32)))], [], Ac fp le lp lb il (sbf (upN (upN (upN t (p + 0) (lb8 ((v.toUInt32 >>> (((8 : Int32) * (0 : Int32)).toUInt32 &&& Int32.toUInt32 31)).toInt32))) (p + 1) (lb8 ((v.toUInt32 >>> (((8 : Int32) * ((0 : Int32) + (1 : Int32))).toUInt32 &&& Int32.toUInt32 31)).toInt32))) (p + 2) (lb8 ((v.toUInt32 >>> (((8 : Int32) * (((0 : Int32) + (1 : Int32)) + (1 : Int32))).toUInt32 &&& Int32.toUInt32 31)).toInt32)))) (nI z) bf rf fr mp sc ifp ib ie pw dh rl rb re sy sb rc sg ex) _
            refine Run.blk (gs := [True]) (S' := ([some (.ref 0), some (.int (nI p)), some (.int (4 : Int32)), some (.int v), some (.int ((((0 : Int32) + (1 : Int32)) + (1 : Int32)) + (1 : Int32)))], [], Ac fp le lp lb il (sbf (upN (upN (upN t (p + 0) (lb8 ((v.toUInt32 >>> (((8 : Int32) * (0 : Int32)).toUInt32 &&& Int32.toUInt32 31)).toInt32))) (p + 1) (lb8 ((v.toUInt32 >>> (((8 : Int32) * ((0 : Int32) + (1 : Int32))).toUInt32 &&& Int32.toUInt32 31)).toInt32))) (p + 2) (lb8 ((v.toUInt32 >>> (((8 : Int32) * (((0 : Int32) + (1 : Int32)) + (1 : Int32))).toUInt32 &&& Int32.toUInt32 31)).toInt32)))) (nI z) bf rf fr mp sc ifp ib ie pw dh rl rb re sy sb rc sg ex)) k_L_poke_51 kc_L_poke_51 rfl ⟨trivial, trivial⟩ ?_
            refine Run.goto (tgt := 27) d_L_poke_54 (by decide) ?_
            refine Run.blk (gs := [True, True]) (S' := ([some (.ref 0), some (.int (nI p)), some (.int (4 : Int32)), some (.int v), some (.int ((((0 : Int32) + (1 : Int32)) + (1 : Int32)) + (1 : Int32)))], [.int (4 : Int32), .int ((((0 : Int32) + (1 : Int32)) + (1 : Int32)) + (1 : Int32))], Ac fp le lp lb il (sbf (upN (upN (upN t (p + 0) (lb8 ((v.toUInt32 >>> (((8 : Int32) * (0 : Int32)).toUInt32 &&& Int32.toUInt32 31)).toInt32))) (p + 1) (lb8 ((v.toUInt32 >>> (((8 : Int32) * ((0 : Int32) + (1 : Int32))).toUInt32 &&& Int32.toUInt32 31)).toInt32))) (p + 2) (lb8 ((v.toUInt32 >>> (((8 : Int32) * (((0 : Int32) + (1 : Int32)) + (1 : Int32))).toUInt32 &&& Int32.toUInt32 31)).toInt32)))) (nI z) bf rf fr mp sc ifp ib ie pw dh rl rb re sy sb rc sg ex)) k_L_poke_27 kc_L_poke_27 rfl ⟨trivial, trivial, trivial⟩ ?_
            refine Run.br (tgt := 57) d_L_poke_30 rfl (by decide) (fun c_6 => ?_) (fun c_6 => ?_)
            · exact absurd c_6 (by decide)
            · refine Run.blk (gs := [True, True, True, True, True, True, True, True, True, True]) (S' := ([some (.ref 0), some (.int (nI p)), some (.int (4 : Int32)), some (.int v), some (.int ((((0 : Int32) + (1 : Int32)) + (1 : Int32)) + (1 : Int32)))], [.int ((v.toUInt32 >>> (((8 : Int32) * ((((0 : Int32) + (1 : Int32)) + (1 : Int32)) + (1 : Int32))).toUInt32 &&& Int32.toUInt32 31)).toInt32), .int ((nI p) + ((((0 : Int32) + (1 : Int32)) + (1 : Int32)) + (1 : Int32))), .ref 1], Ac fp le lp lb il (sbf (upN (upN (upN t (p + 0) (lb8 ((v.toUInt32 >>> (((8 : Int32) * (0 : Int32)).toUInt32 &&& Int32.toUInt32 31)).toInt32))) (p + 1) (lb8 ((v.toUInt32 >>> (((8 : Int32) * ((0 : Int32) + (1 : Int32))).toUInt32 &&& Int32.toUInt32 31)).toInt32))) (p + 2) (lb8 ((v.toUInt32 >>> (((8 : Int32) * (((0 : Int32) + (1 : Int32)) + (1 : Int32))).toUInt32 &&& Int32.toUInt32 31)).toInt32)))) (nI z) bf rf fr mp sc ifp ib ie pw dh rl rb re sy sb rc sg ex)) k_L_poke_33 kc_L_poke_33 rfl ⟨trivial, trivial, trivial, trivial, trivial, trivial, trivial, trivial, trivial, trivial, trivial⟩ ?_
              refine Run.callV (b := 1) (As := [.int ((nI p) + ((((0 : Int32) + (1 : Int32)) + (1 : Int32)) + (1 : Int32))), .int ((v.toUInt32 >>> (((8 : Int32) * ((((0 : Int32) + (1 : Int32)) + (1 : Int32)) + (1 : Int32))).toUInt32 &&& Int32.toUInt32 31)).toInt32)]) (rest := []) v_L_poke_48 (c_T_setByte (p := p + 3) hz (by omega) (show _ = nI (p + 3) from by rw [show ((((0 : Int32) + (1 : Int32)) + (1 : Int32)) + (1 : Int32)) = nI 3 from by decide]; exact nI_add p 3)) rfl (Nat.le_of_ble_eq_true rfl) rfl rfl rfl rfl (fun r cs' hp => ?_)
              obtain ⟨rfl, rfl⟩ := hp
              show Run _ _ _ _ 51 ([some (.ref 0), some (.int (nI p)), some (.int (4 : Int32)), some (.int v), some (.int ((((0 : Int32) + (1 : Int32)) + (1 : Int32)) + (1 : Int32)))], [], Ac fp le lp lb il (sbf (upN (upN (upN (upN t (p + 0) (lb8 ((v.toUInt32 >>> (((8 : Int32) * (0 : Int32)).toUInt32 &&& Int32.toUInt32 31)).toInt32))) (p + 1) (lb8 ((v.toUInt32 >>> (((8 : Int32) * ((0 : Int32) + (1 : Int32))).toUInt32 &&& Int32.toUInt32 31)).toInt32))) (p + 2) (lb8 ((v.toUInt32 >>> (((8 : Int32) * (((0 : Int32) + (1 : Int32)) + (1 : Int32))).toUInt32 &&& Int32.toUInt32 31)).toInt32))) (p + 3) (lb8 ((v.toUInt32 >>> (((8 : Int32) * ((((0 : Int32) + (1 : Int32)) + (1 : Int32)) + (1 : Int32))).toUInt32 &&& Int32.toUInt32 31)).toInt32)))) (nI z) bf rf fr mp sc ifp ib ie pw dh rl rb re sy sb rc sg ex) _
              refine Run.blk (gs := [True]) (S' := ([some (.ref 0), some (.int (nI p)), some (.int (4 : Int32)), some (.int v), some (.int (((((0 : Int32) + (1 : Int32)) + (1 : Int32)) + (1 : Int32)) + (1 : Int32)))], [], Ac fp le lp lb il (sbf (upN (upN (upN (upN t (p + 0) (lb8 ((v.toUInt32 >>> (((8 : Int32) * (0 : Int32)).toUInt32 &&& Int32.toUInt32 31)).toInt32))) (p + 1) (lb8 ((v.toUInt32 >>> (((8 : Int32) * ((0 : Int32) + (1 : Int32))).toUInt32 &&& Int32.toUInt32 31)).toInt32))) (p + 2) (lb8 ((v.toUInt32 >>> (((8 : Int32) * (((0 : Int32) + (1 : Int32)) + (1 : Int32))).toUInt32 &&& Int32.toUInt32 31)).toInt32))) (p + 3) (lb8 ((v.toUInt32 >>> (((8 : Int32) * ((((0 : Int32) + (1 : Int32)) + (1 : Int32)) + (1 : Int32))).toUInt32 &&& Int32.toUInt32 31)).toInt32)))) (nI z) bf rf fr mp sc ifp ib ie pw dh rl rb re sy sb rc sg ex)) k_L_poke_51 kc_L_poke_51 rfl ⟨trivial, trivial⟩ ?_
              refine Run.goto (tgt := 27) d_L_poke_54 (by decide) ?_
              refine Run.blk (gs := [True, True]) (S' := ([some (.ref 0), some (.int (nI p)), some (.int (4 : Int32)), some (.int v), some (.int (((((0 : Int32) + (1 : Int32)) + (1 : Int32)) + (1 : Int32)) + (1 : Int32)))], [.int (4 : Int32), .int (((((0 : Int32) + (1 : Int32)) + (1 : Int32)) + (1 : Int32)) + (1 : Int32))], Ac fp le lp lb il (sbf (upN (upN (upN (upN t (p + 0) (lb8 ((v.toUInt32 >>> (((8 : Int32) * (0 : Int32)).toUInt32 &&& Int32.toUInt32 31)).toInt32))) (p + 1) (lb8 ((v.toUInt32 >>> (((8 : Int32) * ((0 : Int32) + (1 : Int32))).toUInt32 &&& Int32.toUInt32 31)).toInt32))) (p + 2) (lb8 ((v.toUInt32 >>> (((8 : Int32) * (((0 : Int32) + (1 : Int32)) + (1 : Int32))).toUInt32 &&& Int32.toUInt32 31)).toInt32))) (p + 3) (lb8 ((v.toUInt32 >>> (((8 : Int32) * ((((0 : Int32) + (1 : Int32)) + (1 : Int32)) + (1 : Int32))).toUInt32 &&& Int32.toUInt32 31)).toInt32)))) (nI z) bf rf fr mp sc ifp ib ie pw dh rl rb re sy sb rc sg ex)) k_L_poke_27 kc_L_poke_27 rfl ⟨trivial, trivial, trivial⟩ ?_
              refine Run.br (tgt := 57) d_L_poke_30 rfl (by decide) (fun c_7 => ?_) (fun c_7 => ?_)
              · refine Run.blk (gs := [True]) (S' := ([some (.ref 0), some (.int (nI p)), some (.int (4 : Int32)), some (.int v), some (.int (((((0 : Int32) + (1 : Int32)) + (1 : Int32)) + (1 : Int32)) + (1 : Int32)))], [.int (0 : Int32)], Ac fp le lp lb il (sbf (upN (upN (upN (upN t (p + 0) (lb8 ((v.toUInt32 >>> (((8 : Int32) * (0 : Int32)).toUInt32 &&& Int32.toUInt32 31)).toInt32))) (p + 1) (lb8 ((v.toUInt32 >>> (((8 : Int32) * ((0 : Int32) + (1 : Int32))).toUInt32 &&& Int32.toUInt32 31)).toInt32))) (p + 2) (lb8 ((v.toUInt32 >>> (((8 : Int32) * (((0 : Int32) + (1 : Int32)) + (1 : Int32))).toUInt32 &&& Int32.toUInt32 31)).toInt32))) (p + 3) (lb8 ((v.toUInt32 >>> (((8 : Int32) * ((((0 : Int32) + (1 : Int32)) + (1 : Int32)) + (1 : Int32))).toUInt32 &&& Int32.toUInt32 31)).toInt32)))) (nI z) bf rf fr mp sc ifp ib ie pw dh rl rb re sy sb rc sg ex)) k_L_poke_57 kc_L_poke_57 rfl ⟨trivial, trivial⟩ ?_
                refine Run.ret (r := some (.int (0 : Int32))) ⟨d_L_poke_58, _, rfl, rfl⟩ ⟨rfl, ?_⟩
                rw [lb8_sh v _ 0 (by decide), lb8_sh v _ 1 (by decide), lb8_sh v _ 2 (by decide), lb8_sh v _ 3 (by decide)]
                rfl
              · exact absurd c_7 (by decide)
    · have c_2 := zi_f (Classical.not_not.mp c_2)
      exfalso; apply c_2; simp only [i32_64, nI_toInt (show p < 2 ^ 31 by omega), t1, t2, t4]; omega
end P19
