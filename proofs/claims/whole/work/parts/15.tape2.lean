section P15
variable {fp le lp lb il : Int32} {tf bf rf : Nat → Int32} {tz fr mp sc ifp ib ie pw dh rc : Int32} {rl rb re sy sb : Int64} {sg : Nat → A_G} {ex : List va_E}
theorem i64_add {a b : Int64} (h1 : -2 ^ 62 ≤ a.toInt) (h2 : a.toInt < 2 ^ 62) (h3 : -2 ^ 62 ≤ b.toInt) (h4 : b.toInt < 2 ^ 62) : (a + b).toInt = a.toInt + b.toInt := by
  rw [Int64.toInt_add]
  simp only [Int.bmod]
  split <;> omega
theorem i32_add {a b : Int32} (h1 : -2 ^ 30 ≤ a.toInt) (h2 : a.toInt < 2 ^ 30) (h3 : -2 ^ 30 ≤ b.toInt) (h4 : b.toInt < 2 ^ 30) : (a + b).toInt = a.toInt + b.toInt := by
  rw [Int32.toInt_add]
  simp only [Int.bmod]
  split <;> omega
theorem i32_64 (a : Int32) : a.toInt64.toInt = a.toInt := Jvm.Kit.i64_of_i32 a
theorem i32_r (a : Int32) : -2 ^ 31 ≤ a.toInt ∧ a.toInt < 2 ^ 31 := ⟨a.le_toInt, a.toInt_lt⟩
theorem t0 : (0 : Int32).toInt = 0 := by decide
theorem t0l : (0 : Int64).toInt = 0 := by decide
set_option maxRecDepth 100000 in
set_option maxHeartbeats 4000000 in
theorem c_T_has {z : Nat} (hz : z ≤ 900) {a b : Int64} (ha1 : -2 ^ 62 ≤ a.toInt) (ha2 : a.toInt < 2 ^ 62) (hb1 : -2 ^ 62 ≤ b.toInt) (hb2 : b.toInt < 2 ^ 62) : Ct m_T_has 0 0 [.ref 1, .long a, .long b] (Ac fp le lp lb il tf (nI z) bf rf fr mp sc ifp ib ie pw dh rl rb re sy sb rc sg ex) (vm_is (some (.int (if 0 ≤ a.toInt ∧ 0 ≤ b.toInt ∧ a.toInt + b.toInt ≤ (z : Int) then 1 else 0))) (Ac fp le lp lb il tf (nI z) bf rf fr mp sc ifp ib ie pw dh rl rb re sy sb rc sg ex)) := by
  refine Ct.of ⟨by decide +kernel, rfl⟩ (Nat.le_of_ble_eq_true rfl) (lv := [some (.ref 1), some (.long a), none, some (.long b), none]) rfl ?_
  refine Run.blk (gs := [True, True]) (S' := ([some (.ref 1), some (.long a), none, some (.long b), none], [.long (0 : Int64), .long a], Ac fp le lp lb il tf (nI z) bf rf fr mp sc ifp ib ie pw dh rl rb re sy sb rc sg ex)) k_T_has_0 kc_T_has_0 rfl ⟨trivial, trivial, trivial⟩ ?_
  refine Run.brl (tgt := 28) dl_T_has_2 d_T_has_2 rfl (by decide) (fun c_1 => ?_) (fun c_1 => ?_)
  · refine Run.blk (gs := [True]) (S' := ([some (.ref 1), some (.long a), none, some (.long b), none], [.int (0 : Int32)], Ac fp le lp lb il tf (nI z) bf rf fr mp sc ifp ib ie pw dh rl rb re sy sb rc sg ex)) k_T_has_28 kc_T_has_28 rfl ⟨trivial, trivial⟩ ?_
    exact Run.ret (r := some (.int (0 : Int32))) ⟨d_T_has_29, _, rfl, rfl⟩ ⟨by simp only [Int64.lt_iff_toInt_lt, Int64.le_iff_toInt_le, i32_64, t0l, i64_add ha1 ha2 hb1 hb2, nI_toInt (show z < 2 ^ 31 by omega)] at *; rw [if_neg (by omega)], rfl⟩
  · refine Run.blk (gs := [True, True]) (S' := ([some (.ref 1), some (.long a), none, some (.long b), none], [.long (0 : Int64), .long b], Ac fp le lp lb il tf (nI z) bf rf fr mp sc ifp ib ie pw dh rl rb re sy sb rc sg ex)) k_T_has_6 kc_T_has_6 rfl ⟨trivial, trivial, trivial⟩ ?_
    refine Run.brl (tgt := 28) dl_T_has_8 d_T_has_8 rfl (by decide) (fun c_2 => ?_) (fun c_2 => ?_)
    · refine Run.blk (gs := [True]) (S' := ([some (.ref 1), some (.long a), none, some (.long b), none], [.int (0 : Int32)], Ac fp le lp lb il tf (nI z) bf rf fr mp sc ifp ib ie pw dh rl rb re sy sb rc sg ex)) k_T_has_28 kc_T_has_28 rfl ⟨trivial, trivial⟩ ?_
      exact Run.ret (r := some (.int (0 : Int32))) ⟨d_T_has_29, _, rfl, rfl⟩ ⟨by simp only [Int64.lt_iff_toInt_lt, Int64.le_iff_toInt_le, i32_64, t0l, i64_add ha1 ha2 hb1 hb2, nI_toInt (show z < 2 ^ 31 by omega)] at *; rw [if_neg (by omega)], rfl⟩
    · refine Run.blk (gs := [True, True, True, True, True, True]) (S' := ([some (.ref 1), some (.long a), none, some (.long b), none], [.long ((nI z).toInt64), .long (a + b)], Ac fp le lp lb il tf (nI z) bf rf fr mp sc ifp ib ie pw dh rl rb re sy sb rc sg ex)) k_T_has_12 kc_T_has_12 rfl ⟨trivial, trivial, trivial, trivial, trivial, trivial, trivial⟩ ?_
      refine Run.brl (tgt := 28) dl_T_has_20 d_T_has_20 rfl (by decide) (fun c_3 => ?_) (fun c_3 => ?_)
      · refine Run.blk (gs := [True]) (S' := ([some (.ref 1), some (.long a), none, some (.long b), none], [.int (0 : Int32)], Ac fp le lp lb il tf (nI z) bf rf fr mp sc ifp ib ie pw dh rl rb re sy sb rc sg ex)) k_T_has_28 kc_T_has_28 rfl ⟨trivial, trivial⟩ ?_
        exact Run.ret (r := some (.int (0 : Int32))) ⟨d_T_has_29, _, rfl, rfl⟩ ⟨by simp only [Int64.lt_iff_toInt_lt, Int64.le_iff_toInt_le, i32_64, t0l, i64_add ha1 ha2 hb1 hb2, nI_toInt (show z < 2 ^ 31 by omega)] at *; rw [if_neg (by omega)], rfl⟩
      · refine Run.blk (gs := [True]) (S' := ([some (.ref 1), some (.long a), none, some (.long b), none], [.int (1 : Int32)], Ac fp le lp lb il tf (nI z) bf rf fr mp sc ifp ib ie pw dh rl rb re sy sb rc sg ex)) k_T_has_24 kc_T_has_24 rfl ⟨trivial, trivial⟩ ?_
        refine Run.goto (tgt := 29) d_T_has_25 (by decide) ?_
        exact Run.ret (r := some (.int (1 : Int32))) ⟨d_T_has_29, _, rfl, rfl⟩ ⟨by simp only [Int64.lt_iff_toInt_lt, Int64.le_iff_toInt_le, i32_64, t0l, i64_add ha1 ha2 hb1 hb2, nI_toInt (show z < 2 ^ 31 by omega)] at *; rw [if_pos (by omega)], rfl⟩
set_option maxRecDepth 100000 in
set_option maxHeartbeats 4000000 in
theorem c_T_append {t : Nat → Nat} {z : Nat} (hz : z < 900) {x : Int32} : Ct m_T_append 0 0 [.ref 1, .int x] (Ac fp le lp lb il (sbf t) (nI z) bf rf fr mp sc ifp ib ie pw dh rl rb re sy sb rc sg ex) (vm_is none (Ac fp le lp lb il (sbf (upN t z (lb8 x))) (nI (z + 1)) bf rf fr mp sc ifp ib ie pw dh rl rb re sy sb rc sg ex)) := by
  refine Ct.of ⟨by decide +kernel, rfl⟩ (Nat.le_of_ble_eq_true rfl) (lv := [some (.ref 1), some (.int x)]) rfl ?_
  refine Run.blk (gs := [True, True, True, True, True]) (S' := ([some (.ref 1), some (.int x)], [.int (nI 900), .int (nI z)], Ac fp le lp lb il (sbf t) (nI z) bf rf fr mp sc ifp ib ie pw dh rl rb re sy sb rc sg ex)) k_T_append_0 kc_T_append_0 rfl ⟨trivial, trivial, trivial, trivial, trivial, trivial⟩ ?_
  refine Run.br (tgt := 33) d_T_append_9 rfl (by decide) (fun c_1 => ?_) (fun c_1 => ?_)
  · exact absurd c_1 (nI_ge (show z < 900 by omega) (by decide))
  · refine Run.blk (gs := [True, True, True, True, True, True, vp_in (nI z) 900, True, True, True, True, True, True]) (S' := ([some (.ref 1), some (.int x)], [], Ac fp le lp lb il (upd (sbf t) (nI z).toNatClampNeg (vp_nar .byte x.toInt8.toInt32)) ((nI z) + (1 : Int32)) bf rf fr mp sc ifp ib ie pw dh rl rb re sy sb rc sg ex)) k_T_append_12 kc_T_append_12 rfl ⟨trivial, trivial, trivial, trivial, trivial, trivial, (vp_in_nI (show z < 900 by omega) (by decide)), trivial, trivial, trivial, trivial, trivial, trivial, trivial⟩ ?_
    refine Run.ret (r := none) ⟨d_T_append_33, rfl⟩ ⟨rfl, ?_⟩
    rw [nI_clamp (by omega), nar_i2b, upd_sbf, nI_1]
set_option maxRecDepth 100000 in
set_option maxHeartbeats 4000000 in
theorem c_T_setByte {t : Nat → Nat} {z p : Nat} (hz : z ≤ 900) (hp : p < z) {x v : Int32} (hx : x = nI p) : Ct m_T_setByte 0 0 [.ref 1, .int x, .int v] (Ac fp le lp lb il (sbf t) (nI z) bf rf fr mp sc ifp ib ie pw dh rl rb re sy sb rc sg ex) (vm_is none (Ac fp le lp lb il (sbf (upN t p (lb8 v))) (nI z) bf rf fr mp sc ifp ib ie pw dh rl rb re sy sb rc sg ex)) := by
  refine Ct.of ⟨by decide +kernel, rfl⟩ (Nat.le_of_ble_eq_true rfl) (lv := [some (.ref 1), some (.int x), some (.int v)]) rfl ?_
  refine Run.blk (gs := [True]) (S' := ([some (.ref 1), some (.int x), some (.int v)], [.int x], Ac fp le lp lb il (sbf t) (nI z) bf rf fr mp sc ifp ib ie pw dh rl rb re sy sb rc sg ex)) k_T_setByte_0 kc_T_setByte_0 rfl ⟨trivial, trivial⟩ ?_
  refine Run.br (tgt := 20) d_T_setByte_1 rfl (by decide) (fun c_1 => ?_) (fun c_1 => ?_)
  · subst hx; exact absurd c_1 (nI_pos (by omega))
  · refine Run.blk (gs := [True, True, True]) (S' := ([some (.ref 1), some (.int x), some (.int v)], [.int (nI z), .int x], Ac fp le lp lb il (sbf t) (nI z) bf rf fr mp sc ifp ib ie pw dh rl rb re sy sb rc sg ex)) k_T_setByte_4 kc_T_setByte_4 rfl ⟨trivial, trivial, trivial, trivial⟩ ?_
    refine Run.br (tgt := 20) d_T_setByte_9 rfl (by decide) (fun c_2 => ?_) (fun c_2 => ?_)
    · subst hx; exact absurd c_2 (nI_ge (show p < z by omega) (by omega))
    · refine Run.blk (gs := [True, True, True, True, True, vp_in x 900]) (S' := ([some (.ref 1), some (.int x), some (.int v)], [], Ac fp le lp lb il (upd (sbf t) x.toNatClampNeg (vp_nar .byte v.toInt8.toInt32)) (nI z) bf rf fr mp sc ifp ib ie pw dh rl rb re sy sb rc sg ex)) k_T_setByte_12 kc_T_setByte_12 rfl ⟨trivial, trivial, trivial, trivial, trivial, (by rw [hx]; exact vp_in_nI (show p < 900 by omega) (by decide)), trivial⟩ ?_
      subst hx
      refine Run.ret (r := none) ⟨d_T_setByte_20, rfl⟩ ⟨rfl, ?_⟩
      rw [nI_clamp (by omega), nar_i2b, upd_sbf]
def hN (t : Nat → Nat) (z p : Nat) : Nat := tb t z p + 256 * tb t z (p + 1)
def wN (t : Nat → Nat) (z p : Nat) : Nat := tb t z p + 256 * tb t z (p + 1) + 65536 * tb t z (p + 2) + 16777216 * tb t z (p + 3)
theorem hN_lt {t : Nat → Nat} (ht : ∀ j, t j < 256) (z p : Nat) : hN t z p < 65536 := by
  have h1 := tb_lt ht z p
  have h2 := tb_lt ht z (p + 1)
  unfold hN; omega
theorem wN_lt {t : Nat → Nat} (ht : ∀ j, t j < 256) (z p : Nat) : wN t z p < 4294967296 := by
  have h1 := tb_lt ht z p
  have h2 := tb_lt ht z (p + 1)
  have h3 := tb_lt ht z (p + 2)
  have h4 := tb_lt ht z (p + 3)
  unfold wN; omega
theorem nI_or {k a b : Nat} (ha : a < 2 ^ k) : nI a ||| nI (b * 2 ^ k) = nI (b * 2 ^ k + a) := by
  have h : nI a ||| nI (b * 2 ^ k) = nI (a ||| b * 2 ^ k) := by
    apply Int32.toBitVec_inj.mp
    apply BitVec.eq_of_toNat_eq
    show (BitVec.ofNat 32 a ||| BitVec.ofNat 32 (b * 2 ^ k)).toNat = (BitVec.ofNat 32 (a ||| b * 2 ^ k)).toNat
    rw [BitVec.toNat_or, BitVec.toNat_ofNat, BitVec.toNat_ofNat, BitVec.toNat_ofNat, Nat.or_mod_two_pow]
  rw [h, Nat.or_comm, Nat.mul_comm b, ← Nat.two_pow_add_eq_or_of_lt ha, Nat.mul_comm]
theorem nI_sh8 {a : Nat} (ha : a < 256) : nI a <<< ((8 : Int32) &&& 31) = nI (a * 2 ^ 8) := pk_shlN _ 8 (by decide) (by omega)
theorem nI_sh16 {a : Nat} (ha : a < 256) : nI a <<< ((16 : Int32) &&& 31) = nI (a * 2 ^ 16) := pk_shlN _ 16 (by decide) (by omega)
theorem nI_sh24 {a : Nat} (ha : a < 256) : nI a <<< ((24 : Int32) &&& 31) = nI (a * 2 ^ 24) := pk_shlN _ 24 (by decide) (by omega)
theorem nI_mask {n : Nat} (h : n < 4294967296) : (nI n).toInt64 &&& 4294967295 = lN n := by
  apply Int64.toBitVec_inj.mp
  show BitVec.signExtend 64 (BitVec.ofNat 32 n) &&& BitVec.ofNat 64 4294967295 = BitVec.ofNat 64 n
  apply BitVec.eq_of_getLsbD_eq
  intro i hi
  have hm : (4294967295 : Nat) = 2 ^ 32 - 1 := by decide
  rw [BitVec.getLsbD_and, BitVec.getLsbD_signExtend, BitVec.getLsbD_ofNat, BitVec.getLsbD_ofNat, BitVec.getLsbD_ofNat, hm, Nat.testBit_two_pow_sub_one]
  by_cases h32 : i < 32
  · simp [h32, hi]
  · have hz : n.testBit i = false := Nat.testBit_lt_two_pow (Nat.lt_of_lt_of_le (show n < 2 ^ 32 by omega) (Nat.pow_le_pow_right (by decide) (by omega)))
    simp [h32, hz]
set_option maxRecDepth 100000 in
set_option maxHeartbeats 4000000 in
theorem c_T_half {t : Nat → Nat} {z : Nat} (ht : ∀ j, t j < 256) (hz : z ≤ 900) {p : Nat} {x : Int32} (hx : x = nI p) (hp : p < 2 ^ 30) : Ct m_T_half 0 0 [.ref 1, .int x] (Ac fp le lp lb il (sbf t) (nI z) bf rf fr mp sc ifp ib ie pw dh rl rb re sy sb rc sg ex) (vm_is (some (.int (nI (hN t z p)))) (Ac fp le lp lb il (sbf t) (nI z) bf rf fr mp sc ifp ib ie pw dh rl rb re sy sb rc sg ex)) := by
  subst hx
  refine Ct.of ⟨by decide +kernel, rfl⟩ (Nat.le_of_ble_eq_true rfl) (lv := [some (.ref 1), some (.int (nI p))]) rfl ?_
  refine Run.blk (gs := [True, True]) (S' := ([some (.ref 1), some (.int (nI p))], [.int (nI p), .ref 1], Ac fp le lp lb il (sbf t) (nI z) bf rf fr mp sc ifp ib ie pw dh rl rb re sy sb rc sg ex)) k_T_half_0 kc_T_half_0 rfl ⟨trivial, trivial, trivial⟩ ?_
  refine Run.callV (b := 1) (As := [.int (nI p)]) (rest := []) v_T_half_2 (c_T_byteAt ht hz (p := p) rfl (by omega)) rfl (Nat.le_of_ble_eq_true rfl) rfl rfl rfl rfl (fun r cs' hp => ?_)
  obtain ⟨rfl, rfl⟩ := hp
  show Run _ _ _ _ 5 ([some (.ref 1), some (.int (nI p))], [.int (nI (tb t z p))], Ac fp le lp lb il (sbf t) (nI z) bf rf fr mp sc ifp ib ie pw dh rl rb re sy sb rc sg ex) _
  refine Run.blk (gs := [True, True, True, True]) (S' := ([some (.ref 1), some (.int (nI p))], [.int ((nI p) + (1 : Int32)), .ref 1, .int (nI (tb t z p))], Ac fp le lp lb il (sbf t) (nI z) bf rf fr mp sc ifp ib ie pw dh rl rb re sy sb rc sg ex)) k_T_half_5 kc_T_half_5 rfl ⟨trivial, trivial, trivial, trivial, trivial⟩ ?_
  refine Run.callV (b := 1) (As := [.int ((nI p) + (1 : Int32))]) (rest := [.int (nI (tb t z p))]) v_T_half_9 (c_T_byteAt ht hz (p := (p + 1)) (nI_add p 1) (by omega)) rfl (Nat.le_of_ble_eq_true rfl) rfl rfl rfl rfl (fun r cs' hp => ?_)
  obtain ⟨rfl, rfl⟩ := hp
  show Run _ _ _ _ 12 ([some (.ref 1), some (.int (nI p))], [.int (nI (tb t z (p + 1))), .int (nI (tb t z p))], Ac fp le lp lb il (sbf t) (nI z) bf rf fr mp sc ifp ib ie pw dh rl rb re sy sb rc sg ex) _
  refine Run.blk (gs := [True, True, True]) (S' := ([some (.ref 1), some (.int (nI p))], [.int ((nI (tb t z p)) ||| ((nI (tb t z (p + 1))) <<< ((8 : Int32) &&& 31)))], Ac fp le lp lb il (sbf t) (nI z) bf rf fr mp sc ifp ib ie pw dh rl rb re sy sb rc sg ex)) k_T_half_12 kc_T_half_12 rfl ⟨trivial, trivial, trivial, trivial⟩ ?_
  refine Run.ret (r := some (.int ((nI (tb t z p)) ||| ((nI (tb t z (p + 1))) <<< ((8 : Int32) &&& 31))))) ⟨d_T_half_16, _, rfl, rfl⟩ ⟨?_, rfl⟩
  have h1 := tb_lt ht z p
  have h2 := tb_lt ht z (p + 1)
  rw [nI_sh8 h2, nI_or (k := 8) (by omega)]
  congr 3
  unfold hN
  omega
set_option maxRecDepth 100000 in
set_option maxHeartbeats 4000000 in
theorem c_T_word {t : Nat → Nat} {z : Nat} (ht : ∀ j, t j < 256) (hz : z ≤ 900) {p : Nat} {x : Int32} (hx : x = nI p) (hp : p < 2 ^ 30) : Ct m_T_word 0 0 [.ref 1, .int x] (Ac fp le lp lb il (sbf t) (nI z) bf rf fr mp sc ifp ib ie pw dh rl rb re sy sb rc sg ex) (vm_is (some (.long (lN (wN t z p)))) (Ac fp le lp lb il (sbf t) (nI z) bf rf fr mp sc ifp ib ie pw dh rl rb re sy sb rc sg ex)) := by
  subst hx
  refine Ct.of ⟨by decide +kernel, rfl⟩ (Nat.le_of_ble_eq_true rfl) (lv := [some (.ref 1), some (.int (nI p)), none]) rfl ?_
  refine Run.blk (gs := [True, True]) (S' := ([some (.ref 1), some (.int (nI p)), none], [.int (nI p), .ref 1], Ac fp le lp lb il (sbf t) (nI z) bf rf fr mp sc ifp ib ie pw dh rl rb re sy sb rc sg ex)) k_T_word_0 kc_T_word_0 rfl ⟨trivial, trivial, trivial⟩ ?_
  refine Run.callV (b := 1) (As := [.int (nI p)]) (rest := []) v_T_word_2 (c_T_byteAt ht hz (p := p) rfl (by omega)) rfl (Nat.le_of_ble_eq_true rfl) rfl rfl rfl rfl (fun r cs' hp => ?_)
  obtain ⟨rfl, rfl⟩ := hp
  show Run _ _ _ _ 5 ([some (.ref 1), some (.int (nI p)), none], [.int (nI (tb t z p))], Ac fp le lp lb il (sbf t) (nI z) bf rf fr mp sc ifp ib ie pw dh rl rb re sy sb rc sg ex) _
  refine Run.blk (gs := [True, True, True, True]) (S' := ([some (.ref 1), some (.int (nI p)), none], [.int ((nI p) + (1 : Int32)), .ref 1, .int (nI (tb t z p))], Ac fp le lp lb il (sbf t) (nI z) bf rf fr mp sc ifp ib ie pw dh rl rb re sy sb rc sg ex)) k_T_word_5 kc_T_word_5 rfl ⟨trivial, trivial, trivial, trivial, trivial⟩ ?_
  refine Run.callV (b := 1) (As := [.int ((nI p) + (1 : Int32))]) (rest := [.int (nI (tb t z p))]) v_T_word_9 (c_T_byteAt ht hz (p := (p + 1)) (nI_add p 1) (by omega)) rfl (Nat.le_of_ble_eq_true rfl) rfl rfl rfl rfl (fun r cs' hp => ?_)
  obtain ⟨rfl, rfl⟩ := hp
  show Run _ _ _ _ 12 ([some (.ref 1), some (.int (nI p)), none], [.int (nI (tb t z (p + 1))), .int (nI (tb t z p))], Ac fp le lp lb il (sbf t) (nI z) bf rf fr mp sc ifp ib ie pw dh rl rb re sy sb rc sg ex) _
  refine Run.blk (gs := [True, True, True, True, True, True, True]) (S' := ([some (.ref 1), some (.int (nI p)), none], [.int ((nI p) + (2 : Int32)), .ref 1, .int ((nI (tb t z p)) ||| ((nI (tb t z (p + 1))) <<< ((8 : Int32) &&& 31)))], Ac fp le lp lb il (sbf t) (nI z) bf rf fr mp sc ifp ib ie pw dh rl rb re sy sb rc sg ex)) k_T_word_12 kc_T_word_12 rfl ⟨trivial, trivial, trivial, trivial, trivial, trivial, trivial, trivial⟩ ?_
  refine Run.callV (b := 1) (As := [.int ((nI p) + (2 : Int32))]) (rest := [.int ((nI (tb t z p)) ||| ((nI (tb t z (p + 1))) <<< ((8 : Int32) &&& 31)))]) v_T_word_20 (c_T_byteAt ht hz (p := (p + 2)) (nI_add p 2) (by omega)) rfl (Nat.le_of_ble_eq_true rfl) rfl rfl rfl rfl (fun r cs' hp => ?_)
  obtain ⟨rfl, rfl⟩ := hp
  show Run _ _ _ _ 23 ([some (.ref 1), some (.int (nI p)), none], [.int (nI (tb t z (p + 2))), .int ((nI (tb t z p)) ||| ((nI (tb t z (p + 1))) <<< ((8 : Int32) &&& 31)))], Ac fp le lp lb il (sbf t) (nI z) bf rf fr mp sc ifp ib ie pw dh rl rb re sy sb rc sg ex) _
  refine Run.blk (gs := [True, True, True, True, True, True, True]) (S' := ([some (.ref 1), some (.int (nI p)), none], [.int ((nI p) + (3 : Int32)), .ref 1, .int (((nI (tb t z p)) ||| ((nI (tb t z (p + 1))) <<< ((8 : Int32) &&& 31))) ||| ((nI (tb t z (p + 2))) <<< ((16 : Int32) &&& 31)))], Ac fp le lp lb il (sbf t) (nI z) bf rf fr mp sc ifp ib ie pw dh rl rb re sy sb rc sg ex)) k_T_word_23 kc_T_word_23 rfl ⟨trivial, trivial, trivial, trivial, trivial, trivial, trivial, trivial⟩ ?_
  refine Run.callV (b := 1) (As := [.int ((nI p) + (3 : Int32))]) (rest := [.int (((nI (tb t z p)) ||| ((nI (tb t z (p + 1))) <<< ((8 : Int32) &&& 31))) ||| ((nI (tb t z (p + 2))) <<< ((16 : Int32) &&& 31)))]) v_T_word_31 (c_T_byteAt ht hz (p := (p + 3)) (nI_add p 3) (by omega)) rfl (Nat.le_of_ble_eq_true rfl) rfl rfl rfl rfl (fun r cs' hp => ?_)
  obtain ⟨rfl, rfl⟩ := hp
  show Run _ _ _ _ 34 ([some (.ref 1), some (.int (nI p)), none], [.int (nI (tb t z (p + 3))), .int (((nI (tb t z p)) ||| ((nI (tb t z (p + 1))) <<< ((8 : Int32) &&& 31))) ||| ((nI (tb t z (p + 2))) <<< ((16 : Int32) &&& 31)))], Ac fp le lp lb il (sbf t) (nI z) bf rf fr mp sc ifp ib ie pw dh rl rb re sy sb rc sg ex) _
  refine Run.blk (gs := [True, True, True, True, True, True, True, True]) (S' := ([some (.ref 1), some (.int (nI p)), some (.int ((((nI (tb t z p)) ||| ((nI (tb t z (p + 1))) <<< ((8 : Int32) &&& 31))) ||| ((nI (tb t z (p + 2))) <<< ((16 : Int32) &&& 31))) ||| ((nI (tb t z (p + 3))) <<< ((24 : Int32) &&& 31))))], [.long ((((((nI (tb t z p)) ||| ((nI (tb t z (p + 1))) <<< ((8 : Int32) &&& 31))) ||| ((nI (tb t z (p + 2))) <<< ((16 : Int32) &&& 31))) ||| ((nI (tb t z (p + 3))) <<< ((24 : Int32) &&& 31))).toInt64) &&& (4294967295 : Int64))], Ac fp le lp lb il (sbf t) (nI z) bf rf fr mp sc ifp ib ie pw dh rl rb re sy sb rc sg ex)) k_T_word_34 kc_T_word_34 rfl ⟨trivial, trivial, trivial, trivial, trivial, trivial, trivial, trivial, trivial⟩ ?_
  refine Run.ret (r := some (.long ((((((nI (tb t z p)) ||| ((nI (tb t z (p + 1))) <<< ((8 : Int32) &&& 31))) ||| ((nI (tb t z (p + 2))) <<< ((16 : Int32) &&& 31))) ||| ((nI (tb t z (p + 3))) <<< ((24 : Int32) &&& 31))).toInt64) &&& (4294967295 : Int64)))) ⟨d_T_word_45, rfl⟩ ⟨?_, rfl⟩
  have h1 := tb_lt ht z p
  have h2 := tb_lt ht z (p + 1)
  have h3 := tb_lt ht z (p + 2)
  have h4 := tb_lt ht z (p + 3)
  rw [nI_sh8 h2, nI_sh16 h3, nI_sh24 h4, nI_or (k := 8) (by omega), nI_or (k := 16) (by omega), nI_or (k := 24) (by omega), nI_mask (by omega)]
  congr 3
  unfold wN
  omega
end P15
