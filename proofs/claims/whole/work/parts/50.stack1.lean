def zc (t : Nat → Nat) : Nat → Nat
  | 0 => 0
  | k + 1 => zc t k + (if t k = 0 then 1 else 0)
def lk (t : Nat → Nat) (z : Nat) : Nat := if 0 < z ∧ ¬ t (z - 1) = 0 then 1 else 0
def sAB (t : Nat → Nat) (z : Nat) : Nat := z + lk t z
def sAC (t : Nat → Nat) (z : Nat) : Nat := zc t z + lk t z
def sTop (t : Nat → Nat) (z : Nat) : Nat := 16384 - sAB t z - 4 * (sAC t z + 3)
def sPt (t : Nat → Nat) (z : Nat) : Nat := sTop t z - sTop t z % 16
def stB (t : Nat → Nat) (F : Nat) : Nat → Nat → Nat → Bool → (Nat → Nat) → (Nat → Nat)
  | 0, _, _, _, b => b
  | k + 1, i, s, st, b => stB t F k (i + 1) (if st = true then s + 4 else s) (decide (t i = 0)) (upN (if st = true then u4 b s (nI (F + i)) else b) (F + i) (t i))
def mc (t : Nat → Nat) (z : Nat) : Nat → Nat
  | 0 => 0
  | i + 1 => mc t z i + (if t i = 0 ∨ i = z - 1 then 1 else 0)
theorem zc_le (t : Nat → Nat) : ∀ k, zc t k ≤ k
  | 0 => Nat.le_refl _
  | k + 1 => by
    rw [zc]; have := zc_le t k; split <;> omega
theorem zc_mono (t : Nat → Nat) (i : Nat) : ∀ k, zc t i ≤ zc t (i + k)
  | 0 => Nat.le_refl _
  | k + 1 => by
    rw [← Nat.add_assoc, zc]; have := zc_mono t i k; omega
theorem lk_le (t : Nat → Nat) (z : Nat) : lk t z ≤ 1 := by unfold lk; split <;> omega
theorem mc_lt {t : Nat → Nat} {z : Nat} : ∀ {i : Nat}, i < z → mc t z i = zc t i
  | 0, _ => rfl
  | i + 1, h => by
    rw [mc, zc, mc_lt (by omega)]
    by_cases c : t i = 0
    · rw [if_pos (Or.inl c), if_pos c]
    · rw [if_neg (fun w => w.elim c (fun w => by omega)), if_neg c]
theorem mc_z (t : Nat → Nat) : ∀ (z : Nat), mc t z z = sAC t z
  | 0 => rfl
  | z + 1 => by
    rw [mc, mc_lt (by omega), if_pos (Or.inr (show z = z + 1 - 1 from rfl))]
    unfold sAC lk
    rw [zc, show z + 1 - 1 = z from rfl]
    by_cases c : t z = 0
    · rw [if_pos c, if_neg (fun w => w.2 c)]
    · rw [if_neg c, if_pos ⟨by omega, c⟩]
theorem mc_le (t : Nat → Nat) (z : Nat) : ∀ i, mc t z i ≤ i
  | 0 => Nat.le_refl _
  | i + 1 => by
    rw [mc]; have := mc_le t z i; split <;> omega
theorem sAB_le {t : Nat → Nat} {z : Nat} (hz : z ≤ 900) : sAB t z ≤ 901 := by have := lk_le t z; unfold sAB; omega
theorem sAC_le {t : Nat → Nat} {z : Nat} (hz : z ≤ 900) : sAC t z ≤ 901 := by have := lk_le t z; have := zc_le t z; unfold sAC; omega
theorem sPt_b {t : Nat → Nat} {z : Nat} (hz : z ≤ 900) : sPt t z + 4 * (sAC t z + 3) + sAB t z ≤ 16384 := by
  have := sAB_le (t := t) hz
  have := sAC_le (t := t) hz
  unfold sPt sTop; omega
theorem sPt_lt {t : Nat → Nat} {z : Nat} : sPt t z ≤ 16384 := by unfold sPt sTop; omega
theorem top_e {t : Nat → Nat} {z : Nat} (hz : z ≤ 900) : (16384 : Int32) - nI (sAB t z) - (4 : Int32) * (nI (sAC t z) + (3 : Int32)) = nI (sTop t z) := by
  have h1 := sAB_le (t := t) hz
  have h2 := sAC_le (t := t) hz
  rw [show (16384 : Int32) = nI 16384 from rfl, show (4 : Int32) = nI 4 from rfl, show (3 : Int32) = nI 3 from rfl, nI_add, pk_mul, pk_sub (by omega), pk_sub (by omega)]
  rfl
theorem from_e {t : Nat → Nat} {z : Nat} (hz : z ≤ 900) : (16384 : Int32) - nI (sAB t z) = nI (16384 - sAB t z) := by
  have h1 := sAB_le (t := t) hz
  rw [show (16384 : Int32) = nI 16384 from rfl, pk_sub (by omega)]
theorem xor_sgn16 (x : Int32) : 0 ≤ (x ^^^ 16) ↔ 0 ≤ x.toInt := by
  rw [Int32.le_iff_toInt_le, t0, sgn_iff, sgn_iff, Int32.toBitVec_xor, BitVec.msb_xor]
  have : (16 : Int32).toBitVec.msb = false := by decide
  rw [this]; simp
theorem fm_pos {p : Nat} (hp : p < 2 ^ 31) : f_J_floorMod (nI p) 16 = nI (p % 16) := by
  unfold f_J_floorMod
  rw [if_pos ((xor_sgn16 _).mpr (by rw [nI_toInt hp]; omega))]
  exact pk_rem (d := 16) hp (by decide) (by decide)
theorem mod_e {p : Nat} (hp : p < 2 ^ 31) : (nI p - nI p / (16 : Int32) * (16 : Int32) + (16 : Int32)) - (nI p - nI p / (16 : Int32) * (16 : Int32) + (16 : Int32)) / (16 : Int32) * (16 : Int32) = nI (p % 16) := by
  rw [show (16 : Int32) = nI 16 from rfl, pk_rem hp (by decide) (by decide), nI_add, pk_rem (by omega) (by decide) (by decide)]
  congr 1; omega
theorem sl_s {t : Nat → Nat} {i sl P : Nat} {st : Bool} (h : sl = P + 4 + 4 * (zc t i + if st = true then 0 else 1)) : (if st = true then sl + 4 else sl) = P + 4 + 4 * (zc t (i + 1) + if decide (t i = 0) = true then 0 else 1) := by
  rw [zc]
  by_cases c : t i = 0
  · rw [decide_eq_true c, if_pos c]
    cases st
    · rw [if_neg (by decide)] at h ⊢; rw [if_pos rfl]; omega
    · rw [if_pos rfl] at h ⊢; rw [if_pos rfl]; omega
  · rw [decide_eq_false c, if_neg c]
    cases st
    · rw [if_neg (by decide)] at h ⊢; rw [if_neg (by decide)]; omega
    · rw [if_pos rfl] at h ⊢; rw [if_neg (by decide)]; omega
theorem stB_lt {t : Nat → Nat} (ht : ∀ j, t j < 256) (F : Nat) : ∀ (k i s : Nat) (st : Bool) (b : Nat → Nat), (∀ j, b j < 256) → ∀ j, stB t F k i s st b j < 256
  | 0, _, _, _, _, hb => hb
  | k + 1, i, s, st, b, hb => by
    rw [stB]
    refine stB_lt ht F k _ _ _ _ (upN_lt ?_ _ (ht i))
    split
    · exact u4_lt hb _ _
    · exact hb
theorem u4_upN {b : Nat → Nat} {p q x : Nat} {v : Int32} (h : p + 4 ≤ q) : u4 (upN b q x) p v = upN (u4 b p v) q x := by
  funext j
  unfold u4 upN
  by_cases h1 : j = p + 3
  · rw [if_pos h1, if_neg (by omega), if_pos h1]
  · rw [if_neg h1, if_neg h1]
    by_cases h2 : j = p + 2
    · rw [if_pos h2, if_neg (by omega), if_pos h2]
    · rw [if_neg h2, if_neg h2]
      by_cases h3 : j = p + 1
      · rw [if_pos h3, if_neg (by omega), if_pos h3]
      · rw [if_neg h3, if_neg h3]
        by_cases h4 : j = p
        · rw [if_pos h4, if_neg (by omega), if_pos h4]
        · rw [if_neg h4, if_neg h4]
section P50
variable {fp le lp lb il : Int32} {tf bf rf : Nat → Int32} {tz fr mp sc ifp ib ie pw dh rc : Int32} {rl rb re sy sb : Int64} {sg : Nat → A_G} {ex : List va_E}
variable {cs : List va_E} {n : Nat} {t b : Nat → Nat} {z : Nat}
set_option maxRecDepth 100000 in
set_option maxHeartbeats 4000000 in
theorem c_L_argumentBytes (ht : ∀ j, t j < 256) (hz : z ≤ 900) : Ct m_L_argumentBytes 0 0 [.ref 0] (Ac fp le lp lb il (sbf t) (nI z) bf rf fr mp sc ifp ib ie pw dh rl rb re sy sb rc sg ex) (vm_is (some (.int (nI (sAB t z)))) (Ac fp le lp lb il (sbf t) (nI z) bf rf fr mp sc ifp ib ie pw dh rl rb re sy sb rc sg ex)) := by
  refine Ct.of ⟨by decide +kernel, rfl⟩ (Nat.le_of_ble_eq_true rfl) (lv := [some (.ref 0)]) rfl ?_
  refine Run.blk (gs := [True, True]) (S' := ([some (.ref 0)], [.ref 1], Ac fp le lp lb il (sbf t) (nI z) bf rf fr mp sc ifp ib ie pw dh rl rb re sy sb rc sg ex)) k_L_argumentBytes_0 kc_L_argumentBytes_0 rfl ⟨trivial, trivial, trivial⟩ ?_
  refine Run.callV (b := 1) (As := []) (rest := []) v_L_argumentBytes_4 c_T_size rfl (Nat.le_of_ble_eq_true rfl) rfl rfl rfl rfl (fun r cs' hp => ?_)
  obtain ⟨rfl, rfl⟩ := hp
  show Run _ _ _ _ 7 ([some (.ref 0)], [.int (nI z)], Ac fp le lp lb il (sbf t) (nI z) bf rf fr mp sc ifp ib ie pw dh rl rb re sy sb rc sg ex) _
  refine Run.blk (gs := [True, True]) (S' := ([some (.ref 0)], [.ref 1, .int (nI z)], Ac fp le lp lb il (sbf t) (nI z) bf rf fr mp sc ifp ib ie pw dh rl rb re sy sb rc sg ex)) k_L_argumentBytes_7 kc_L_argumentBytes_7 rfl ⟨trivial, trivial, trivial⟩ ?_
  refine Run.callV (b := 1) (As := []) (rest := [.int (nI z)]) v_L_argumentBytes_11 (c_T_lacksLastZero ht hz) rfl (Nat.le_of_ble_eq_true rfl) rfl rfl rfl rfl (fun r cs' hp => ?_)
  obtain ⟨rfl, rfl⟩ := hp
  show Run _ _ _ _ 14 ([some (.ref 0)], [.int (if 0 < z ∧ ¬ t (z - 1) = 0 then 1 else 0), .int (nI z)], Ac fp le lp lb il (sbf t) (nI z) bf rf fr mp sc ifp ib ie pw dh rl rb re sy sb rc sg ex) _
  refine Run.br (tgt := 21) d_L_argumentBytes_14 rfl (by decide) (fun c_1 => ?_) (fun c_1 => ?_)
  · have c_1 := zi_f c_1
    refine Run.blk (gs := [True]) (S' := ([some (.ref 0)], [.int (0 : Int32), .int (nI z)], Ac fp le lp lb il (sbf t) (nI z) bf rf fr mp sc ifp ib ie pw dh rl rb re sy sb rc sg ex)) k_L_argumentBytes_21 kc_L_argumentBytes_21 rfl ⟨trivial, trivial⟩ ?_
    refine Run.blk (gs := [True]) (S' := ([some (.ref 0)], [.int ((nI z) + (0 : Int32))], Ac fp le lp lb il (sbf t) (nI z) bf rf fr mp sc ifp ib ie pw dh rl rb re sy sb rc sg ex)) k_L_argumentBytes_22 kc_L_argumentBytes_22 rfl ⟨trivial, trivial⟩ ?_
    exact Run.ret (r := some (.int ((nI z) + (0 : Int32)))) ⟨d_L_argumentBytes_23, _, rfl, rfl⟩ ⟨by unfold sAB lk; rw [if_neg c_1, a0, Nat.add_zero], rfl⟩
  · have c_1 := zi_t c_1
    refine Run.blk (gs := [True]) (S' := ([some (.ref 0)], [.int (1 : Int32), .int (nI z)], Ac fp le lp lb il (sbf t) (nI z) bf rf fr mp sc ifp ib ie pw dh rl rb re sy sb rc sg ex)) k_L_argumentBytes_17 kc_L_argumentBytes_17 rfl ⟨trivial, trivial⟩ ?_
    refine Run.goto (tgt := 22) d_L_argumentBytes_18 (by decide) ?_
    refine Run.blk (gs := [True]) (S' := ([some (.ref 0)], [.int ((nI z) + (1 : Int32))], Ac fp le lp lb il (sbf t) (nI z) bf rf fr mp sc ifp ib ie pw dh rl rb re sy sb rc sg ex)) k_L_argumentBytes_22 kc_L_argumentBytes_22 rfl ⟨trivial, trivial⟩ ?_
    exact Run.ret (r := some (.int ((nI z) + (1 : Int32)))) ⟨d_L_argumentBytes_23, _, rfl, rfl⟩ ⟨by unfold sAB lk; rw [if_pos c_1, nI_1], rfl⟩
set_option maxRecDepth 100000 in
set_option maxHeartbeats 4000000 in
theorem l_L_argumentCount (ht : ∀ j, t j < 256) (hz : z ≤ 900) : ∀ (k i : Nat) (f v : Int32), v = nI i → f = nI (zc t i + lk t z) → i + k = z → Run m_L_argumentCount n 0 0 18 ([some (.ref 0), some (.int f), some (.int v)], [], Ac fp le lp lb il (sbf t) (nI z) bf rf fr mp sc ifp ib ie pw dh rl rb re sy sb rc sg ex) (vm_is (some (.int (nI (sAC t z)))) (Ac fp le lp lb il (sbf t) (nI z) bf rf fr mp sc ifp ib ie pw dh rl rb re sy sb rc sg ex))
  | 0, i, f, v, hv, hf, h => by
    refine Run.blk (gs := [True, True, True]) (S' := ([some (.ref 0), some (.int f), some (.int v)], [.ref 1, .int v], Ac fp le lp lb il (sbf t) (nI z) bf rf fr mp sc ifp ib ie pw dh rl rb re sy sb rc sg ex)) k_L_argumentCount_18 kc_L_argumentCount_18 rfl ⟨trivial, trivial, trivial, trivial⟩ ?_
    refine Run.callV (b := 1) (As := []) (rest := [.int v]) v_L_argumentCount_23 c_T_size rfl (Nat.le_of_ble_eq_true rfl) rfl rfl rfl rfl (fun r cs' hp => ?_)
    obtain ⟨rfl, rfl⟩ := hp
    show Run _ _ _ _ 26 ([some (.ref 0), some (.int f), some (.int v)], [.int (nI z), .int v], Ac fp le lp lb il (sbf t) (nI z) bf rf fr mp sc ifp ib ie pw dh rl rb re sy sb rc sg ex) _
    refine Run.br (tgt := 49) d_L_argumentCount_26 rfl (by decide) (fun c_1 => ?_) (fun c_1 => ?_)
    · refine Run.blk (gs := [True]) (S' := ([some (.ref 0), some (.int f), some (.int v)], [.int f], Ac fp le lp lb il (sbf t) (nI z) bf rf fr mp sc ifp ib ie pw dh rl rb re sy sb rc sg ex)) k_L_argumentCount_49 kc_L_argumentCount_49 rfl ⟨trivial, trivial⟩ ?_
      have hik : i = z := by omega
      exact Run.ret (r := some (.int f)) ⟨d_L_argumentCount_50, _, rfl, rfl⟩ ⟨by rw [hf, hik]; rfl, rfl⟩
    · exact absurd (by rw [hv]; exact (nI_leI (a := z) (b := i) (by omega) (by omega)).mpr (by omega)) c_1
  | k + 1, i, f, v, hv, hf, h => by
    refine Run.blk (gs := [True, True, True]) (S' := ([some (.ref 0), some (.int f), some (.int v)], [.ref 1, .int v], Ac fp le lp lb il (sbf t) (nI z) bf rf fr mp sc ifp ib ie pw dh rl rb re sy sb rc sg ex)) k_L_argumentCount_18 kc_L_argumentCount_18 rfl ⟨trivial, trivial, trivial, trivial⟩ ?_
    refine Run.callV (b := 1) (As := []) (rest := [.int v]) v_L_argumentCount_23 c_T_size rfl (Nat.le_of_ble_eq_true rfl) rfl rfl rfl rfl (fun r cs' hp => ?_)
    obtain ⟨rfl, rfl⟩ := hp
    show Run _ _ _ _ 26 ([some (.ref 0), some (.int f), some (.int v)], [.int (nI z), .int v], Ac fp le lp lb il (sbf t) (nI z) bf rf fr mp sc ifp ib ie pw dh rl rb re sy sb rc sg ex) _
    refine Run.br (tgt := 49) d_L_argumentCount_26 rfl (by decide) (fun c_1 => ?_) (fun c_1 => ?_)
    · exact absurd ((nI_leI (a := z) (b := i) (by omega) (by omega)).mp (by rw [← hv]; exact c_1)) (by omega)
    · refine Run.blk (gs := [True, True, True]) (S' := ([some (.ref 0), some (.int f), some (.int v)], [.int v, .ref 1], Ac fp le lp lb il (sbf t) (nI z) bf rf fr mp sc ifp ib ie pw dh rl rb re sy sb rc sg ex)) k_L_argumentCount_29 kc_L_argumentCount_29 rfl ⟨trivial, trivial, trivial, trivial⟩ ?_
      refine Run.callV (b := 1) (As := [.int v]) (rest := []) v_L_argumentCount_34 (c_T_byteAt ht hz (p := i) hv (by omega)) rfl (Nat.le_of_ble_eq_true rfl) rfl rfl rfl rfl (fun r cs' hp => ?_)
      obtain ⟨rfl, rfl⟩ := hp
      show Run _ _ _ _ 37 ([some (.ref 0), some (.int f), some (.int v)], [.int (nI (tb t z i))], Ac fp le lp lb il (sbf t) (nI z) bf rf fr mp sc ifp ib ie pw dh rl rb re sy sb rc sg ex) _
      refine Run.br (tgt := 43) d_L_argumentCount_37 rfl (by decide) (fun c_2 => ?_) (fun c_2 => ?_)
      · rw [tb_in (by omega), nI_eq0 (by have := ht i; omega)] at c_2
        refine Run.blk (gs := [True]) (S' := ([some (.ref 0), some (.int f), some (.int (v + (1 : Int32)))], [], Ac fp le lp lb il (sbf t) (nI z) bf rf fr mp sc ifp ib ie pw dh rl rb re sy sb rc sg ex)) k_L_argumentCount_43 kc_L_argumentCount_43 rfl ⟨trivial, trivial⟩ ?_
        refine Run.goto (tgt := 18) d_L_argumentCount_46 (by decide) ?_
        exact l_L_argumentCount ht hz k (i + 1) _ _ (by rw [hv, nI_1]) (by rw [hf, zc, if_neg c_2, Nat.add_zero]) (by omega)
      · have c_2 := Classical.not_not.mp c_2
        rw [tb_in (by omega), nI_eq0 (by have := ht i; omega)] at c_2
        refine Run.blk (gs := [True]) (S' := ([some (.ref 0), some (.int (f + (1 : Int32))), some (.int v)], [], Ac fp le lp lb il (sbf t) (nI z) bf rf fr mp sc ifp ib ie pw dh rl rb re sy sb rc sg ex)) k_L_argumentCount_40 kc_L_argumentCount_40 rfl ⟨trivial, trivial⟩ ?_
        refine Run.blk (gs := [True]) (S' := ([some (.ref 0), some (.int (f + (1 : Int32))), some (.int (v + (1 : Int32)))], [], Ac fp le lp lb il (sbf t) (nI z) bf rf fr mp sc ifp ib ie pw dh rl rb re sy sb rc sg ex)) k_L_argumentCount_43 kc_L_argumentCount_43 rfl ⟨trivial, trivial⟩ ?_
        refine Run.goto (tgt := 18) d_L_argumentCount_46 (by decide) ?_
        exact l_L_argumentCount ht hz k (i + 1) _ _ (by rw [hv, nI_1]) (by rw [hf, zc, if_pos c_2, nI_1]; congr 1; omega) (by omega)
set_option maxRecDepth 100000 in
set_option maxHeartbeats 4000000 in
theorem c_L_argumentCount (ht : ∀ j, t j < 256) (hz : z ≤ 900) : Ct m_L_argumentCount 0 0 [.ref 0] (Ac fp le lp lb il (sbf t) (nI z) bf rf fr mp sc ifp ib ie pw dh rl rb re sy sb rc sg ex) (vm_is (some (.int (nI (sAC t z)))) (Ac fp le lp lb il (sbf t) (nI z) bf rf fr mp sc ifp ib ie pw dh rl rb re sy sb rc sg ex)) := by
  refine Ct.of ⟨by decide +kernel, rfl⟩ (Nat.le_of_ble_eq_true rfl) (lv := [some (.ref 0), none, none]) rfl ?_
  refine Run.blk (gs := [True, True]) (S' := ([some (.ref 0), none, none], [.ref 1], Ac fp le lp lb il (sbf t) (nI z) bf rf fr mp sc ifp ib ie pw dh rl rb re sy sb rc sg ex)) k_L_argumentCount_0 kc_L_argumentCount_0 rfl ⟨trivial, trivial, trivial⟩ ?_
  refine Run.callV (b := 1) (As := []) (rest := []) v_L_argumentCount_4 (c_T_lacksLastZero ht hz) rfl (Nat.le_of_ble_eq_true rfl) rfl rfl rfl rfl (fun r cs' hp => ?_)
  obtain ⟨rfl, rfl⟩ := hp
  show Run _ _ _ _ 7 ([some (.ref 0), none, none], [.int (if 0 < z ∧ ¬ t (z - 1) = 0 then 1 else 0)], Ac fp le lp lb il (sbf t) (nI z) bf rf fr mp sc ifp ib ie pw dh rl rb re sy sb rc sg ex) _
  refine Run.br (tgt := 14) d_L_argumentCount_7 rfl (by decide) (fun c_1 => ?_) (fun c_1 => ?_)
  · have c_1 := zi_f c_1
    refine Run.blk (gs := [True]) (S' := ([some (.ref 0), none, none], [.int (0 : Int32)], Ac fp le lp lb il (sbf t) (nI z) bf rf fr mp sc ifp ib ie pw dh rl rb re sy sb rc sg ex)) k_L_argumentCount_14 kc_L_argumentCount_14 rfl ⟨trivial, trivial⟩ ?_
    refine Run.blk (gs := [True, True, True]) (S' := ([some (.ref 0), some (.int (0 : Int32)), some (.int (0 : Int32))], [], Ac fp le lp lb il (sbf t) (nI z) bf rf fr mp sc ifp ib ie pw dh rl rb re sy sb rc sg ex)) k_L_argumentCount_15 kc_L_argumentCount_15 rfl ⟨trivial, trivial, trivial, trivial⟩ ?_
    exact l_L_argumentCount ht hz z 0 _ _ rfl (by unfold lk; rw [if_neg c_1]; rfl) (by omega)
  · have c_1 := zi_t c_1
    refine Run.blk (gs := [True]) (S' := ([some (.ref 0), none, none], [.int (1 : Int32)], Ac fp le lp lb il (sbf t) (nI z) bf rf fr mp sc ifp ib ie pw dh rl rb re sy sb rc sg ex)) k_L_argumentCount_10 kc_L_argumentCount_10 rfl ⟨trivial, trivial⟩ ?_
    refine Run.goto (tgt := 15) d_L_argumentCount_11 (by decide) ?_
    refine Run.blk (gs := [True, True, True]) (S' := ([some (.ref 0), some (.int (1 : Int32)), some (.int (0 : Int32))], [], Ac fp le lp lb il (sbf t) (nI z) bf rf fr mp sc ifp ib ie pw dh rl rb re sy sb rc sg ex)) k_L_argumentCount_15 kc_L_argumentCount_15 rfl ⟨trivial, trivial, trivial, trivial⟩ ?_
    exact l_L_argumentCount ht hz z 0 _ _ rfl (by unfold lk; rw [if_pos c_1]; rfl) (by omega)
set_option maxRecDepth 100000 in
set_option maxHeartbeats 4000000 in
theorem c_L_stackPointer (ht : ∀ j, t j < 256) (hz : z ≤ 900) : Ct m_L_stackPointer 0 0 [.ref 0] (Ac fp le lp lb il (sbf t) (nI z) bf rf fr mp sc ifp ib ie pw dh rl rb re sy sb rc sg ex) (vm_is (some (.int (nI (sPt t z)))) (Ac fp le lp lb il (sbf t) (nI z) bf rf fr mp sc ifp ib ie pw dh rl rb re sy sb rc sg ex)) := by
  refine Ct.of ⟨by decide +kernel, rfl⟩ (Nat.le_of_ble_eq_true rfl) (lv := [some (.ref 0), none, none]) rfl ?_
  refine Run.blk (gs := [True]) (S' := ([some (.ref 0), none, none], [.ref 0], Ac fp le lp lb il (sbf t) (nI z) bf rf fr mp sc ifp ib ie pw dh rl rb re sy sb rc sg ex)) k_L_stackPointer_0 kc_L_stackPointer_0 rfl ⟨trivial, trivial⟩ ?_
  refine Run.callV (b := 0) (As := []) (rest := []) v_L_stackPointer_1 (c_L_argumentCount ht hz) rfl (Nat.le_of_ble_eq_true rfl) rfl rfl rfl rfl (fun r cs' hp => ?_)
  obtain ⟨rfl, rfl⟩ := hp
  show Run _ _ _ _ 4 ([some (.ref 0), none, none], [.int (nI (sAC t z))], Ac fp le lp lb il (sbf t) (nI z) bf rf fr mp sc ifp ib ie pw dh rl rb re sy sb rc sg ex) _
  refine Run.blk (gs := [True, True, True, True, True]) (S' := ([some (.ref 0), some (.int ((nI (sAC t z)) + (3 : Int32))), none], [.ref 0, .int (16384 : Int32)], Ac fp le lp lb il (sbf t) (nI z) bf rf fr mp sc ifp ib ie pw dh rl rb re sy sb rc sg ex)) k_L_stackPointer_4 kc_L_stackPointer_4 rfl ⟨trivial, trivial, trivial, trivial, trivial, trivial⟩ ?_
  refine Run.callV (b := 0) (As := []) (rest := [.int (16384 : Int32)]) v_L_stackPointer_11 (c_L_argumentBytes ht hz) rfl (Nat.le_of_ble_eq_true rfl) rfl rfl rfl rfl (fun r cs' hp => ?_)
  obtain ⟨rfl, rfl⟩ := hp
  show Run _ _ _ _ 14 ([some (.ref 0), some (.int ((nI (sAC t z)) + (3 : Int32))), none], [.int (nI (sAB t z)), .int (16384 : Int32)], Ac fp le lp lb il (sbf t) (nI z) bf rf fr mp sc ifp ib ie pw dh rl rb re sy sb rc sg ex) _
  refine Run.blk (gs := [True, True, True, True, True, True, True, True, True]) (S' := ([some (.ref 0), some (.int ((nI (sAC t z)) + (3 : Int32))), some (.int (((16384 : Int32) - (nI (sAB t z))) - ((4 : Int32) * ((nI (sAC t z)) + (3 : Int32)))))], [.int (16 : Int32), .int (((16384 : Int32) - (nI (sAB t z))) - ((4 : Int32) * ((nI (sAC t z)) + (3 : Int32)))), .int (((16384 : Int32) - (nI (sAB t z))) - ((4 : Int32) * ((nI (sAC t z)) + (3 : Int32))))], Ac fp le lp lb il (sbf t) (nI z) bf rf fr mp sc ifp ib ie pw dh rl rb re sy sb rc sg ex)) k_L_stackPointer_14 kc_L_stackPointer_14 rfl ⟨trivial, trivial, trivial, trivial, trivial, trivial, trivial, trivial, trivial, trivial⟩ ?_
  refine Run.callS (As := [.int (((16384 : Int32) - (nI (sAB t z))) - ((4 : Int32) * ((nI (sAC t z)) + (3 : Int32)))), .int (16 : Int32)]) (rest := [.int (((16384 : Int32) - (nI (sAB t z))) - ((4 : Int32) * ((nI (sAC t z)) + (3 : Int32))))]) v_L_stackPointer_24 (c_J_floorMod (((16384 : Int32) - (nI (sAB t z))) - ((4 : Int32) * ((nI (sAC t z)) + (3 : Int32)))) (16 : Int32) (by decide)) rfl (Nat.le_of_ble_eq_true rfl) rfl (fun r cs' hp => ?_)
  obtain ⟨rfl, rfl⟩ := hp
  show Run _ _ _ _ 27 ([some (.ref 0), some (.int ((nI (sAC t z)) + (3 : Int32))), some (.int (((16384 : Int32) - (nI (sAB t z))) - ((4 : Int32) * ((nI (sAC t z)) + (3 : Int32)))))], [.int (f_J_floorMod (((16384 : Int32) - (nI (sAB t z))) - ((4 : Int32) * ((nI (sAC t z)) + (3 : Int32)))) (16 : Int32)), .int (((16384 : Int32) - (nI (sAB t z))) - ((4 : Int32) * ((nI (sAC t z)) + (3 : Int32))))], Ac fp le lp lb il (sbf t) (nI z) bf rf fr mp sc ifp ib ie pw dh rl rb re sy sb rc sg ex) _
  refine Run.blk (gs := [True]) (S' := ([some (.ref 0), some (.int ((nI (sAC t z)) + (3 : Int32))), some (.int (((16384 : Int32) - (nI (sAB t z))) - ((4 : Int32) * ((nI (sAC t z)) + (3 : Int32)))))], [.int ((((16384 : Int32) - (nI (sAB t z))) - ((4 : Int32) * ((nI (sAC t z)) + (3 : Int32)))) - (f_J_floorMod (((16384 : Int32) - (nI (sAB t z))) - ((4 : Int32) * ((nI (sAC t z)) + (3 : Int32)))) (16 : Int32)))], Ac fp le lp lb il (sbf t) (nI z) bf rf fr mp sc ifp ib ie pw dh rl rb re sy sb rc sg ex)) k_L_stackPointer_27 kc_L_stackPointer_27 rfl ⟨trivial, trivial⟩ ?_
  exact Run.ret (r := some (.int ((((16384 : Int32) - (nI (sAB t z))) - ((4 : Int32) * ((nI (sAC t z)) + (3 : Int32)))) - (f_J_floorMod (((16384 : Int32) - (nI (sAB t z))) - ((4 : Int32) * ((nI (sAC t z)) + (3 : Int32)))) (16 : Int32))))) ⟨d_L_stackPointer_28, _, rfl, rfl⟩ ⟨by rw [top_e hz, fm_pos (by unfold sTop; omega), pk_sub (Nat.mod_le _ _)]; rfl, rfl⟩
set_option maxRecDepth 100000 in
set_option maxHeartbeats 4000000 in
theorem l_L_layArguments (ht : ∀ j, t j < 256) (hz : z ≤ 900) {P : Nat} (hP : P + 4 * (sAC t z + 3) + sAB t z ≤ 16384) : ∀ (k i sl : Nat) (st : Bool) (w s v : Int32) (bb : Nat → Nat), w = nI i → s = nI sl → v = (if st = true then 1 else 0) → sl = P + 4 + 4 * (zc t i + if st = true then 0 else 1) → i + k = z → Run m_L_layArguments n 0 0 32 ([some (.ref 0), some (.int (nI P)), some (.int (nI (16384 - sAB t z))), some (.int s), some (.int v), some (.int w)], [], Ac fp le lp lb il (sbf t) (nI z) (sbf bb) rf fr mp sc ifp ib ie pw dh rl rb re sy sb rc sg ex) (vm_is none (Ac fp le lp lb il (sbf t) (nI z) (sbf (stB t (16384 - sAB t z) k i sl st bb)) rf fr mp sc ifp ib ie pw dh rl rb re sy sb rc sg ex))
  | 0, i, sl, st, w, s, v, bb, hw, hs, hv, hsl, h => by
    refine Run.blk (gs := [True, True, True]) (S' := ([some (.ref 0), some (.int (nI P)), some (.int (nI (16384 - sAB t z))), some (.int s), some (.int v), some (.int w)], [.ref 1, .int w], Ac fp le lp lb il (sbf t) (nI z) (sbf bb) rf fr mp sc ifp ib ie pw dh rl rb re sy sb rc sg ex)) k_L_layArguments_32 kc_L_layArguments_32 rfl ⟨trivial, trivial, trivial, trivial⟩ ?_
    refine Run.callV (b := 1) (As := []) (rest := [.int w]) v_L_layArguments_38 c_T_size rfl (Nat.le_of_ble_eq_true rfl) rfl rfl rfl rfl (fun r cs' hp => ?_)
    obtain ⟨rfl, rfl⟩ := hp
    show Run _ _ _ _ 41 ([some (.ref 0), some (.int (nI P)), some (.int (nI (16384 - sAB t z))), some (.int s), some (.int v), some (.int w)], [.int (nI z), .int w], Ac fp le lp lb il (sbf t) (nI z) (sbf bb) rf fr mp sc ifp ib ie pw dh rl rb re sy sb rc sg ex) _
    refine Run.br (tgt := 110) d_L_layArguments_41 rfl (by decide) (fun c_1 => ?_) (fun c_1 => ?_)
    · exact Run.ret (r := none) ⟨d_L_layArguments_110, rfl⟩ ⟨rfl, rfl⟩
    · exact absurd (by rw [hw]; exact (nI_leI (a := z) (b := i) (by omega) (by omega)).mpr (by omega)) c_1
  | k + 1, i, sl, st, w, s, v, bb, hw, hs, hv, hsl, h => by
    have hsl0 := hsl
    have hmo := zc_mono t i (k + 1)
    rw [h] at hmo
    have hac : sAC t z = zc t z + lk t z := rfl
    have hab : z ≤ sAB t z := Nat.le_add_right _ _
    refine Run.blk (gs := [True, True, True]) (S' := ([some (.ref 0), some (.int (nI P)), some (.int (nI (16384 - sAB t z))), some (.int s), some (.int v), some (.int w)], [.ref 1, .int w], Ac fp le lp lb il (sbf t) (nI z) (sbf bb) rf fr mp sc ifp ib ie pw dh rl rb re sy sb rc sg ex)) k_L_layArguments_32 kc_L_layArguments_32 rfl ⟨trivial, trivial, trivial, trivial⟩ ?_
    refine Run.callV (b := 1) (As := []) (rest := [.int w]) v_L_layArguments_38 c_T_size rfl (Nat.le_of_ble_eq_true rfl) rfl rfl rfl rfl (fun r cs' hp => ?_)
    obtain ⟨rfl, rfl⟩ := hp
    show Run _ _ _ _ 41 ([some (.ref 0), some (.int (nI P)), some (.int (nI (16384 - sAB t z))), some (.int s), some (.int v), some (.int w)], [.int (nI z), .int w], Ac fp le lp lb il (sbf t) (nI z) (sbf bb) rf fr mp sc ifp ib ie pw dh rl rb re sy sb rc sg ex) _
    refine Run.br (tgt := 110) d_L_layArguments_41 rfl (by decide) (fun c_1 => ?_) (fun c_1 => ?_)
    · exact absurd ((nI_leI (a := z) (b := i) (by omega) (by omega)).mp (by rw [← hw]; exact c_1)) (by omega)
    · refine Run.blk (gs := [True]) (S' := ([some (.ref 0), some (.int (nI P)), some (.int (nI (16384 - sAB t z))), some (.int s), some (.int v), some (.int w)], [.int v], Ac fp le lp lb il (sbf t) (nI z) (sbf bb) rf fr mp sc ifp ib ie pw dh rl rb re sy sb rc sg ex)) k_L_layArguments_44 kc_L_layArguments_44 rfl ⟨trivial, trivial⟩ ?_
      refine Run.br (tgt := 65) d_L_layArguments_46 rfl (by decide) (fun c_2 => ?_) (fun c_2 => ?_)
      · rw [hv] at c_2
        have c_2 := zi_f c_2
        refine Run.blk (gs := [True, True, True, True, True, True, True, True]) (S' := ([some (.ref 0), some (.int (nI P)), some (.int (nI (16384 - sAB t z))), some (.int s), some (.int v), some (.int w)], [.int w, .ref 1, .int ((nI (16384 - sAB t z)) + w), .ref 3], Ac fp le lp lb il (sbf t) (nI z) (sbf bb) rf fr mp sc ifp ib ie pw dh rl rb re sy sb rc sg ex)) k_L_layArguments_65 kc_L_layArguments_65 rfl ⟨trivial, trivial, trivial, trivial, trivial, trivial, trivial, trivial, trivial⟩ ?_
        refine Run.callV (b := 1) (As := [.int w]) (rest := [.int ((nI (16384 - sAB t z)) + w), .ref 3]) v_L_layArguments_79 (c_T_byteAt ht hz (p := i) hw (by omega)) rfl (Nat.le_of_ble_eq_true rfl) rfl rfl rfl rfl (fun r cs' hp => ?_)
        obtain ⟨rfl, rfl⟩ := hp
        show Run _ _ _ _ 82 ([some (.ref 0), some (.int (nI P)), some (.int (nI (16384 - sAB t z))), some (.int s), some (.int v), some (.int w)], [.int (nI (tb t z i)), .int ((nI (16384 - sAB t z)) + w), .ref 3], Ac fp le lp lb il (sbf t) (nI z) (sbf bb) rf fr mp sc ifp ib ie pw dh rl rb re sy sb rc sg ex) _
        refine Run.callV (b := 3) (As := [.int ((nI (16384 - sAB t z)) + w), .int (nI (tb t z i))]) (rest := []) v_L_layArguments_82 (c_P_setByte (p := (16384 - sAB t z) + i) (by rw [hw, nI_add]) (by omega)) rfl (Nat.le_of_ble_eq_true rfl) rfl rfl rfl rfl (fun r cs' hp => ?_)
        obtain ⟨rfl, rfl⟩ := hp
        show Run _ _ _ _ 85 ([some (.ref 0), some (.int (nI P)), some (.int (nI (16384 - sAB t z))), some (.int s), some (.int v), some (.int w)], [], Ac fp le lp lb il (sbf t) (nI z) (sbf (upN bb ((16384 - sAB t z) + i) (lb8 (nI (tb t z i))))) rf fr mp sc ifp ib ie pw dh rl rb re sy sb rc sg ex) _
        refine Run.blk (gs := [True, True, True]) (S' := ([some (.ref 0), some (.int (nI P)), some (.int (nI (16384 - sAB t z))), some (.int s), some (.int v), some (.int w)], [.int w, .ref 1], Ac fp le lp lb il (sbf t) (nI z) (sbf (upN bb ((16384 - sAB t z) + i) (lb8 (nI (tb t z i))))) rf fr mp sc ifp ib ie pw dh rl rb re sy sb rc sg ex)) k_L_layArguments_85 kc_L_layArguments_85 rfl ⟨trivial, trivial, trivial, trivial⟩ ?_
        refine Run.callV (b := 1) (As := [.int w]) (rest := []) v_L_layArguments_91 (c_T_byteAt ht hz (p := i) hw (by omega)) rfl (Nat.le_of_ble_eq_true rfl) rfl rfl rfl rfl (fun r cs' hp => ?_)
        obtain ⟨rfl, rfl⟩ := hp
        show Run _ _ _ _ 94 ([some (.ref 0), some (.int (nI P)), some (.int (nI (16384 - sAB t z))), some (.int s), some (.int v), some (.int w)], [.int (nI (tb t z i))], Ac fp le lp lb il (sbf t) (nI z) (sbf (upN bb ((16384 - sAB t z) + i) (lb8 (nI (tb t z i))))) rf fr mp sc ifp ib ie pw dh rl rb re sy sb rc sg ex) _
        refine Run.br (tgt := 101) d_L_layArguments_94 rfl (by decide) (fun c_3 => ?_) (fun c_3 => ?_)
        · rw [tb_in (by omega), nI_eq0 (by have := ht i; omega)] at c_3
          refine Run.blk (gs := [True]) (S' := ([some (.ref 0), some (.int (nI P)), some (.int (nI (16384 - sAB t z))), some (.int s), some (.int v), some (.int w)], [.int (0 : Int32)], Ac fp le lp lb il (sbf t) (nI z) (sbf (upN bb ((16384 - sAB t z) + i) (lb8 (nI (tb t z i))))) rf fr mp sc ifp ib ie pw dh rl rb re sy sb rc sg ex)) k_L_layArguments_101 kc_L_layArguments_101 rfl ⟨trivial, trivial⟩ ?_
          refine Run.blk (gs := [True, True]) (S' := ([some (.ref 0), some (.int (nI P)), some (.int (nI (16384 - sAB t z))), some (.int s), some (.int (0 : Int32)), some (.int (w + (1 : Int32)))], [], Ac fp le lp lb il (sbf t) (nI z) (sbf (upN bb ((16384 - sAB t z) + i) (lb8 (nI (tb t z i))))) rf fr mp sc ifp ib ie pw dh rl rb re sy sb rc sg ex)) k_L_layArguments_102 kc_L_layArguments_102 rfl ⟨trivial, trivial, trivial⟩ ?_
          refine Run.goto (tgt := 32) d_L_layArguments_107 (by decide) ?_
          have e1 : upN (bb) ((16384 - sAB t z) + i) (lb8 (nI (tb t z i))) = upN (if st = true then u4 bb sl (nI ((16384 - sAB t z) + i)) else bb) ((16384 - sAB t z) + i) (t i) := by rw [if_neg c_2, tb_in (by omega), lb8_b (ht i)]
          rw [e1]
          exact l_L_layArguments ht hz hP k (i + 1) (if st = true then sl + 4 else sl) (decide (t i = 0)) _ _ _ _ (by rw [hw, nI_1]) (by rw [if_neg c_2, hs]) (by rw [decide_eq_false c_3]; rfl) (sl_s hsl0) (by omega)
        · have c_3 := Classical.not_not.mp c_3
          rw [tb_in (by omega), nI_eq0 (by have := ht i; omega)] at c_3
          refine Run.blk (gs := [True]) (S' := ([some (.ref 0), some (.int (nI P)), some (.int (nI (16384 - sAB t z))), some (.int s), some (.int v), some (.int w)], [.int (1 : Int32)], Ac fp le lp lb il (sbf t) (nI z) (sbf (upN bb ((16384 - sAB t z) + i) (lb8 (nI (tb t z i))))) rf fr mp sc ifp ib ie pw dh rl rb re sy sb rc sg ex)) k_L_layArguments_97 kc_L_layArguments_97 rfl ⟨trivial, trivial⟩ ?_
          refine Run.goto (tgt := 102) d_L_layArguments_98 (by decide) ?_
          refine Run.blk (gs := [True, True]) (S' := ([some (.ref 0), some (.int (nI P)), some (.int (nI (16384 - sAB t z))), some (.int s), some (.int (1 : Int32)), some (.int (w + (1 : Int32)))], [], Ac fp le lp lb il (sbf t) (nI z) (sbf (upN bb ((16384 - sAB t z) + i) (lb8 (nI (tb t z i))))) rf fr mp sc ifp ib ie pw dh rl rb re sy sb rc sg ex)) k_L_layArguments_102 kc_L_layArguments_102 rfl ⟨trivial, trivial, trivial⟩ ?_
          refine Run.goto (tgt := 32) d_L_layArguments_107 (by decide) ?_
          have e1 : upN (bb) ((16384 - sAB t z) + i) (lb8 (nI (tb t z i))) = upN (if st = true then u4 bb sl (nI ((16384 - sAB t z) + i)) else bb) ((16384 - sAB t z) + i) (t i) := by rw [if_neg c_2, tb_in (by omega), lb8_b (ht i)]
          rw [e1]
          exact l_L_layArguments ht hz hP k (i + 1) (if st = true then sl + 4 else sl) (decide (t i = 0)) _ _ _ _ (by rw [hw, nI_1]) (by rw [if_neg c_2, hs]) (by rw [decide_eq_true c_3]; rfl) (sl_s hsl0) (by omega)
      · rw [hv] at c_2
        have c_2 := zi_t c_2
        rw [if_pos c_2] at hsl
        refine Run.blk (gs := [True, True, True, True, True, True, True]) (S' := ([some (.ref 0), some (.int (nI P)), some (.int (nI (16384 - sAB t z))), some (.int s), some (.int v), some (.int w)], [.int ((nI (16384 - sAB t z)) + w), .int (4 : Int32), .int s, .ref 3], Ac fp le lp lb il (sbf t) (nI z) (sbf bb) rf fr mp sc ifp ib ie pw dh rl rb re sy sb rc sg ex)) k_L_layArguments_49 kc_L_layArguments_49 rfl ⟨trivial, trivial, trivial, trivial, trivial, trivial, trivial, trivial⟩ ?_
        refine Run.callV (b := 3) (As := [.int s, .int (4 : Int32), .int ((nI (16384 - sAB t z)) + w)]) (rest := []) v_L_layArguments_59 (c_P_setNumber4 (p := sl) hs (by omega)) rfl (Nat.le_of_ble_eq_true rfl) rfl rfl rfl rfl (fun r cs' hp => ?_)
        obtain ⟨rfl, rfl⟩ := hp
        show Run _ _ _ _ 62 ([some (.ref 0), some (.int (nI P)), some (.int (nI (16384 - sAB t z))), some (.int s), some (.int v), some (.int w)], [], Ac fp le lp lb il (sbf t) (nI z) (sbf (u4 bb sl (nI (16384 - sAB t z) + w))) rf fr mp sc ifp ib ie pw dh rl rb re sy sb rc sg ex) _
        refine Run.blk (gs := [True]) (S' := ([some (.ref 0), some (.int (nI P)), some (.int (nI (16384 - sAB t z))), some (.int (s + (4 : Int32))), some (.int v), some (.int w)], [], Ac fp le lp lb il (sbf t) (nI z) (sbf (u4 bb sl (nI (16384 - sAB t z) + w))) rf fr mp sc ifp ib ie pw dh rl rb re sy sb rc sg ex)) k_L_layArguments_62 kc_L_layArguments_62 rfl ⟨trivial, trivial⟩ ?_
        refine Run.blk (gs := [True, True, True, True, True, True, True, True]) (S' := ([some (.ref 0), some (.int (nI P)), some (.int (nI (16384 - sAB t z))), some (.int (s + (4 : Int32))), some (.int v), some (.int w)], [.int w, .ref 1, .int ((nI (16384 - sAB t z)) + w), .ref 3], Ac fp le lp lb il (sbf t) (nI z) (sbf (u4 bb sl (nI (16384 - sAB t z) + w))) rf fr mp sc ifp ib ie pw dh rl rb re sy sb rc sg ex)) k_L_layArguments_65 kc_L_layArguments_65 rfl ⟨trivial, trivial, trivial, trivial, trivial, trivial, trivial, trivial, trivial⟩ ?_
        refine Run.callV (b := 1) (As := [.int w]) (rest := [.int ((nI (16384 - sAB t z)) + w), .ref 3]) v_L_layArguments_79 (c_T_byteAt ht hz (p := i) hw (by omega)) rfl (Nat.le_of_ble_eq_true rfl) rfl rfl rfl rfl (fun r cs' hp => ?_)
        obtain ⟨rfl, rfl⟩ := hp
        show Run _ _ _ _ 82 ([some (.ref 0), some (.int (nI P)), some (.int (nI (16384 - sAB t z))), some (.int (s + (4 : Int32))), some (.int v), some (.int w)], [.int (nI (tb t z i)), .int ((nI (16384 - sAB t z)) + w), .ref 3], Ac fp le lp lb il (sbf t) (nI z) (sbf (u4 bb sl (nI (16384 - sAB t z) + w))) rf fr mp sc ifp ib ie pw dh rl rb re sy sb rc sg ex) _
        refine Run.callV (b := 3) (As := [.int ((nI (16384 - sAB t z)) + w), .int (nI (tb t z i))]) (rest := []) v_L_layArguments_82 (c_P_setByte (p := (16384 - sAB t z) + i) (by rw [hw, nI_add]) (by omega)) rfl (Nat.le_of_ble_eq_true rfl) rfl rfl rfl rfl (fun r cs' hp => ?_)
        obtain ⟨rfl, rfl⟩ := hp
        show Run _ _ _ _ 85 ([some (.ref 0), some (.int (nI P)), some (.int (nI (16384 - sAB t z))), some (.int (s + (4 : Int32))), some (.int v), some (.int w)], [], Ac fp le lp lb il (sbf t) (nI z) (sbf (upN (u4 bb sl (nI (16384 - sAB t z) + w)) ((16384 - sAB t z) + i) (lb8 (nI (tb t z i))))) rf fr mp sc ifp ib ie pw dh rl rb re sy sb rc sg ex) _
        refine Run.blk (gs := [True, True, True]) (S' := ([some (.ref 0), some (.int (nI P)), some (.int (nI (16384 - sAB t z))), some (.int (s + (4 : Int32))), some (.int v), some (.int w)], [.int w, .ref 1], Ac fp le lp lb il (sbf t) (nI z) (sbf (upN (u4 bb sl (nI (16384 - sAB t z) + w)) ((16384 - sAB t z) + i) (lb8 (nI (tb t z i))))) rf fr mp sc ifp ib ie pw dh rl rb re sy sb rc sg ex)) k_L_layArguments_85 kc_L_layArguments_85 rfl ⟨trivial, trivial, trivial, trivial⟩ ?_
        refine Run.callV (b := 1) (As := [.int w]) (rest := []) v_L_layArguments_91 (c_T_byteAt ht hz (p := i) hw (by omega)) rfl (Nat.le_of_ble_eq_true rfl) rfl rfl rfl rfl (fun r cs' hp => ?_)
        obtain ⟨rfl, rfl⟩ := hp
        show Run _ _ _ _ 94 ([some (.ref 0), some (.int (nI P)), some (.int (nI (16384 - sAB t z))), some (.int (s + (4 : Int32))), some (.int v), some (.int w)], [.int (nI (tb t z i))], Ac fp le lp lb il (sbf t) (nI z) (sbf (upN (u4 bb sl (nI (16384 - sAB t z) + w)) ((16384 - sAB t z) + i) (lb8 (nI (tb t z i))))) rf fr mp sc ifp ib ie pw dh rl rb re sy sb rc sg ex) _
        refine Run.br (tgt := 101) d_L_layArguments_94 rfl (by decide) (fun c_4 => ?_) (fun c_4 => ?_)
        · rw [tb_in (by omega), nI_eq0 (by have := ht i; omega)] at c_4
          refine Run.blk (gs := [True]) (S' := ([some (.ref 0), some (.int (nI P)), some (.int (nI (16384 - sAB t z))), some (.int (s + (4 : Int32))), some (.int v), some (.int w)], [.int (0 : Int32)], Ac fp le lp lb il (sbf t) (nI z) (sbf (upN (u4 bb sl (nI (16384 - sAB t z) + w)) ((16384 - sAB t z) + i) (lb8 (nI (tb t z i))))) rf fr mp sc ifp ib ie pw dh rl rb re sy sb rc sg ex)) k_L_layArguments_101 kc_L_layArguments_101 rfl ⟨trivial, trivial⟩ ?_
          refine Run.blk (gs := [True, True]) (S' := ([some (.ref 0), some (.int (nI P)), some (.int (nI (16384 - sAB t z))), some (.int (s + (4 : Int32))), some (.int (0 : Int32)), some (.int (w + (1 : Int32)))], [], Ac fp le lp lb il (sbf t) (nI z) (sbf (upN (u4 bb sl (nI (16384 - sAB t z) + w)) ((16384 - sAB t z) + i) (lb8 (nI (tb t z i))))) rf fr mp sc ifp ib ie pw dh rl rb re sy sb rc sg ex)) k_L_layArguments_102 kc_L_layArguments_102 rfl ⟨trivial, trivial, trivial⟩ ?_
          refine Run.goto (tgt := 32) d_L_layArguments_107 (by decide) ?_
          have e1 : upN (u4 bb sl (nI (16384 - sAB t z) + w)) ((16384 - sAB t z) + i) (lb8 (nI (tb t z i))) = upN (if st = true then u4 bb sl (nI ((16384 - sAB t z) + i)) else bb) ((16384 - sAB t z) + i) (t i) := by rw [if_pos c_2, tb_in (by omega), lb8_b (ht i), hw, nI_add]
          rw [e1]
          exact l_L_layArguments ht hz hP k (i + 1) (if st = true then sl + 4 else sl) (decide (t i = 0)) _ _ _ _ (by rw [hw, nI_1]) (by rw [if_pos c_2, hs]; exact nI_add sl 4) (by rw [decide_eq_false c_4]; rfl) (sl_s hsl0) (by omega)
        · have c_4 := Classical.not_not.mp c_4
          rw [tb_in (by omega), nI_eq0 (by have := ht i; omega)] at c_4
          refine Run.blk (gs := [True]) (S' := ([some (.ref 0), some (.int (nI P)), some (.int (nI (16384 - sAB t z))), some (.int (s + (4 : Int32))), some (.int v), some (.int w)], [.int (1 : Int32)], Ac fp le lp lb il (sbf t) (nI z) (sbf (upN (u4 bb sl (nI (16384 - sAB t z) + w)) ((16384 - sAB t z) + i) (lb8 (nI (tb t z i))))) rf fr mp sc ifp ib ie pw dh rl rb re sy sb rc sg ex)) k_L_layArguments_97 kc_L_layArguments_97 rfl ⟨trivial, trivial⟩ ?_
          refine Run.goto (tgt := 102) d_L_layArguments_98 (by decide) ?_
          refine Run.blk (gs := [True, True]) (S' := ([some (.ref 0), some (.int (nI P)), some (.int (nI (16384 - sAB t z))), some (.int (s + (4 : Int32))), some (.int (1 : Int32)), some (.int (w + (1 : Int32)))], [], Ac fp le lp lb il (sbf t) (nI z) (sbf (upN (u4 bb sl (nI (16384 - sAB t z) + w)) ((16384 - sAB t z) + i) (lb8 (nI (tb t z i))))) rf fr mp sc ifp ib ie pw dh rl rb re sy sb rc sg ex)) k_L_layArguments_102 kc_L_layArguments_102 rfl ⟨trivial, trivial, trivial⟩ ?_
          refine Run.goto (tgt := 32) d_L_layArguments_107 (by decide) ?_
          have e1 : upN (u4 bb sl (nI (16384 - sAB t z) + w)) ((16384 - sAB t z) + i) (lb8 (nI (tb t z i))) = upN (if st = true then u4 bb sl (nI ((16384 - sAB t z) + i)) else bb) ((16384 - sAB t z) + i) (t i) := by rw [if_pos c_2, tb_in (by omega), lb8_b (ht i), hw, nI_add]
          rw [e1]
          exact l_L_layArguments ht hz hP k (i + 1) (if st = true then sl + 4 else sl) (decide (t i = 0)) _ _ _ _ (by rw [hw, nI_1]) (by rw [if_pos c_2, hs]; exact nI_add sl 4) (by rw [decide_eq_true c_4]; rfl) (sl_s hsl0) (by omega)
set_option maxRecDepth 100000 in
set_option maxHeartbeats 4000000 in
theorem c_L_layArguments (ht : ∀ j, t j < 256) (hz : z ≤ 900) {P : Nat} (hP : P + 4 * (sAC t z + 3) + sAB t z ≤ 16384) {x : Int32} (hx : x = nI P) : Ct m_L_layArguments 0 0 [.ref 0, .int x] (Ac fp le lp lb il (sbf t) (nI z) (sbf b) rf fr mp sc ifp ib ie pw dh rl rb re sy sb rc sg ex) (vm_is none (Ac fp le lp lb il (sbf t) (nI z) (sbf (stB t (16384 - sAB t z) z 0 (P + 4) true (u4 b P (nI (sAC t z))))) rf fr mp sc ifp ib ie pw dh rl rb re sy sb rc sg ex)) := by
  subst hx
  refine Ct.of ⟨by decide +kernel, rfl⟩ (Nat.le_of_ble_eq_true rfl) (lv := [some (.ref 0), some (.int (nI P)), none, none, none, none]) rfl ?_
  refine Run.blk (gs := [True, True]) (S' := ([some (.ref 0), some (.int (nI P)), none, none, none, none], [.ref 0, .int (16384 : Int32)], Ac fp le lp lb il (sbf t) (nI z) (sbf b) rf fr mp sc ifp ib ie pw dh rl rb re sy sb rc sg ex)) k_L_layArguments_0 kc_L_layArguments_0 rfl ⟨trivial, trivial, trivial⟩ ?_
  refine Run.callV (b := 0) (As := []) (rest := [.int (16384 : Int32)]) v_L_layArguments_4 (c_L_argumentBytes ht hz) rfl (Nat.le_of_ble_eq_true rfl) rfl rfl rfl rfl (fun r cs' hp => ?_)
  obtain ⟨rfl, rfl⟩ := hp
  show Run _ _ _ _ 7 ([some (.ref 0), some (.int (nI P)), none, none, none, none], [.int (nI (sAB t z)), .int (16384 : Int32)], Ac fp le lp lb il (sbf t) (nI z) (sbf b) rf fr mp sc ifp ib ie pw dh rl rb re sy sb rc sg ex) _
  refine Run.blk (gs := [True, True, True, True, True, True, True, True, True, True, True, True, True]) (S' := ([some (.ref 0), some (.int (nI P)), some (.int ((16384 : Int32) - (nI (sAB t z)))), some (.int ((nI P) + (4 : Int32))), some (.int (1 : Int32)), none], [.ref 0, .int (4 : Int32), .int (nI P), .ref 3], Ac fp le lp lb il (sbf t) (nI z) (sbf b) rf fr mp sc ifp ib ie pw dh rl rb re sy sb rc sg ex)) k_L_layArguments_7 kc_L_layArguments_7 rfl ⟨trivial, trivial, trivial, trivial, trivial, trivial, trivial, trivial, trivial, trivial, trivial, trivial, trivial, trivial⟩ ?_
  refine Run.callV (b := 0) (As := []) (rest := [.int (4 : Int32), .int (nI P), .ref 3]) v_L_layArguments_23 (c_L_argumentCount ht hz) rfl (Nat.le_of_ble_eq_true rfl) rfl rfl rfl rfl (fun r cs' hp => ?_)
  obtain ⟨rfl, rfl⟩ := hp
  show Run _ _ _ _ 26 ([some (.ref 0), some (.int (nI P)), some (.int ((16384 : Int32) - (nI (sAB t z)))), some (.int ((nI P) + (4 : Int32))), some (.int (1 : Int32)), none], [.int (nI (sAC t z)), .int (4 : Int32), .int (nI P), .ref 3], Ac fp le lp lb il (sbf t) (nI z) (sbf b) rf fr mp sc ifp ib ie pw dh rl rb re sy sb rc sg ex) _
  refine Run.callV (b := 3) (As := [.int (nI P), .int (4 : Int32), .int (nI (sAC t z))]) (rest := []) v_L_layArguments_26 (c_P_setNumber4 (p := P) rfl (by omega)) rfl (Nat.le_of_ble_eq_true rfl) rfl rfl rfl rfl (fun r cs' hp => ?_)
  obtain ⟨rfl, rfl⟩ := hp
  show Run _ _ _ _ 29 ([some (.ref 0), some (.int (nI P)), some (.int ((16384 : Int32) - (nI (sAB t z)))), some (.int ((nI P) + (4 : Int32))), some (.int (1 : Int32)), none], [], Ac fp le lp lb il (sbf t) (nI z) (sbf (u4 b P (nI (sAC t z)))) rf fr mp sc ifp ib ie pw dh rl rb re sy sb rc sg ex) _
  refine Run.blk (gs := [True, True]) (S' := ([some (.ref 0), some (.int (nI P)), some (.int ((16384 : Int32) - (nI (sAB t z)))), some (.int ((nI P) + (4 : Int32))), some (.int (1 : Int32)), some (.int (0 : Int32))], [], Ac fp le lp lb il (sbf t) (nI z) (sbf (u4 b P (nI (sAC t z)))) rf fr mp sc ifp ib ie pw dh rl rb re sy sb rc sg ex)) k_L_layArguments_29 kc_L_layArguments_29 rfl ⟨trivial, trivial, trivial⟩ ?_
  rw [from_e hz, show nI P + (4 : Int32) = nI (P + 4) from nI_add P 4]
  exact l_L_layArguments ht hz hP z 0 (P + 4) true _ _ _ _ rfl rfl rfl rfl (by omega)
set_option maxRecDepth 100000 in
set_option maxHeartbeats 4000000 in
theorem c_L_stack_A {x : Int32} (hx : ¬ (1 ≤ x.toInt ∧ x.toInt ≤ 16)) : Ct m_L_stack 0 0 [.ref 0, .int x] (Ac fp le lp lb il tf tz bf rf fr mp sc ifp ib ie pw dh rl rb re sy sb rc sg ex) (vm_is (some (.int (-2 : Int32))) (Ac fp le lp lb il tf tz bf rf fr mp sc ifp ib ie pw dh rl rb re sy sb rc sg ex)) := by
  refine Ct.of ⟨by decide +kernel, rfl⟩ (Nat.le_of_ble_eq_true rfl) (lv := [some (.ref 0), some (.int x), none, none]) rfl ?_
  refine Run.blk (gs := [True, True]) (S' := ([some (.ref 0), some (.int x), none, none], [.int (1 : Int32), .int x], Ac fp le lp lb il tf tz bf rf fr mp sc ifp ib ie pw dh rl rb re sy sb rc sg ex)) k_L_stack_0 kc_L_stack_0 rfl ⟨trivial, trivial, trivial⟩ ?_
  refine Run.br (tgt := 11) d_L_stack_2 rfl (by decide) (fun c_1 => ?_) (fun c_1 => ?_)
  · rw [Int32.lt_iff_toInt_lt, t1] at c_1
    refine Run.blk (gs := [True]) (S' := ([some (.ref 0), some (.int x), none, none], [.int (-2 : Int32)], Ac fp le lp lb il tf tz bf rf fr mp sc ifp ib ie pw dh rl rb re sy sb rc sg ex)) k_L_stack_11 kc_L_stack_11 rfl ⟨trivial, trivial⟩ ?_
    exact Run.ret (r := some (.int (-2 : Int32))) ⟨d_L_stack_13, _, rfl, rfl⟩ ⟨rfl, rfl⟩
  · rw [Int32.lt_iff_toInt_lt, t1] at c_1
    refine Run.blk (gs := [True, True]) (S' := ([some (.ref 0), some (.int x), none, none], [.int (16 : Int32), .int x], Ac fp le lp lb il tf tz bf rf fr mp sc ifp ib ie pw dh rl rb re sy sb rc sg ex)) k_L_stack_5 kc_L_stack_5 rfl ⟨trivial, trivial, trivial⟩ ?_
    refine Run.br (tgt := 14) d_L_stack_8 rfl (by decide) (fun c_2 => ?_) (fun c_2 => ?_)
    · rw [Int32.le_iff_toInt_le, show (16 : Int32).toInt = 16 by decide] at c_2
      exact absurd ⟨by omega, by omega⟩ hx
    · rw [Int32.le_iff_toInt_le, show (16 : Int32).toInt = 16 by decide] at c_2
      refine Run.blk (gs := [True]) (S' := ([some (.ref 0), some (.int x), none, none], [.int (-2 : Int32)], Ac fp le lp lb il tf tz bf rf fr mp sc ifp ib ie pw dh rl rb re sy sb rc sg ex)) k_L_stack_11 kc_L_stack_11 rfl ⟨trivial, trivial⟩ ?_
      exact Run.ret (r := some (.int (-2 : Int32))) ⟨d_L_stack_13, _, rfl, rfl⟩ ⟨rfl, rfl⟩
set_option maxRecDepth 100000 in
set_option maxHeartbeats 4000000 in
theorem c_L_stack_B (ht : ∀ j, t j < 256) (hz : z ≤ 900) {f q : Nat} (hf : f ≤ 64) (hm : cntM rf 0 64 ≤ f) (hq : 1 ≤ q ∧ q ≤ 16) {x : Int32} (hx : x = nI q) (hg : ¬ (anyM rf (64 - q) (64 - (64 - q)) = false ∧ q ≤ f - cntM rf 0 64 ∧ 256 * (64 - q) ≤ sPt t z)) : Ct m_L_stack 0 0 [.ref 0, .int x] (Ac fp le lp lb il (sbf t) (nI z) (sbf b) rf (nI f) (nI (cntM rf 0 64)) sc ifp ib ie pw dh rl rb re sy sb rc sg ex) (vm_is (some (.int (-3 : Int32))) (Ac fp le lp lb il (sbf t) (nI z) (sbf b) rf (nI f) (nI (cntM rf 0 64)) sc ifp ib ie pw dh rl rb re sy sb rc sg ex)) := by
  subst hx
  refine Ct.of ⟨by decide +kernel, rfl⟩ (Nat.le_of_ble_eq_true rfl) (lv := [some (.ref 0), some (.int (nI q)), none, none]) rfl ?_
  refine Run.blk (gs := [True, True]) (S' := ([some (.ref 0), some (.int (nI q)), none, none], [.int (1 : Int32), .int (nI q)], Ac fp le lp lb il (sbf t) (nI z) (sbf b) rf (nI f) (nI (cntM rf 0 64)) sc ifp ib ie pw dh rl rb re sy sb rc sg ex)) k_L_stack_0 kc_L_stack_0 rfl ⟨trivial, trivial, trivial⟩ ?_
  refine Run.br (tgt := 11) d_L_stack_2 rfl (by decide) (fun c_1 => ?_) (fun c_1 => ?_)
  · rw [show (1 : Int32) = nI 1 from rfl, nI_ltI (by omega) (by decide)] at c_1
    exact absurd c_1 (by omega)
  · rw [show (1 : Int32) = nI 1 from rfl, nI_ltI (by omega) (by decide)] at c_1
    refine Run.blk (gs := [True, True]) (S' := ([some (.ref 0), some (.int (nI q)), none, none], [.int (16 : Int32), .int (nI q)], Ac fp le lp lb il (sbf t) (nI z) (sbf b) rf (nI f) (nI (cntM rf 0 64)) sc ifp ib ie pw dh rl rb re sy sb rc sg ex)) k_L_stack_5 kc_L_stack_5 rfl ⟨trivial, trivial, trivial⟩ ?_
    refine Run.br (tgt := 14) d_L_stack_8 rfl (by decide) (fun c_2 => ?_) (fun c_2 => ?_)
    · rw [show (16 : Int32) = nI 16 from rfl, nI_leI (by omega) (by decide)] at c_2
      refine Run.blk (gs := [True, True, True, True, True, True, True, True]) (S' := ([some (.ref 0), some (.int (nI q)), some (.int ((64 : Int32) - (nI q))), none], [.int (63 : Int32), .int ((64 : Int32) - (nI q)), .ref 3], Ac fp le lp lb il (sbf t) (nI z) (sbf b) rf (nI f) (nI (cntM rf 0 64)) sc ifp ib ie pw dh rl rb re sy sb rc sg ex)) k_L_stack_14 kc_L_stack_14 rfl ⟨trivial, trivial, trivial, trivial, trivial, trivial, trivial, trivial, trivial⟩ ?_
      refine Run.callV (b := 3) (As := [.int ((64 : Int32) - (nI q)), .int (63 : Int32)]) (rest := []) v_L_stack_26 (c_P_anyMapped (a := 64 - q) (c := 64) (pk_sub (a := 64) (by omega)) ti63 (by decide) (by omega)) rfl (Nat.le_of_ble_eq_true rfl) rfl rfl rfl rfl (fun r cs' hp => ?_)
      obtain ⟨rfl, rfl⟩ := hp
      show Run _ _ _ _ 29 ([some (.ref 0), some (.int (nI q)), some (.int ((64 : Int32) - (nI q))), none], [.int (if anyM rf (64 - q) (64 - (64 - q)) = true then 1 else 0)], Ac fp le lp lb il (sbf t) (nI z) (sbf b) rf (nI f) (nI (cntM rf 0 64)) sc ifp ib ie pw dh rl rb re sy sb rc sg ex) _
      refine Run.br (tgt := 43) d_L_stack_29 rfl (by decide) (fun c_3 => ?_) (fun c_3 => ?_)
      · have c_3 := zi_t c_3
        refine Run.blk (gs := [True]) (S' := ([some (.ref 0), some (.int (nI q)), some (.int ((64 : Int32) - (nI q))), none], [.int (-3 : Int32)], Ac fp le lp lb il (sbf t) (nI z) (sbf b) rf (nI f) (nI (cntM rf 0 64)) sc ifp ib ie pw dh rl rb re sy sb rc sg ex)) k_L_stack_43 kc_L_stack_43 rfl ⟨trivial, trivial⟩ ?_
        exact Run.ret (r := some (.int (-3 : Int32))) ⟨d_L_stack_45, _, rfl, rfl⟩ ⟨rfl, rfl⟩
      · have c_3 := zi_f (Classical.not_not.mp c_3)
        refine Run.blk (gs := [True, True, True]) (S' := ([some (.ref 0), some (.int (nI q)), some (.int ((64 : Int32) - (nI q))), none], [.ref 3, .int (nI q)], Ac fp le lp lb il (sbf t) (nI z) (sbf b) rf (nI f) (nI (cntM rf 0 64)) sc ifp ib ie pw dh rl rb re sy sb rc sg ex)) k_L_stack_32 kc_L_stack_32 rfl ⟨trivial, trivial, trivial, trivial⟩ ?_
        refine Run.callV (b := 3) (As := []) (rest := [.int (nI q)]) v_L_stack_37 c_P_freeFrames rfl (Nat.le_of_ble_eq_true rfl) rfl rfl rfl rfl (fun r cs' hp => ?_)
        obtain ⟨rfl, rfl⟩ := hp
        show Run _ _ _ _ 40 ([some (.ref 0), some (.int (nI q)), some (.int ((64 : Int32) - (nI q))), none], [.int ((nI f) - (nI (cntM rf 0 64))), .int (nI q)], Ac fp le lp lb il (sbf t) (nI z) (sbf b) rf (nI f) (nI (cntM rf 0 64)) sc ifp ib ie pw dh rl rb re sy sb rc sg ex) _
        refine Run.br (tgt := 46) d_L_stack_40 rfl (by decide) (fun c_4 => ?_) (fun c_4 => ?_)
        · rw [pk_sub (by omega), nI_leI (by omega) (by omega)] at c_4
          refine Run.blk (gs := [True]) (S' := ([some (.ref 0), some (.int (nI q)), some (.int ((64 : Int32) - (nI q))), none], [.ref 0], Ac fp le lp lb il (sbf t) (nI z) (sbf b) rf (nI f) (nI (cntM rf 0 64)) sc ifp ib ie pw dh rl rb re sy sb rc sg ex)) k_L_stack_46 kc_L_stack_46 rfl ⟨trivial, trivial⟩ ?_
          refine Run.callV (b := 0) (As := []) (rest := []) v_L_stack_47 (c_L_stackPointer ht hz) rfl (Nat.le_of_ble_eq_true rfl) rfl rfl rfl rfl (fun r cs' hp => ?_)
          obtain ⟨rfl, rfl⟩ := hp
          show Run _ _ _ _ 50 ([some (.ref 0), some (.int (nI q)), some (.int ((64 : Int32) - (nI q))), none], [.int (nI (sPt t z))], Ac fp le lp lb il (sbf t) (nI z) (sbf b) rf (nI f) (nI (cntM rf 0 64)) sc ifp ib ie pw dh rl rb re sy sb rc sg ex) _
          refine Run.blk (gs := [True, True, True, True, True]) (S' := ([some (.ref 0), some (.int (nI q)), some (.int ((64 : Int32) - (nI q))), some (.int (nI (sPt t z)))], [.int (((64 : Int32) - (nI q)) * (256 : Int32)), .int (nI (sPt t z))], Ac fp le lp lb il (sbf t) (nI z) (sbf b) rf (nI f) (nI (cntM rf 0 64)) sc ifp ib ie pw dh rl rb re sy sb rc sg ex)) k_L_stack_50 kc_L_stack_50 rfl ⟨trivial, trivial, trivial, trivial, trivial, trivial⟩ ?_
          refine Run.br (tgt := 63) d_L_stack_57 rfl (by decide) (fun c_5 => ?_) (fun c_5 => ?_)
          · rw [show (64 : Int32) = nI 64 from rfl, show (256 : Int32) = nI 256 from rfl, pk_sub (by omega), pk_mul, nI_leI (by omega) (by have := @sPt_lt t z; omega)] at c_5
            exact absurd ⟨Bool.not_eq_true _ ▸ c_3, c_4, by omega⟩ hg
          · rw [show (64 : Int32) = nI 64 from rfl, show (256 : Int32) = nI 256 from rfl, pk_sub (by omega), pk_mul, nI_leI (by omega) (by have := @sPt_lt t z; omega)] at c_5
            refine Run.blk (gs := [True]) (S' := ([some (.ref 0), some (.int (nI q)), some (.int ((64 : Int32) - (nI q))), some (.int (nI (sPt t z)))], [.int (-3 : Int32)], Ac fp le lp lb il (sbf t) (nI z) (sbf b) rf (nI f) (nI (cntM rf 0 64)) sc ifp ib ie pw dh rl rb re sy sb rc sg ex)) k_L_stack_60 kc_L_stack_60 rfl ⟨trivial, trivial⟩ ?_
            exact Run.ret (r := some (.int (-3 : Int32))) ⟨d_L_stack_62, _, rfl, rfl⟩ ⟨rfl, rfl⟩
        · rw [pk_sub (by omega), nI_leI (by omega) (by omega)] at c_4
          refine Run.blk (gs := [True]) (S' := ([some (.ref 0), some (.int (nI q)), some (.int ((64 : Int32) - (nI q))), none], [.int (-3 : Int32)], Ac fp le lp lb il (sbf t) (nI z) (sbf b) rf (nI f) (nI (cntM rf 0 64)) sc ifp ib ie pw dh rl rb re sy sb rc sg ex)) k_L_stack_43 kc_L_stack_43 rfl ⟨trivial, trivial⟩ ?_
          exact Run.ret (r := some (.int (-3 : Int32))) ⟨d_L_stack_45, _, rfl, rfl⟩ ⟨rfl, rfl⟩
    · rw [show (16 : Int32) = nI 16 from rfl, nI_leI (by omega) (by decide)] at c_2
      exact absurd hq.2 c_2
set_option maxRecDepth 100000 in
set_option maxHeartbeats 4000000 in
theorem c_L_stack_C (ht : ∀ j, t j < 256) (hz : z ≤ 900) {f q : Nat} (hf : f ≤ 64) (hm : cntM rf 0 64 ≤ f) (hq : 1 ≤ q ∧ q ≤ 16) {x : Int32} (hx : x = nI q) (hfree : ∀ j, 64 - q ≤ j → j < 64 → rf j = -1) (hg : (anyM rf (64 - q) (64 - (64 - q)) = false ∧ q ≤ f - cntM rf 0 64 ∧ 256 * (64 - q) ≤ sPt t z)) : Ct m_L_stack 0 0 [.ref 0, .int x] (Ac fp le lp lb il (sbf t) (nI z) (sbf b) rf (nI f) (nI (cntM rf 0 64)) sc ifp ib ie pw dh rl rb re sy sb rc sg ex) (vm_is (some (.int (nI (sPt t z)))) (Ac fp le lp lb il (sbf t) (nI 0) (sbf (stB t (16384 - sAB t z) z 0 (sPt t z + 4) true (u4 (fillN b (256 * (64 - q)) (256 * (64 - (64 - q))) 0) (sPt t z) (nI (sAC t z))))) (fillI rf (64 - q) (64 - (64 - q)) 6) (nI f) (nI (cntM rf 0 64) + nI (64 - (64 - q))) sc ifp ib ie pw dh rl rb re sy sb rc sg ex)) := by
  subst hx
  refine Ct.of ⟨by decide +kernel, rfl⟩ (Nat.le_of_ble_eq_true rfl) (lv := [some (.ref 0), some (.int (nI q)), none, none]) rfl ?_
  refine Run.blk (gs := [True, True]) (S' := ([some (.ref 0), some (.int (nI q)), none, none], [.int (1 : Int32), .int (nI q)], Ac fp le lp lb il (sbf t) (nI z) (sbf b) rf (nI f) (nI (cntM rf 0 64)) sc ifp ib ie pw dh rl rb re sy sb rc sg ex)) k_L_stack_0 kc_L_stack_0 rfl ⟨trivial, trivial, trivial⟩ ?_
  refine Run.br (tgt := 11) d_L_stack_2 rfl (by decide) (fun c_1 => ?_) (fun c_1 => ?_)
  · rw [show (1 : Int32) = nI 1 from rfl, nI_ltI (by omega) (by decide)] at c_1
    exact absurd c_1 (by omega)
  · rw [show (1 : Int32) = nI 1 from rfl, nI_ltI (by omega) (by decide)] at c_1
    refine Run.blk (gs := [True, True]) (S' := ([some (.ref 0), some (.int (nI q)), none, none], [.int (16 : Int32), .int (nI q)], Ac fp le lp lb il (sbf t) (nI z) (sbf b) rf (nI f) (nI (cntM rf 0 64)) sc ifp ib ie pw dh rl rb re sy sb rc sg ex)) k_L_stack_5 kc_L_stack_5 rfl ⟨trivial, trivial, trivial⟩ ?_
    refine Run.br (tgt := 14) d_L_stack_8 rfl (by decide) (fun c_2 => ?_) (fun c_2 => ?_)
    · rw [show (16 : Int32) = nI 16 from rfl, nI_leI (by omega) (by decide)] at c_2
      refine Run.blk (gs := [True, True, True, True, True, True, True, True]) (S' := ([some (.ref 0), some (.int (nI q)), some (.int ((64 : Int32) - (nI q))), none], [.int (63 : Int32), .int ((64 : Int32) - (nI q)), .ref 3], Ac fp le lp lb il (sbf t) (nI z) (sbf b) rf (nI f) (nI (cntM rf 0 64)) sc ifp ib ie pw dh rl rb re sy sb rc sg ex)) k_L_stack_14 kc_L_stack_14 rfl ⟨trivial, trivial, trivial, trivial, trivial, trivial, trivial, trivial, trivial⟩ ?_
      refine Run.callV (b := 3) (As := [.int ((64 : Int32) - (nI q)), .int (63 : Int32)]) (rest := []) v_L_stack_26 (c_P_anyMapped (a := 64 - q) (c := 64) (pk_sub (a := 64) (by omega)) ti63 (by decide) (by omega)) rfl (Nat.le_of_ble_eq_true rfl) rfl rfl rfl rfl (fun r cs' hp => ?_)
      obtain ⟨rfl, rfl⟩ := hp
      show Run _ _ _ _ 29 ([some (.ref 0), some (.int (nI q)), some (.int ((64 : Int32) - (nI q))), none], [.int (if anyM rf (64 - q) (64 - (64 - q)) = true then 1 else 0)], Ac fp le lp lb il (sbf t) (nI z) (sbf b) rf (nI f) (nI (cntM rf 0 64)) sc ifp ib ie pw dh rl rb re sy sb rc sg ex) _
      refine Run.br (tgt := 43) d_L_stack_29 rfl (by decide) (fun c_3 => ?_) (fun c_3 => ?_)
      · have c_3 := zi_t c_3
        exact absurd (c_3.symm.trans hg.1) (by decide)
      · have c_3 := zi_f (Classical.not_not.mp c_3)
        refine Run.blk (gs := [True, True, True]) (S' := ([some (.ref 0), some (.int (nI q)), some (.int ((64 : Int32) - (nI q))), none], [.ref 3, .int (nI q)], Ac fp le lp lb il (sbf t) (nI z) (sbf b) rf (nI f) (nI (cntM rf 0 64)) sc ifp ib ie pw dh rl rb re sy sb rc sg ex)) k_L_stack_32 kc_L_stack_32 rfl ⟨trivial, trivial, trivial, trivial⟩ ?_
        refine Run.callV (b := 3) (As := []) (rest := [.int (nI q)]) v_L_stack_37 c_P_freeFrames rfl (Nat.le_of_ble_eq_true rfl) rfl rfl rfl rfl (fun r cs' hp => ?_)
        obtain ⟨rfl, rfl⟩ := hp
        show Run _ _ _ _ 40 ([some (.ref 0), some (.int (nI q)), some (.int ((64 : Int32) - (nI q))), none], [.int ((nI f) - (nI (cntM rf 0 64))), .int (nI q)], Ac fp le lp lb il (sbf t) (nI z) (sbf b) rf (nI f) (nI (cntM rf 0 64)) sc ifp ib ie pw dh rl rb re sy sb rc sg ex) _
        refine Run.br (tgt := 46) d_L_stack_40 rfl (by decide) (fun c_4 => ?_) (fun c_4 => ?_)
        · rw [pk_sub (by omega), nI_leI (by omega) (by omega)] at c_4
          refine Run.blk (gs := [True]) (S' := ([some (.ref 0), some (.int (nI q)), some (.int ((64 : Int32) - (nI q))), none], [.ref 0], Ac fp le lp lb il (sbf t) (nI z) (sbf b) rf (nI f) (nI (cntM rf 0 64)) sc ifp ib ie pw dh rl rb re sy sb rc sg ex)) k_L_stack_46 kc_L_stack_46 rfl ⟨trivial, trivial⟩ ?_
          refine Run.callV (b := 0) (As := []) (rest := []) v_L_stack_47 (c_L_stackPointer ht hz) rfl (Nat.le_of_ble_eq_true rfl) rfl rfl rfl rfl (fun r cs' hp => ?_)
          obtain ⟨rfl, rfl⟩ := hp
          show Run _ _ _ _ 50 ([some (.ref 0), some (.int (nI q)), some (.int ((64 : Int32) - (nI q))), none], [.int (nI (sPt t z))], Ac fp le lp lb il (sbf t) (nI z) (sbf b) rf (nI f) (nI (cntM rf 0 64)) sc ifp ib ie pw dh rl rb re sy sb rc sg ex) _
          refine Run.blk (gs := [True, True, True, True, True]) (S' := ([some (.ref 0), some (.int (nI q)), some (.int ((64 : Int32) - (nI q))), some (.int (nI (sPt t z)))], [.int (((64 : Int32) - (nI q)) * (256 : Int32)), .int (nI (sPt t z))], Ac fp le lp lb il (sbf t) (nI z) (sbf b) rf (nI f) (nI (cntM rf 0 64)) sc ifp ib ie pw dh rl rb re sy sb rc sg ex)) k_L_stack_50 kc_L_stack_50 rfl ⟨trivial, trivial, trivial, trivial, trivial, trivial⟩ ?_
          refine Run.br (tgt := 63) d_L_stack_57 rfl (by decide) (fun c_5 => ?_) (fun c_5 => ?_)
          · rw [show (64 : Int32) = nI 64 from rfl, show (256 : Int32) = nI 256 from rfl, pk_sub (by omega), pk_mul, nI_leI (by omega) (by have := @sPt_lt t z; omega)] at c_5
            refine Run.blk (gs := [True, True, True, True, True]) (S' := ([some (.ref 0), some (.int (nI q)), some (.int ((64 : Int32) - (nI q))), some (.int (nI (sPt t z)))], [.int (6 : Int32), .int (63 : Int32), .int ((64 : Int32) - (nI q)), .ref 3], Ac fp le lp lb il (sbf t) (nI z) (sbf b) rf (nI f) (nI (cntM rf 0 64)) sc ifp ib ie pw dh rl rb re sy sb rc sg ex)) k_L_stack_63 kc_L_stack_63 rfl ⟨trivial, trivial, trivial, trivial, trivial, trivial⟩ ?_
            refine Run.callV (b := 3) (As := [.int ((64 : Int32) - (nI q)), .int (63 : Int32), .int (6 : Int32)]) (rest := []) v_L_stack_72 (c_P_mapAll (a := 64 - q) (c := 64) (pk_sub (a := 64) (by omega)) ti63 (by decide) (by omega) hfree) rfl (Nat.le_of_ble_eq_true rfl) rfl rfl rfl rfl (fun r cs' hp => ?_)
            obtain ⟨rfl, rfl⟩ := hp
            show Run _ _ _ _ 75 ([some (.ref 0), some (.int (nI q)), some (.int ((64 : Int32) - (nI q))), some (.int (nI (sPt t z)))], [], Ac fp le lp lb il (sbf t) (nI z) (sbf (fillN b (256 * (64 - q)) (256 * (64 - (64 - q))) 0)) (fillI rf (64 - q) (64 - (64 - q)) 6) (nI f) (nI (cntM rf 0 64) + nI (64 - (64 - q))) sc ifp ib ie pw dh rl rb re sy sb rc sg ex) _
            refine Run.blk (gs := [True, True]) (S' := ([some (.ref 0), some (.int (nI q)), some (.int ((64 : Int32) - (nI q))), some (.int (nI (sPt t z)))], [.int (nI (sPt t z)), .ref 0], Ac fp le lp lb il (sbf t) (nI z) (sbf (fillN b (256 * (64 - q)) (256 * (64 - (64 - q))) 0)) (fillI rf (64 - q) (64 - (64 - q)) 6) (nI f) (nI (cntM rf 0 64) + nI (64 - (64 - q))) sc ifp ib ie pw dh rl rb re sy sb rc sg ex)) k_L_stack_75 kc_L_stack_75 rfl ⟨trivial, trivial, trivial⟩ ?_
            refine Run.callV (b := 0) (As := [.int (nI (sPt t z))]) (rest := []) v_L_stack_77 (c_L_layArguments ht hz (sPt_b hz) rfl) rfl (Nat.le_of_ble_eq_true rfl) rfl rfl rfl rfl (fun r cs' hp => ?_)
            obtain ⟨rfl, rfl⟩ := hp
            show Run _ _ _ _ 80 ([some (.ref 0), some (.int (nI q)), some (.int ((64 : Int32) - (nI q))), some (.int (nI (sPt t z)))], [], Ac fp le lp lb il (sbf t) (nI z) (sbf (stB t (16384 - sAB t z) z 0 (sPt t z + 4) true (u4 (fillN b (256 * (64 - q)) (256 * (64 - (64 - q))) 0) (sPt t z) (nI (sAC t z))))) (fillI rf (64 - q) (64 - (64 - q)) 6) (nI f) (nI (cntM rf 0 64) + nI (64 - (64 - q))) sc ifp ib ie pw dh rl rb re sy sb rc sg ex) _
            refine Run.blk (gs := [True, True, True]) (S' := ([some (.ref 0), some (.int (nI q)), some (.int ((64 : Int32) - (nI q))), some (.int (nI (sPt t z)))], [.int (0 : Int32), .ref 1], Ac fp le lp lb il (sbf t) (nI z) (sbf (stB t (16384 - sAB t z) z 0 (sPt t z + 4) true (u4 (fillN b (256 * (64 - q)) (256 * (64 - (64 - q))) 0) (sPt t z) (nI (sAC t z))))) (fillI rf (64 - q) (64 - (64 - q)) 6) (nI f) (nI (cntM rf 0 64) + nI (64 - (64 - q))) sc ifp ib ie pw dh rl rb re sy sb rc sg ex)) k_L_stack_80 kc_L_stack_80 rfl ⟨trivial, trivial, trivial, trivial⟩ ?_
            refine Run.callV (b := 1) (As := [.int (0 : Int32)]) (rest := []) v_L_stack_85 (c_T_shorten hz (Nat.zero_le z) rfl) rfl (Nat.le_of_ble_eq_true rfl) rfl rfl rfl rfl (fun r cs' hp => ?_)
            obtain ⟨rfl, rfl⟩ := hp
            show Run _ _ _ _ 88 ([some (.ref 0), some (.int (nI q)), some (.int ((64 : Int32) - (nI q))), some (.int (nI (sPt t z)))], [], Ac fp le lp lb il (sbf t) (nI 0) (sbf (stB t (16384 - sAB t z) z 0 (sPt t z + 4) true (u4 (fillN b (256 * (64 - q)) (256 * (64 - (64 - q))) 0) (sPt t z) (nI (sAC t z))))) (fillI rf (64 - q) (64 - (64 - q)) 6) (nI f) (nI (cntM rf 0 64) + nI (64 - (64 - q))) sc ifp ib ie pw dh rl rb re sy sb rc sg ex) _
            refine Run.blk (gs := [True]) (S' := ([some (.ref 0), some (.int (nI q)), some (.int ((64 : Int32) - (nI q))), some (.int (nI (sPt t z)))], [.int (nI (sPt t z))], Ac fp le lp lb il (sbf t) (nI 0) (sbf (stB t (16384 - sAB t z) z 0 (sPt t z + 4) true (u4 (fillN b (256 * (64 - q)) (256 * (64 - (64 - q))) 0) (sPt t z) (nI (sAC t z))))) (fillI rf (64 - q) (64 - (64 - q)) 6) (nI f) (nI (cntM rf 0 64) + nI (64 - (64 - q))) sc ifp ib ie pw dh rl rb re sy sb rc sg ex)) k_L_stack_88 kc_L_stack_88 rfl ⟨trivial, trivial⟩ ?_
            exact Run.ret (r := some (.int (nI (sPt t z)))) ⟨d_L_stack_89, _, rfl, rfl⟩ ⟨rfl, rfl⟩
          · rw [show (64 : Int32) = nI 64 from rfl, show (256 : Int32) = nI 256 from rfl, pk_sub (by omega), pk_mul, nI_leI (by omega) (by have := @sPt_lt t z; omega)] at c_5
            exact absurd (by have := hg.2.2; omega) c_5
        · rw [pk_sub (by omega), nI_leI (by omega) (by omega)] at c_4
          exact absurd hg.2.1 c_4
    · rw [show (16 : Int32) = nI 16 from rfl, nI_leI (by omega) (by decide)] at c_2
      exact absurd hq.2 c_2
end P50
