section P21
variable {fp le lp lb il : Int32} {tf bf rf : Nat → Int32} {tz fr mp sc ifp ib ie pw dh rc : Int32} {rl rb re sy sb : Int64} {sg : Nat → A_G} {ex : List va_E}
variable {mth mfr msz msn mwn mba mdy mfa mpl men mpg mct mim : Int32} {mtf mmp mrg mme mfo mfi mmy mwa : Nat → Int32} {mbg mhd mkn : Nat → Int64} {rfc : Nat → Int32}
variable {t b : Nat → Nat} {z n : Nat}
def nif (t : Nat → Nat) : Nat → Int32 := fun j => nI (t j)
theorem upd_nif (t : Nat → Nat) (k v : Nat) : upd (nif t) k (nI v) = nif (upN t k v) := by
  funext j
  unfold upd nif upN
  by_cases h : j = k
  · rw [if_pos h, if_pos h]
  · rw [if_neg h, if_neg h]
def Rm (rf mp rg : Nat → Int32) : Prop := ∀ j, j < 64 → (rf j = -1 ∧ mp j = 0) ∨ (¬ rf j = -1 ∧ mp j = 1 ∧ rg j = rf j)
theorem Rm.m0 {rf mp rg : Nat → Int32} (h : Rm rf mp rg) {j : Nat} (hj : j < 64) : mp j = 0 ↔ rf j = -1 := by
  rcases h j hj with ⟨h1, h2⟩ | ⟨h1, h2, h3⟩
  · exact ⟨fun _ => h1, fun _ => h2⟩
  · exact ⟨fun q => absurd (h2.symm.trans q) (by decide), fun q => absurd q h1⟩
theorem Rm.r {rf mp rg : Nat → Int32} (h : Rm rf mp rg) {j : Nat} (hj : j < 64) (hr : ¬ rf j = -1) : rg j = rf j := by
  rcases h j hj with ⟨h1, h2⟩ | ⟨h1, h2, h3⟩
  · exact absurd h1 hr
  · exact h3
theorem and255 (x : Int32) : x &&& 255 = nI (x.toBitVec.toNat % 256) := pk_and x (m := 255) 8 (by decide)
theorem and255l (x : Int64) : x &&& 255 = lN (x.toBitVec.toNat % 256) := by
  obtain ⟨m, hm, rfl⟩ := wb_of x
  rw [wb_tn hm]
  exact g_mask (s := 8) rfl (by decide) hm
theorem wsh (w : Int64) {v : Int32} {i : Nat} (hv : v = nI i) (hi : i < 8) : ((w >>> (((8 : Int32) * v).toInt64 &&& 63)) &&& 255).toInt32 = nI (wby w i) := by
  rw [hv, show (8 : Int32) * nI i = nI (8 * i) from pk_mul 8 i, wb_c _ (by omega), and255l, lN_i]
  congr 1
  unfold wby
  have e : (w >>> lN (8 * i)).toBitVec = w.toBitVec.sshiftRight (8 * i) := by
    rw [Int64.toBitVec_shiftRight, wb_tb, wb_sm _ (by omega)]
    show w.toBitVec.sshiftRight (BitVec.ofNat 64 (8 * i)).toNat = _
    rw [BitVec.toNat_ofNat, Nat.mod_eq_of_lt (by omega)]
  rw [e]
  apply Nat.eq_of_testBit_eq
  intro j
  rw [show (256 : Nat) = 2 ^ 8 from rfl, Nat.testBit_mod_two_pow, Nat.testBit_mod_two_pow, ← Nat.pow_mul, Nat.testBit_div_two_pow]
  by_cases hj : j < 8
  · have h1 : (w.toBitVec.sshiftRight (8 * i)).toNat.testBit j = (w.toBitVec.sshiftRight (8 * i)).getLsbD j := rfl
    have h2 : w.toBitVec.toNat.testBit (8 * i + j) = w.toBitVec.getLsbD (8 * i + j) := rfl
    rw [show j + 8 * i = 8 * i + j by omega, h1, h2, BitVec.getLsbD_sshiftRight]
    simp [show ¬ 64 ≤ j by omega, show 8 * i + j < 64 by omega]
  · simp [hj]
theorem vsh (v : Int32) {s : Int32} {i : Nat} (hs : s &&& 31 = nI (8 * i)) (hi : i < 4) : (v >>> (s &&& 31)) &&& 255 = nI (byt v i) := by
  rw [hs, and255]
  congr 1
  unfold byt
  have e : (v >>> nI (8 * i)).toBitVec = v.toBitVec.sshiftRight (8 * i) := by
    rw [Int32.toBitVec_shiftRight]
    have : (nI (8 * i)).toBitVec.smod 32 = BitVec.ofNat 32 (8 * i) := by
      have : ∀ k, k < 32 → (BitVec.ofNat 32 k).smod 32 = BitVec.ofNat 32 k := by decide +kernel
      exact this _ (by omega)
    rw [this]
    show v.toBitVec.sshiftRight (BitVec.ofNat 32 (8 * i)).toNat = _
    rw [BitVec.toNat_ofNat, Nat.mod_eq_of_lt (by omega)]
  rw [e]
  apply Nat.eq_of_testBit_eq
  intro j
  rw [show (256 : Nat) = 2 ^ 8 from rfl, Nat.testBit_mod_two_pow, Nat.testBit_mod_two_pow, ← Nat.pow_mul, Nat.testBit_div_two_pow]
  by_cases hj : j < 8
  · have h1 : (v.toBitVec.sshiftRight (8 * i)).toNat.testBit j = (v.toBitVec.sshiftRight (8 * i)).getLsbD j := rfl
    have h2 : v.toBitVec.toNat.testBit (8 * i + j) = v.toBitVec.getLsbD (8 * i + j) := rfl
    rw [show j + 8 * i = 8 * i + j by omega, h1, h2, BitVec.getLsbD_sshiftRight]
    simp [show ¬ 32 ≤ j by omega, show 8 * i + j < 32 by omega]
  · simp [hj]
theorem i32_in (x : Int32) (a c : Int32) {A C : Int} (ha : a.toInt = A) (hc : c.toInt = C) : (a.toInt ≤ x.toInt ∧ x.toInt ≤ c.toInt) ↔ (A ≤ x.toInt ∧ x.toInt ≤ C) := by rw [ha, hc]
set_option maxRecDepth 100000 in
set_option maxHeartbeats 4000000 in
theorem c_M_add_A (w : Int64) {x : Int32} (hx : ¬ (1 ≤ x.toInt ∧ x.toInt ≤ 8)) : Ct m_M_add 0 0 [.ref 16, .long w, .int x] (Ac fp le lp lb il tf tz bf rfc fr mp sc ifp ib ie pw dh rl rb re sy sb rc sg (Bc mth mfr (nI z) mtf mmp mrg mme msn mbg mhd mfo mfi mmy mwa mwn mba mdy mkn mfa mpl men mpg mct mim)) (vm_is (some (.int (-2 : Int32))) (Ac fp le lp lb il tf tz bf rfc fr mp sc ifp ib ie pw dh rl rb re sy sb rc sg (Bc (0 : Int32) mfr (nI z) mtf mmp mrg mme msn mbg mhd mfo mfi mmy mwa mwn mba mdy mkn mfa mpl men mpg mct mim))) := by
  refine Ct.of ⟨by decide +kernel, rfl⟩ (Nat.le_of_ble_eq_true rfl) (lv := [some (.ref 16), some (.long w), none, some (.int x), none]) rfl ?_
  refine Run.blk (gs := [True, True, True, True, True, True]) (S' := ([some (.ref 16), some (.long w), none, some (.int x), none], [.int (8 : Int32), .int (1 : Int32), .int x], Ac fp le lp lb il tf tz bf rfc fr mp sc ifp ib ie pw dh rl rb re sy sb rc sg (Bc (0 : Int32) mfr (nI z) mtf mmp mrg mme msn mbg mhd mfo mfi mmy mwa mwn mba mdy mkn mfa mpl men mpg mct mim))) k_M_add_0 kc_M_add_0 rfl ⟨trivial, trivial, trivial, trivial, trivial, trivial, trivial⟩ ?_
  refine Run.callS (As := [.int x, .int (1 : Int32), .int (8 : Int32)]) (rest := []) v_M_add_9 (c_M_in x (1 : Int32) (8 : Int32)) rfl (Nat.le_of_ble_eq_true rfl) rfl (fun r cs' hp => ?_)
  obtain ⟨rfl, rfl⟩ := hp
  show Run _ _ _ _ 12 ([some (.ref 16), some (.long w), none, some (.int x), none], [.int (if (1 : Int32).toInt ≤ x.toInt ∧ x.toInt ≤ (8 : Int32).toInt then 1 else 0)], Ac fp le lp lb il tf tz bf rfc fr mp sc ifp ib ie pw dh rl rb re sy sb rc sg (Bc (0 : Int32) mfr (nI z) mtf mmp mrg mme msn mbg mhd mfo mfi mmy mwa mwn mba mdy mkn mfa mpl men mpg mct mim)) _
  refine Run.br (tgt := 18) d_M_add_12 rfl (by decide) (fun c_1 => ?_) (fun c_1 => ?_)
  · have c_1 := zi_t c_1
    exfalso; simp only [← Int32.toInt_inj, Int32.lt_iff_toInt_lt, Int32.le_iff_toInt_le, t0, t1, t2, t4, t64, ti7, ti8, ti900, tim1] at *; omega
  · have c_1 := zi_f (Classical.not_not.mp c_1)
    refine Run.blk (gs := [True]) (S' := ([some (.ref 16), some (.long w), none, some (.int x), none], [.int (-2 : Int32)], Ac fp le lp lb il tf tz bf rfc fr mp sc ifp ib ie pw dh rl rb re sy sb rc sg (Bc (0 : Int32) mfr (nI z) mtf mmp mrg mme msn mbg mhd mfo mfi mmy mwa mwn mba mdy mkn mfa mpl men mpg mct mim))) k_M_add_15 kc_M_add_15 rfl ⟨trivial, trivial⟩ ?_
    exact Run.ret (r := some (.int (-2 : Int32))) ⟨d_M_add_17, _, rfl, rfl⟩ ⟨rfl, rfl⟩
set_option maxRecDepth 100000 in
set_option maxHeartbeats 4000000 in
theorem c_M_add_B (w : Int64) {k : Nat} (hz : z ≤ 900) {x : Int32} (hx : x = nI k) (h1 : 1 ≤ k) (h2 : k ≤ 8) (h3 : 900 < z + k) : Ct m_M_add 0 0 [.ref 16, .long w, .int x] (Ac fp le lp lb il tf tz bf rfc fr mp sc ifp ib ie pw dh rl rb re sy sb rc sg (Bc mth mfr (nI z) mtf mmp mrg mme msn mbg mhd mfo mfi mmy mwa mwn mba mdy mkn mfa mpl men mpg mct mim)) (vm_is (some (.int (-3 : Int32))) (Ac fp le lp lb il tf tz bf rfc fr mp sc ifp ib ie pw dh rl rb re sy sb rc sg (Bc (0 : Int32) mfr (nI z) mtf mmp mrg mme msn mbg mhd mfo mfi mmy mwa mwn mba mdy mkn mfa mpl men mpg mct mim))) := by
  subst hx
  refine Ct.of ⟨by decide +kernel, rfl⟩ (Nat.le_of_ble_eq_true rfl) (lv := [some (.ref 16), some (.long w), none, some (.int (nI k)), none]) rfl ?_
  refine Run.blk (gs := [True, True, True, True, True, True]) (S' := ([some (.ref 16), some (.long w), none, some (.int (nI k)), none], [.int (8 : Int32), .int (1 : Int32), .int (nI k)], Ac fp le lp lb il tf tz bf rfc fr mp sc ifp ib ie pw dh rl rb re sy sb rc sg (Bc (0 : Int32) mfr (nI z) mtf mmp mrg mme msn mbg mhd mfo mfi mmy mwa mwn mba mdy mkn mfa mpl men mpg mct mim))) k_M_add_0 kc_M_add_0 rfl ⟨trivial, trivial, trivial, trivial, trivial, trivial, trivial⟩ ?_
  refine Run.callS (As := [.int (nI k), .int (1 : Int32), .int (8 : Int32)]) (rest := []) v_M_add_9 (c_M_in (nI k) (1 : Int32) (8 : Int32)) rfl (Nat.le_of_ble_eq_true rfl) rfl (fun r cs' hp => ?_)
  obtain ⟨rfl, rfl⟩ := hp
  show Run _ _ _ _ 12 ([some (.ref 16), some (.long w), none, some (.int (nI k)), none], [.int (if (1 : Int32).toInt ≤ (nI k).toInt ∧ (nI k).toInt ≤ (8 : Int32).toInt then 1 else 0)], Ac fp le lp lb il tf tz bf rfc fr mp sc ifp ib ie pw dh rl rb re sy sb rc sg (Bc (0 : Int32) mfr (nI z) mtf mmp mrg mme msn mbg mhd mfo mfi mmy mwa mwn mba mdy mkn mfa mpl men mpg mct mim)) _
  refine Run.br (tgt := 18) d_M_add_12 rfl (by decide) (fun c_1 => ?_) (fun c_1 => ?_)
  · have c_1 := zi_t c_1
    refine Run.blk (gs := [True, True, True, True, True]) (S' := ([some (.ref 16), some (.long w), none, some (.int (nI k)), none], [.int (900 : Int32), .int ((nI z) + (nI k))], Ac fp le lp lb il tf tz bf rfc fr mp sc ifp ib ie pw dh rl rb re sy sb rc sg (Bc (0 : Int32) mfr (nI z) mtf mmp mrg mme msn mbg mhd mfo mfi mmy mwa mwn mba mdy mkn mfa mpl men mpg mct mim))) k_M_add_18 kc_M_add_18 rfl ⟨trivial, trivial, trivial, trivial, trivial, trivial⟩ ?_
    refine Run.br (tgt := 33) d_M_add_27 rfl (by decide) (fun c_2 => ?_) (fun c_2 => ?_)
    · exfalso; simp only [← Int32.toInt_inj, Int32.lt_iff_toInt_lt, Int32.le_iff_toInt_le, t0, t1, t2, t4, t64, ti7, ti8, ti900, tim1, nI_add, nI_toInt (show z + k < 2 ^ 31 by omega), nI_toInt (show k < 2 ^ 31 by omega)] at *; omega
    · refine Run.blk (gs := [True]) (S' := ([some (.ref 16), some (.long w), none, some (.int (nI k)), none], [.int (-3 : Int32)], Ac fp le lp lb il tf tz bf rfc fr mp sc ifp ib ie pw dh rl rb re sy sb rc sg (Bc (0 : Int32) mfr (nI z) mtf mmp mrg mme msn mbg mhd mfo mfi mmy mwa mwn mba mdy mkn mfa mpl men mpg mct mim))) k_M_add_30 kc_M_add_30 rfl ⟨trivial, trivial⟩ ?_
      exact Run.ret (r := some (.int (-3 : Int32))) ⟨d_M_add_32, _, rfl, rfl⟩ ⟨rfl, rfl⟩
  · have c_1 := zi_f (Classical.not_not.mp c_1)
    exfalso; simp only [← Int32.toInt_inj, Int32.lt_iff_toInt_lt, Int32.le_iff_toInt_le, t0, t1, t2, t4, t64, ti7, ti8, ti900, tim1, nI_add, nI_toInt (show z + k < 2 ^ 31 by omega), nI_toInt (show k < 2 ^ 31 by omega)] at *; omega
set_option maxRecDepth 100000 in
set_option maxHeartbeats 4000000 in
theorem l_M_add {k : Nat} (w : Int64) (hk : k ≤ 8) (hzk : z + k ≤ 900) : ∀ (r i : Nat) (v : Int32) (tt : Nat → Nat) (zz : Nat), v = nI i → tt = apW t z w i → zz = z + i → i + r = k → Run m_M_add n 0 0 36 ([some (.ref 16), some (.long w), none, some (.int (nI k)), some (.int v)], [], Ac fp le lp lb il tf tz bf rfc fr mp sc ifp ib ie pw dh rl rb re sy sb rc sg (Bc (0 : Int32) mfr (nI zz) (nif tt) mmp mrg mme msn mbg mhd mfo mfi mmy mwa mwn mba mdy mkn mfa mpl men mpg mct mim)) (vm_is (some (.int (nI (z + k)))) (Ac fp le lp lb il tf tz bf rfc fr mp sc ifp ib ie pw dh rl rb re sy sb rc sg (Bc (0 : Int32) mfr (nI (z + k)) (nif (apW t z w k)) mmp mrg mme msn mbg mhd mfo mfi mmy mwa mwn mba mdy mkn mfa mpl men mpg mct mim)))
  | 0, i, v, tt, zz, hv, htt, hzz, h => by
    have hik : i = k := by omega
    refine Run.blk (gs := [True, True]) (S' := ([some (.ref 16), some (.long w), none, some (.int (nI k)), some (.int v)], [.int (nI k), .int v], Ac fp le lp lb il tf tz bf rfc fr mp sc ifp ib ie pw dh rl rb re sy sb rc sg (Bc (0 : Int32) mfr (nI zz) (nif tt) mmp mrg mme msn mbg mhd mfo mfi mmy mwa mwn mba mdy mkn mfa mpl men mpg mct mim))) k_M_add_36 kc_M_add_36 rfl ⟨trivial, trivial, trivial⟩ ?_
    refine Run.br (tgt := 79) d_M_add_39 rfl (by decide) (fun c_1 => ?_) (fun c_1 => ?_)
    · refine Run.blk (gs := [True, True]) (S' := ([some (.ref 16), some (.long w), none, some (.int (nI k)), some (.int v)], [.int (nI zz)], Ac fp le lp lb il tf tz bf rfc fr mp sc ifp ib ie pw dh rl rb re sy sb rc sg (Bc (0 : Int32) mfr (nI zz) (nif tt) mmp mrg mme msn mbg mhd mfo mfi mmy mwa mwn mba mdy mkn mfa mpl men mpg mct mim))) k_M_add_79 kc_M_add_79 rfl ⟨trivial, trivial, trivial⟩ ?_
      exact Run.ret (r := some (.int (nI zz))) ⟨d_M_add_83, _, rfl, rfl⟩ ⟨by rw [hzz, hik], by rw [htt, hzz, hik]⟩
    · exact absurd (by rw [hv, hik]; exact Int32.le_refl _) c_1
  | r + 1, i, v, tt, zz, hv, htt, hzz, h => by
    refine Run.blk (gs := [True, True]) (S' := ([some (.ref 16), some (.long w), none, some (.int (nI k)), some (.int v)], [.int (nI k), .int v], Ac fp le lp lb il tf tz bf rfc fr mp sc ifp ib ie pw dh rl rb re sy sb rc sg (Bc (0 : Int32) mfr (nI zz) (nif tt) mmp mrg mme msn mbg mhd mfo mfi mmy mwa mwn mba mdy mkn mfa mpl men mpg mct mim))) k_M_add_36 kc_M_add_36 rfl ⟨trivial, trivial, trivial⟩ ?_
    refine Run.br (tgt := 79) d_M_add_39 rfl (by decide) (fun c_1 => ?_) (fun c_1 => ?_)
    · exact absurd c_1 (by rw [hv]; exact nI_ge (show i < k by omega) (by omega))
    · refine Run.blk (gs := [True, True, True, True, True, True, True, True, True, True, True, True, vp_in (nI zz) 900, True, True, True, True, True, True, True]) (S' := ([some (.ref 16), some (.long w), none, some (.int (nI k)), some (.int (v + (1 : Int32)))], [], Ac fp le lp lb il tf tz bf rfc fr mp sc ifp ib ie pw dh rl rb re sy sb rc sg (Bc (0 : Int32) mfr ((nI zz) + (1 : Int32)) (upd (nif tt) (nI zz).toNatClampNeg (((w >>> (((8 : Int32) * v).toInt64 &&& 63)) &&& (255 : Int64)).toInt32)) mmp mrg mme msn mbg mhd mfo mfi mmy mwa mwn mba mdy mkn mfa mpl men mpg mct mim))) k_M_add_42 kc_M_add_42 rfl ⟨trivial, trivial, trivial, trivial, trivial, trivial, trivial, trivial, trivial, trivial, trivial, trivial, (vp_in_nI (show zz < 900 by omega) (by decide)), trivial, trivial, trivial, trivial, trivial, trivial, trivial, trivial⟩ ?_
      refine Run.goto (tgt := 36) d_M_add_76 (by decide) ?_
      rw [nI_clamp (by omega), wsh w hv (by omega), upd_nif, nI_1]
      exact l_M_add w hk hzk r (i + 1) _ _ _ (by rw [hv, nI_1]) (by rw [htt, hzz]; rfl) (by omega) (by omega)
set_option maxRecDepth 100000 in
set_option maxHeartbeats 4000000 in
theorem c_M_add_C (w : Int64) {k : Nat} {x : Int32} (hx : x = nI k) (h1 : 1 ≤ k) (h2 : k ≤ 8) (h3 : z + k ≤ 900) : Ct m_M_add 0 0 [.ref 16, .long w, .int x] (Ac fp le lp lb il tf tz bf rfc fr mp sc ifp ib ie pw dh rl rb re sy sb rc sg (Bc mth mfr (nI z) (nif t) mmp mrg mme msn mbg mhd mfo mfi mmy mwa mwn mba mdy mkn mfa mpl men mpg mct mim)) (vm_is (some (.int (nI (z + k)))) (Ac fp le lp lb il tf tz bf rfc fr mp sc ifp ib ie pw dh rl rb re sy sb rc sg (Bc (0 : Int32) mfr (nI (z + k)) (nif (apW t z w k)) mmp mrg mme msn mbg mhd mfo mfi mmy mwa mwn mba mdy mkn mfa mpl men mpg mct mim))) := by
  subst hx
  refine Ct.of ⟨by decide +kernel, rfl⟩ (Nat.le_of_ble_eq_true rfl) (lv := [some (.ref 16), some (.long w), none, some (.int (nI k)), none]) rfl ?_
  refine Run.blk (gs := [True, True, True, True, True, True]) (S' := ([some (.ref 16), some (.long w), none, some (.int (nI k)), none], [.int (8 : Int32), .int (1 : Int32), .int (nI k)], Ac fp le lp lb il tf tz bf rfc fr mp sc ifp ib ie pw dh rl rb re sy sb rc sg (Bc (0 : Int32) mfr (nI z) (nif t) mmp mrg mme msn mbg mhd mfo mfi mmy mwa mwn mba mdy mkn mfa mpl men mpg mct mim))) k_M_add_0 kc_M_add_0 rfl ⟨trivial, trivial, trivial, trivial, trivial, trivial, trivial⟩ ?_
  refine Run.callS (As := [.int (nI k), .int (1 : Int32), .int (8 : Int32)]) (rest := []) v_M_add_9 (c_M_in (nI k) (1 : Int32) (8 : Int32)) rfl (Nat.le_of_ble_eq_true rfl) rfl (fun r cs' hp => ?_)
  obtain ⟨rfl, rfl⟩ := hp
  show Run _ _ _ _ 12 ([some (.ref 16), some (.long w), none, some (.int (nI k)), none], [.int (if (1 : Int32).toInt ≤ (nI k).toInt ∧ (nI k).toInt ≤ (8 : Int32).toInt then 1 else 0)], Ac fp le lp lb il tf tz bf rfc fr mp sc ifp ib ie pw dh rl rb re sy sb rc sg (Bc (0 : Int32) mfr (nI z) (nif t) mmp mrg mme msn mbg mhd mfo mfi mmy mwa mwn mba mdy mkn mfa mpl men mpg mct mim)) _
  refine Run.br (tgt := 18) d_M_add_12 rfl (by decide) (fun c_1 => ?_) (fun c_1 => ?_)
  · have c_1 := zi_t c_1
    refine Run.blk (gs := [True, True, True, True, True]) (S' := ([some (.ref 16), some (.long w), none, some (.int (nI k)), none], [.int (900 : Int32), .int ((nI z) + (nI k))], Ac fp le lp lb il tf tz bf rfc fr mp sc ifp ib ie pw dh rl rb re sy sb rc sg (Bc (0 : Int32) mfr (nI z) (nif t) mmp mrg mme msn mbg mhd mfo mfi mmy mwa mwn mba mdy mkn mfa mpl men mpg mct mim))) k_M_add_18 kc_M_add_18 rfl ⟨trivial, trivial, trivial, trivial, trivial, trivial⟩ ?_
    refine Run.br (tgt := 33) d_M_add_27 rfl (by decide) (fun c_2 => ?_) (fun c_2 => ?_)
    · refine Run.blk (gs := [True, True]) (S' := ([some (.ref 16), some (.long w), none, some (.int (nI k)), some (.int (0 : Int32))], [], Ac fp le lp lb il tf tz bf rfc fr mp sc ifp ib ie pw dh rl rb re sy sb rc sg (Bc (0 : Int32) mfr (nI z) (nif t) mmp mrg mme msn mbg mhd mfo mfi mmy mwa mwn mba mdy mkn mfa mpl men mpg mct mim))) k_M_add_33 kc_M_add_33 rfl ⟨trivial, trivial, trivial⟩ ?_
      exact l_M_add w h2 h3 k 0 _ _ _ rfl rfl rfl (by omega)
    · exfalso; simp only [← Int32.toInt_inj, Int32.lt_iff_toInt_lt, Int32.le_iff_toInt_le, t0, t1, t2, t4, t64, ti7, ti8, ti900, tim1, nI_add, nI_toInt (show z + k < 2 ^ 31 by omega), nI_toInt (show k < 2 ^ 31 by omega)] at *; omega
  · have c_1 := zi_f (Classical.not_not.mp c_1)
    exfalso; simp only [← Int32.toInt_inj, Int32.lt_iff_toInt_lt, Int32.le_iff_toInt_le, t0, t1, t2, t4, t64, ti7, ti8, ti900, tim1, nI_add, nI_toInt (show z + k < 2 ^ 31 by omega), nI_toInt (show k < 2 ^ 31 by omega)] at *; omega
set_option maxRecDepth 100000 in
set_option maxHeartbeats 4000000 in
theorem c_M_zeros_A {x : Int32} (hx : ¬ (1 ≤ x.toInt ∧ x.toInt ≤ 900)) : Ct m_M_zeros 0 0 [.ref 16, .int x] (Ac fp le lp lb il tf tz bf rfc fr mp sc ifp ib ie pw dh rl rb re sy sb rc sg (Bc mth mfr (nI z) mtf mmp mrg mme msn mbg mhd mfo mfi mmy mwa mwn mba mdy mkn mfa mpl men mpg mct mim)) (vm_is (some (.int (-2 : Int32))) (Ac fp le lp lb il tf tz bf rfc fr mp sc ifp ib ie pw dh rl rb re sy sb rc sg (Bc (0 : Int32) mfr (nI z) mtf mmp mrg mme msn mbg mhd mfo mfi mmy mwa mwn mba mdy mkn mfa mpl men mpg mct mim))) := by
  refine Ct.of ⟨by decide +kernel, rfl⟩ (Nat.le_of_ble_eq_true rfl) (lv := [some (.ref 16), some (.int x), none]) rfl ?_
  refine Run.blk (gs := [True, True, True, True, True, True]) (S' := ([some (.ref 16), some (.int x), none], [.int (900 : Int32), .int (1 : Int32), .int x], Ac fp le lp lb il tf tz bf rfc fr mp sc ifp ib ie pw dh rl rb re sy sb rc sg (Bc (0 : Int32) mfr (nI z) mtf mmp mrg mme msn mbg mhd mfo mfi mmy mwa mwn mba mdy mkn mfa mpl men mpg mct mim))) k_M_zeros_0 kc_M_zeros_0 rfl ⟨trivial, trivial, trivial, trivial, trivial, trivial, trivial⟩ ?_
  refine Run.callS (As := [.int x, .int (1 : Int32), .int (900 : Int32)]) (rest := []) v_M_zeros_10 (c_M_in x (1 : Int32) (900 : Int32)) rfl (Nat.le_of_ble_eq_true rfl) rfl (fun r cs' hp => ?_)
  obtain ⟨rfl, rfl⟩ := hp
  show Run _ _ _ _ 13 ([some (.ref 16), some (.int x), none], [.int (if (1 : Int32).toInt ≤ x.toInt ∧ x.toInt ≤ (900 : Int32).toInt then 1 else 0)], Ac fp le lp lb il tf tz bf rfc fr mp sc ifp ib ie pw dh rl rb re sy sb rc sg (Bc (0 : Int32) mfr (nI z) mtf mmp mrg mme msn mbg mhd mfo mfi mmy mwa mwn mba mdy mkn mfa mpl men mpg mct mim)) _
  refine Run.br (tgt := 19) d_M_zeros_13 rfl (by decide) (fun c_1 => ?_) (fun c_1 => ?_)
  · have c_1 := zi_t c_1
    exfalso; simp only [← Int32.toInt_inj, Int32.lt_iff_toInt_lt, Int32.le_iff_toInt_le, t0, t1, t2, t4, t64, ti7, ti8, ti900, tim1] at *; omega
  · have c_1 := zi_f (Classical.not_not.mp c_1)
    refine Run.blk (gs := [True]) (S' := ([some (.ref 16), some (.int x), none], [.int (-2 : Int32)], Ac fp le lp lb il tf tz bf rfc fr mp sc ifp ib ie pw dh rl rb re sy sb rc sg (Bc (0 : Int32) mfr (nI z) mtf mmp mrg mme msn mbg mhd mfo mfi mmy mwa mwn mba mdy mkn mfa mpl men mpg mct mim))) k_M_zeros_16 kc_M_zeros_16 rfl ⟨trivial, trivial⟩ ?_
    exact Run.ret (r := some (.int (-2 : Int32))) ⟨d_M_zeros_18, _, rfl, rfl⟩ ⟨rfl, rfl⟩
set_option maxRecDepth 100000 in
set_option maxHeartbeats 4000000 in
theorem c_M_zeros_B {k : Nat} (hz : z ≤ 900) {x : Int32} (hx : x = nI k) (h1 : 1 ≤ k) (h2 : k ≤ 900) (h3 : 900 < z + k) : Ct m_M_zeros 0 0 [.ref 16, .int x] (Ac fp le lp lb il tf tz bf rfc fr mp sc ifp ib ie pw dh rl rb re sy sb rc sg (Bc mth mfr (nI z) mtf mmp mrg mme msn mbg mhd mfo mfi mmy mwa mwn mba mdy mkn mfa mpl men mpg mct mim)) (vm_is (some (.int (-3 : Int32))) (Ac fp le lp lb il tf tz bf rfc fr mp sc ifp ib ie pw dh rl rb re sy sb rc sg (Bc (0 : Int32) mfr (nI z) mtf mmp mrg mme msn mbg mhd mfo mfi mmy mwa mwn mba mdy mkn mfa mpl men mpg mct mim))) := by
  subst hx
  refine Ct.of ⟨by decide +kernel, rfl⟩ (Nat.le_of_ble_eq_true rfl) (lv := [some (.ref 16), some (.int (nI k)), none]) rfl ?_
  refine Run.blk (gs := [True, True, True, True, True, True]) (S' := ([some (.ref 16), some (.int (nI k)), none], [.int (900 : Int32), .int (1 : Int32), .int (nI k)], Ac fp le lp lb il tf tz bf rfc fr mp sc ifp ib ie pw dh rl rb re sy sb rc sg (Bc (0 : Int32) mfr (nI z) mtf mmp mrg mme msn mbg mhd mfo mfi mmy mwa mwn mba mdy mkn mfa mpl men mpg mct mim))) k_M_zeros_0 kc_M_zeros_0 rfl ⟨trivial, trivial, trivial, trivial, trivial, trivial, trivial⟩ ?_
  refine Run.callS (As := [.int (nI k), .int (1 : Int32), .int (900 : Int32)]) (rest := []) v_M_zeros_10 (c_M_in (nI k) (1 : Int32) (900 : Int32)) rfl (Nat.le_of_ble_eq_true rfl) rfl (fun r cs' hp => ?_)
  obtain ⟨rfl, rfl⟩ := hp
  show Run _ _ _ _ 13 ([some (.ref 16), some (.int (nI k)), none], [.int (if (1 : Int32).toInt ≤ (nI k).toInt ∧ (nI k).toInt ≤ (900 : Int32).toInt then 1 else 0)], Ac fp le lp lb il tf tz bf rfc fr mp sc ifp ib ie pw dh rl rb re sy sb rc sg (Bc (0 : Int32) mfr (nI z) mtf mmp mrg mme msn mbg mhd mfo mfi mmy mwa mwn mba mdy mkn mfa mpl men mpg mct mim)) _
  refine Run.br (tgt := 19) d_M_zeros_13 rfl (by decide) (fun c_1 => ?_) (fun c_1 => ?_)
  · have c_1 := zi_t c_1
    refine Run.blk (gs := [True, True, True, True, True]) (S' := ([some (.ref 16), some (.int (nI k)), none], [.int (900 : Int32), .int ((nI z) + (nI k))], Ac fp le lp lb il tf tz bf rfc fr mp sc ifp ib ie pw dh rl rb re sy sb rc sg (Bc (0 : Int32) mfr (nI z) mtf mmp mrg mme msn mbg mhd mfo mfi mmy mwa mwn mba mdy mkn mfa mpl men mpg mct mim))) k_M_zeros_19 kc_M_zeros_19 rfl ⟨trivial, trivial, trivial, trivial, trivial, trivial⟩ ?_
    refine Run.br (tgt := 34) d_M_zeros_28 rfl (by decide) (fun c_2 => ?_) (fun c_2 => ?_)
    · exfalso; simp only [← Int32.toInt_inj, Int32.lt_iff_toInt_lt, Int32.le_iff_toInt_le, t0, t1, t2, t4, t64, ti7, ti8, ti900, tim1, nI_add, nI_toInt (show z + k < 2 ^ 31 by omega), nI_toInt (show k < 2 ^ 31 by omega)] at *; omega
    · refine Run.blk (gs := [True]) (S' := ([some (.ref 16), some (.int (nI k)), none], [.int (-3 : Int32)], Ac fp le lp lb il tf tz bf rfc fr mp sc ifp ib ie pw dh rl rb re sy sb rc sg (Bc (0 : Int32) mfr (nI z) mtf mmp mrg mme msn mbg mhd mfo mfi mmy mwa mwn mba mdy mkn mfa mpl men mpg mct mim))) k_M_zeros_31 kc_M_zeros_31 rfl ⟨trivial, trivial⟩ ?_
      exact Run.ret (r := some (.int (-3 : Int32))) ⟨d_M_zeros_33, _, rfl, rfl⟩ ⟨rfl, rfl⟩
  · have c_1 := zi_f (Classical.not_not.mp c_1)
    exfalso; simp only [← Int32.toInt_inj, Int32.lt_iff_toInt_lt, Int32.le_iff_toInt_le, t0, t1, t2, t4, t64, ti7, ti8, ti900, tim1, nI_add, nI_toInt (show z + k < 2 ^ 31 by omega), nI_toInt (show k < 2 ^ 31 by omega)] at *; omega
set_option maxRecDepth 100000 in
set_option maxHeartbeats 4000000 in
theorem l_M_zeros {k : Nat} (hk : k ≤ 900) (hzk : z + k ≤ 900) : ∀ (r i : Nat) (v : Int32) (tt : Nat → Nat) (zz : Nat), v = nI i → tt = fillN t z i 0 → zz = z + i → i + r = k → Run m_M_zeros n 0 0 36 ([some (.ref 16), some (.int (nI k)), some (.int v)], [], Ac fp le lp lb il tf tz bf rfc fr mp sc ifp ib ie pw dh rl rb re sy sb rc sg (Bc (0 : Int32) mfr (nI zz) (nif tt) mmp mrg mme msn mbg mhd mfo mfi mmy mwa mwn mba mdy mkn mfa mpl men mpg mct mim)) (vm_is (some (.int (nI (z + k)))) (Ac fp le lp lb il tf tz bf rfc fr mp sc ifp ib ie pw dh rl rb re sy sb rc sg (Bc (0 : Int32) mfr (nI (z + k)) (nif (fillN t z k 0)) mmp mrg mme msn mbg mhd mfo mfi mmy mwa mwn mba mdy mkn mfa mpl men mpg mct mim)))
  | 0, i, v, tt, zz, hv, htt, hzz, h => by
    have hik : i = k := by omega
    refine Run.blk (gs := [True, True]) (S' := ([some (.ref 16), some (.int (nI k)), some (.int v)], [.int (nI k), .int v], Ac fp le lp lb il tf tz bf rfc fr mp sc ifp ib ie pw dh rl rb re sy sb rc sg (Bc (0 : Int32) mfr (nI zz) (nif tt) mmp mrg mme msn mbg mhd mfo mfi mmy mwa mwn mba mdy mkn mfa mpl men mpg mct mim))) k_M_zeros_36 kc_M_zeros_36 rfl ⟨trivial, trivial, trivial⟩ ?_
    refine Run.br (tgt := 67) d_M_zeros_38 rfl (by decide) (fun c_1 => ?_) (fun c_1 => ?_)
    · refine Run.blk (gs := [True, True]) (S' := ([some (.ref 16), some (.int (nI k)), some (.int v)], [.int (nI zz)], Ac fp le lp lb il tf tz bf rfc fr mp sc ifp ib ie pw dh rl rb re sy sb rc sg (Bc (0 : Int32) mfr (nI zz) (nif tt) mmp mrg mme msn mbg mhd mfo mfi mmy mwa mwn mba mdy mkn mfa mpl men mpg mct mim))) k_M_zeros_67 kc_M_zeros_67 rfl ⟨trivial, trivial, trivial⟩ ?_
      exact Run.ret (r := some (.int (nI zz))) ⟨d_M_zeros_71, _, rfl, rfl⟩ ⟨by rw [hzz, hik], by rw [htt, hzz, hik]⟩
    · exact absurd (by rw [hv, hik]; exact Int32.le_refl _) c_1
  | r + 1, i, v, tt, zz, hv, htt, hzz, h => by
    refine Run.blk (gs := [True, True]) (S' := ([some (.ref 16), some (.int (nI k)), some (.int v)], [.int (nI k), .int v], Ac fp le lp lb il tf tz bf rfc fr mp sc ifp ib ie pw dh rl rb re sy sb rc sg (Bc (0 : Int32) mfr (nI zz) (nif tt) mmp mrg mme msn mbg mhd mfo mfi mmy mwa mwn mba mdy mkn mfa mpl men mpg mct mim))) k_M_zeros_36 kc_M_zeros_36 rfl ⟨trivial, trivial, trivial⟩ ?_
    refine Run.br (tgt := 67) d_M_zeros_38 rfl (by decide) (fun c_1 => ?_) (fun c_1 => ?_)
    · exact absurd c_1 (by rw [hv]; exact nI_ge (show i < k by omega) (by omega))
    · refine Run.blk (gs := [True, True, True, True, True, vp_in (nI zz) 900, True, True, True, True, True, True, True]) (S' := ([some (.ref 16), some (.int (nI k)), some (.int (v + (1 : Int32)))], [], Ac fp le lp lb il tf tz bf rfc fr mp sc ifp ib ie pw dh rl rb re sy sb rc sg (Bc (0 : Int32) mfr ((nI zz) + (1 : Int32)) (upd (nif tt) (nI zz).toNatClampNeg (0 : Int32)) mmp mrg mme msn mbg mhd mfo mfi mmy mwa mwn mba mdy mkn mfa mpl men mpg mct mim))) k_M_zeros_41 kc_M_zeros_41 rfl ⟨trivial, trivial, trivial, trivial, trivial, (vp_in_nI (show zz < 900 by omega) (by decide)), trivial, trivial, trivial, trivial, trivial, trivial, trivial, trivial⟩ ?_
      refine Run.goto (tgt := 36) d_M_zeros_64 (by decide) ?_
      rw [nI_clamp (by omega), show upd (nif tt) zz (0 : Int32) = nif (upN tt zz 0) from upd_nif tt zz 0, nI_1]
      exact l_M_zeros hk hzk r (i + 1) _ _ _ (by rw [hv, nI_1]) (by rw [htt, hzz, fillN_s]) (by omega) (by omega)
set_option maxRecDepth 100000 in
set_option maxHeartbeats 4000000 in
theorem c_M_zeros_C {k : Nat} {x : Int32} (hx : x = nI k) (h1 : 1 ≤ k) (h2 : k ≤ 900) (h3 : z + k ≤ 900) : Ct m_M_zeros 0 0 [.ref 16, .int x] (Ac fp le lp lb il tf tz bf rfc fr mp sc ifp ib ie pw dh rl rb re sy sb rc sg (Bc mth mfr (nI z) (nif t) mmp mrg mme msn mbg mhd mfo mfi mmy mwa mwn mba mdy mkn mfa mpl men mpg mct mim)) (vm_is (some (.int (nI (z + k)))) (Ac fp le lp lb il tf tz bf rfc fr mp sc ifp ib ie pw dh rl rb re sy sb rc sg (Bc (0 : Int32) mfr (nI (z + k)) (nif (fillN t z k 0)) mmp mrg mme msn mbg mhd mfo mfi mmy mwa mwn mba mdy mkn mfa mpl men mpg mct mim))) := by
  subst hx
  refine Ct.of ⟨by decide +kernel, rfl⟩ (Nat.le_of_ble_eq_true rfl) (lv := [some (.ref 16), some (.int (nI k)), none]) rfl ?_
  refine Run.blk (gs := [True, True, True, True, True, True]) (S' := ([some (.ref 16), some (.int (nI k)), none], [.int (900 : Int32), .int (1 : Int32), .int (nI k)], Ac fp le lp lb il tf tz bf rfc fr mp sc ifp ib ie pw dh rl rb re sy sb rc sg (Bc (0 : Int32) mfr (nI z) (nif t) mmp mrg mme msn mbg mhd mfo mfi mmy mwa mwn mba mdy mkn mfa mpl men mpg mct mim))) k_M_zeros_0 kc_M_zeros_0 rfl ⟨trivial, trivial, trivial, trivial, trivial, trivial, trivial⟩ ?_
  refine Run.callS (As := [.int (nI k), .int (1 : Int32), .int (900 : Int32)]) (rest := []) v_M_zeros_10 (c_M_in (nI k) (1 : Int32) (900 : Int32)) rfl (Nat.le_of_ble_eq_true rfl) rfl (fun r cs' hp => ?_)
  obtain ⟨rfl, rfl⟩ := hp
  show Run _ _ _ _ 13 ([some (.ref 16), some (.int (nI k)), none], [.int (if (1 : Int32).toInt ≤ (nI k).toInt ∧ (nI k).toInt ≤ (900 : Int32).toInt then 1 else 0)], Ac fp le lp lb il tf tz bf rfc fr mp sc ifp ib ie pw dh rl rb re sy sb rc sg (Bc (0 : Int32) mfr (nI z) (nif t) mmp mrg mme msn mbg mhd mfo mfi mmy mwa mwn mba mdy mkn mfa mpl men mpg mct mim)) _
  refine Run.br (tgt := 19) d_M_zeros_13 rfl (by decide) (fun c_1 => ?_) (fun c_1 => ?_)
  · have c_1 := zi_t c_1
    refine Run.blk (gs := [True, True, True, True, True]) (S' := ([some (.ref 16), some (.int (nI k)), none], [.int (900 : Int32), .int ((nI z) + (nI k))], Ac fp le lp lb il tf tz bf rfc fr mp sc ifp ib ie pw dh rl rb re sy sb rc sg (Bc (0 : Int32) mfr (nI z) (nif t) mmp mrg mme msn mbg mhd mfo mfi mmy mwa mwn mba mdy mkn mfa mpl men mpg mct mim))) k_M_zeros_19 kc_M_zeros_19 rfl ⟨trivial, trivial, trivial, trivial, trivial, trivial⟩ ?_
    refine Run.br (tgt := 34) d_M_zeros_28 rfl (by decide) (fun c_2 => ?_) (fun c_2 => ?_)
    · refine Run.blk (gs := [True, True]) (S' := ([some (.ref 16), some (.int (nI k)), some (.int (0 : Int32))], [], Ac fp le lp lb il tf tz bf rfc fr mp sc ifp ib ie pw dh rl rb re sy sb rc sg (Bc (0 : Int32) mfr (nI z) (nif t) mmp mrg mme msn mbg mhd mfo mfi mmy mwa mwn mba mdy mkn mfa mpl men mpg mct mim))) k_M_zeros_34 kc_M_zeros_34 rfl ⟨trivial, trivial, trivial⟩ ?_
      exact l_M_zeros h2 h3 k 0 _ _ _ rfl (fillN_0 _ _ _).symm rfl (by omega)
    · exfalso; simp only [← Int32.toInt_inj, Int32.lt_iff_toInt_lt, Int32.le_iff_toInt_le, t0, t1, t2, t4, t64, ti7, ti8, ti900, tim1, nI_add, nI_toInt (show z + k < 2 ^ 31 by omega), nI_toInt (show k < 2 ^ 31 by omega)] at *; omega
  · have c_1 := zi_f (Classical.not_not.mp c_1)
    exfalso; simp only [← Int32.toInt_inj, Int32.lt_iff_toInt_lt, Int32.le_iff_toInt_le, t0, t1, t2, t4, t64, ti7, ti8, ti900, tim1, nI_add, nI_toInt (show z + k < 2 ^ 31 by omega), nI_toInt (show k < 2 ^ 31 by omega)] at *; omega
theorem sz1 (hz : z ≤ 900) : (nI z - 1).toInt = (z : Int) - 1 := by
  rw [i32_sub (by rw [nI_toInt (by omega)]; omega) (by rw [nI_toInt (by omega)]; omega) (by decide) (by decide), nI_toInt (by omega), t1]
theorem szy (hz : z ≤ 900) {y : Int32} (h1 : -1000 ≤ y.toInt) (h2 : y.toInt ≤ 1000) : (nI z - y).toInt = (z : Int) - y.toInt := by
  rw [i32_sub (by rw [nI_toInt (by omega)]; omega) (by rw [nI_toInt (by omega)]; omega) (by omega) (by omega), nI_toInt (by omega)]
set_option maxRecDepth 100000 in
set_option maxHeartbeats 4000000 in
theorem c_M_peek_A (hz : z ≤ 900) {x : Int32} (hx : ¬ (0 ≤ x.toInt ∧ x.toInt < (z : Int))) : Ct m_M_peek 0 0 [.ref 16, .int x] (Ac fp le lp lb il tf tz bf rfc fr mp sc ifp ib ie pw dh rl rb re sy sb rc sg (Bc mth mfr (nI z) mtf mmp mrg mme msn mbg mhd mfo mfi mmy mwa mwn mba mdy mkn mfa mpl men mpg mct mim)) (vm_is (some (.int (-1 : Int32))) (Ac fp le lp lb il tf tz bf rfc fr mp sc ifp ib ie pw dh rl rb re sy sb rc sg (Bc (0 : Int32) mfr (nI z) mtf mmp mrg mme msn mbg mhd mfo mfi mmy mwa mwn mba mdy mkn mfa mpl men mpg mct mim))) := by
  refine Ct.of ⟨by decide +kernel, rfl⟩ (Nat.le_of_ble_eq_true rfl) (lv := [some (.ref 16), some (.int x)]) rfl ?_
  refine Run.blk (gs := [True, True, True, True, True, True, True, True, True]) (S' := ([some (.ref 16), some (.int x)], [.int ((nI z) - (1 : Int32)), .int (0 : Int32), .int x], Ac fp le lp lb il tf tz bf rfc fr mp sc ifp ib ie pw dh rl rb re sy sb rc sg (Bc (0 : Int32) mfr (nI z) mtf mmp mrg mme msn mbg mhd mfo mfi mmy mwa mwn mba mdy mkn mfa mpl men mpg mct mim))) k_M_peek_0 kc_M_peek_0 rfl ⟨trivial, trivial, trivial, trivial, trivial, trivial, trivial, trivial, trivial, trivial⟩ ?_
  refine Run.callS (As := [.int x, .int (0 : Int32), .int ((nI z) - (1 : Int32))]) (rest := []) v_M_peek_13 (c_M_in x (0 : Int32) ((nI z) - (1 : Int32))) rfl (Nat.le_of_ble_eq_true rfl) rfl (fun r cs' hp => ?_)
  obtain ⟨rfl, rfl⟩ := hp
  show Run _ _ _ _ 16 ([some (.ref 16), some (.int x)], [.int (if (0 : Int32).toInt ≤ x.toInt ∧ x.toInt ≤ ((nI z) - (1 : Int32)).toInt then 1 else 0)], Ac fp le lp lb il tf tz bf rfc fr mp sc ifp ib ie pw dh rl rb re sy sb rc sg (Bc (0 : Int32) mfr (nI z) mtf mmp mrg mme msn mbg mhd mfo mfi mmy mwa mwn mba mdy mkn mfa mpl men mpg mct mim)) _
  refine Run.br (tgt := 28) d_M_peek_16 rfl (by decide) (fun c_1 => ?_) (fun c_1 => ?_)
  · have c_1 := zi_f c_1
    refine Run.blk (gs := [True]) (S' := ([some (.ref 16), some (.int x)], [.int (-1 : Int32)], Ac fp le lp lb il tf tz bf rfc fr mp sc ifp ib ie pw dh rl rb re sy sb rc sg (Bc (0 : Int32) mfr (nI z) mtf mmp mrg mme msn mbg mhd mfo mfi mmy mwa mwn mba mdy mkn mfa mpl men mpg mct mim))) k_M_peek_28 kc_M_peek_28 rfl ⟨trivial, trivial⟩ ?_
    exact Run.ret (r := some (.int (-1 : Int32))) ⟨d_M_peek_29, _, rfl, rfl⟩ ⟨rfl, rfl⟩
  · have c_1 := zi_t c_1
    exfalso; simp only [← Int32.toInt_inj, Int32.lt_iff_toInt_lt, Int32.le_iff_toInt_le, t0, t1, t2, t4, t64, ti7, ti8, ti900, tim1, sz1 hz] at *; omega
set_option maxRecDepth 100000 in
set_option maxHeartbeats 4000000 in
theorem c_M_peek_B (hz : z ≤ 900) {p : Nat} {x : Int32} (hx : x = nI p) (hp : p < z) : Ct m_M_peek 0 0 [.ref 16, .int x] (Ac fp le lp lb il tf tz bf rfc fr mp sc ifp ib ie pw dh rl rb re sy sb rc sg (Bc mth mfr (nI z) (nif t) mmp mrg mme msn mbg mhd mfo mfi mmy mwa mwn mba mdy mkn mfa mpl men mpg mct mim)) (vm_is (some (.int (nI (t p)))) (Ac fp le lp lb il tf tz bf rfc fr mp sc ifp ib ie pw dh rl rb re sy sb rc sg (Bc (0 : Int32) mfr (nI z) (nif t) mmp mrg mme msn mbg mhd mfo mfi mmy mwa mwn mba mdy mkn mfa mpl men mpg mct mim))) := by
  subst hx
  refine Ct.of ⟨by decide +kernel, rfl⟩ (Nat.le_of_ble_eq_true rfl) (lv := [some (.ref 16), some (.int (nI p))]) rfl ?_
  refine Run.blk (gs := [True, True, True, True, True, True, True, True, True]) (S' := ([some (.ref 16), some (.int (nI p))], [.int ((nI z) - (1 : Int32)), .int (0 : Int32), .int (nI p)], Ac fp le lp lb il tf tz bf rfc fr mp sc ifp ib ie pw dh rl rb re sy sb rc sg (Bc (0 : Int32) mfr (nI z) (nif t) mmp mrg mme msn mbg mhd mfo mfi mmy mwa mwn mba mdy mkn mfa mpl men mpg mct mim))) k_M_peek_0 kc_M_peek_0 rfl ⟨trivial, trivial, trivial, trivial, trivial, trivial, trivial, trivial, trivial, trivial⟩ ?_
  refine Run.callS (As := [.int (nI p), .int (0 : Int32), .int ((nI z) - (1 : Int32))]) (rest := []) v_M_peek_13 (c_M_in (nI p) (0 : Int32) ((nI z) - (1 : Int32))) rfl (Nat.le_of_ble_eq_true rfl) rfl (fun r cs' hp => ?_)
  obtain ⟨rfl, rfl⟩ := hp
  show Run _ _ _ _ 16 ([some (.ref 16), some (.int (nI p))], [.int (if (0 : Int32).toInt ≤ (nI p).toInt ∧ (nI p).toInt ≤ ((nI z) - (1 : Int32)).toInt then 1 else 0)], Ac fp le lp lb il tf tz bf rfc fr mp sc ifp ib ie pw dh rl rb re sy sb rc sg (Bc (0 : Int32) mfr (nI z) (nif t) mmp mrg mme msn mbg mhd mfo mfi mmy mwa mwn mba mdy mkn mfa mpl men mpg mct mim)) _
  refine Run.br (tgt := 28) d_M_peek_16 rfl (by decide) (fun c_1 => ?_) (fun c_1 => ?_)
  · have c_1 := zi_f c_1
    exfalso; apply c_1; rw [t0, sz1 hz, nI_toInt (by omega)]; omega
  · have c_1 := zi_t c_1
    refine Run.blk (gs := [True, True, True, vp_in (nI p) 900]) (S' := ([some (.ref 16), some (.int (nI p))], [.int ((nif t) (nI p).toNatClampNeg)], Ac fp le lp lb il tf tz bf rfc fr mp sc ifp ib ie pw dh rl rb re sy sb rc sg (Bc (0 : Int32) mfr (nI z) (nif t) mmp mrg mme msn mbg mhd mfo mfi mmy mwa mwn mba mdy mkn mfa mpl men mpg mct mim))) k_M_peek_19 kc_M_peek_19 rfl ⟨trivial, trivial, trivial, (vp_in_nI (show p < 900 by omega) (by decide)), trivial⟩ ?_
    refine Run.goto (tgt := 29) d_M_peek_25 (by decide) ?_
    exact Run.ret (r := some (.int ((nif t) (nI p).toNatClampNeg))) ⟨d_M_peek_29, _, rfl, rfl⟩ ⟨by rw [nI_clamp (by omega)]; rfl, rfl⟩
set_option maxRecDepth 100000 in
set_option maxHeartbeats 4000000 in
theorem c_M_cut_A (hz : z ≤ 900) {x : Int32} (hx : ¬ (0 ≤ x.toInt ∧ x.toInt ≤ (z : Int))) : Ct m_M_cut 0 0 [.ref 16, .int x] (Ac fp le lp lb il tf tz bf rfc fr mp sc ifp ib ie pw dh rl rb re sy sb rc sg (Bc mth mfr (nI z) mtf mmp mrg mme msn mbg mhd mfo mfi mmy mwa mwn mba mdy mkn mfa mpl men mpg mct mim)) (vm_is (some (.int (-2 : Int32))) (Ac fp le lp lb il tf tz bf rfc fr mp sc ifp ib ie pw dh rl rb re sy sb rc sg (Bc (0 : Int32) mfr (nI z) mtf mmp mrg mme msn mbg mhd mfo mfi mmy mwa mwn mba mdy mkn mfa mpl men mpg mct mim))) := by
  refine Ct.of ⟨by decide +kernel, rfl⟩ (Nat.le_of_ble_eq_true rfl) (lv := [some (.ref 16), some (.int x), none]) rfl ?_
  refine Run.blk (gs := [True, True, True, True, True, True, True]) (S' := ([some (.ref 16), some (.int x), none], [.int (nI z), .int (0 : Int32), .int x], Ac fp le lp lb il tf tz bf rfc fr mp sc ifp ib ie pw dh rl rb re sy sb rc sg (Bc (0 : Int32) mfr (nI z) mtf mmp mrg mme msn mbg mhd mfo mfi mmy mwa mwn mba mdy mkn mfa mpl men mpg mct mim))) k_M_cut_0 kc_M_cut_0 rfl ⟨trivial, trivial, trivial, trivial, trivial, trivial, trivial, trivial⟩ ?_
  refine Run.callS (As := [.int x, .int (0 : Int32), .int (nI z)]) (rest := []) v_M_cut_11 (c_M_in x (0 : Int32) (nI z)) rfl (Nat.le_of_ble_eq_true rfl) rfl (fun r cs' hp => ?_)
  obtain ⟨rfl, rfl⟩ := hp
  show Run _ _ _ _ 14 ([some (.ref 16), some (.int x), none], [.int (if (0 : Int32).toInt ≤ x.toInt ∧ x.toInt ≤ (nI z).toInt then 1 else 0)], Ac fp le lp lb il tf tz bf rfc fr mp sc ifp ib ie pw dh rl rb re sy sb rc sg (Bc (0 : Int32) mfr (nI z) mtf mmp mrg mme msn mbg mhd mfo mfi mmy mwa mwn mba mdy mkn mfa mpl men mpg mct mim)) _
  refine Run.br (tgt := 20) d_M_cut_14 rfl (by decide) (fun c_1 => ?_) (fun c_1 => ?_)
  · have c_1 := zi_t c_1
    exfalso; simp only [← Int32.toInt_inj, Int32.lt_iff_toInt_lt, Int32.le_iff_toInt_le, t0, t1, t2, t4, t64, ti7, ti8, ti900, tim1, nI_toInt (show z < 2 ^ 31 by omega)] at *; omega
  · have c_1 := zi_f (Classical.not_not.mp c_1)
    refine Run.blk (gs := [True]) (S' := ([some (.ref 16), some (.int x), none], [.int (-2 : Int32)], Ac fp le lp lb il tf tz bf rfc fr mp sc ifp ib ie pw dh rl rb re sy sb rc sg (Bc (0 : Int32) mfr (nI z) mtf mmp mrg mme msn mbg mhd mfo mfi mmy mwa mwn mba mdy mkn mfa mpl men mpg mct mim))) k_M_cut_17 kc_M_cut_17 rfl ⟨trivial, trivial⟩ ?_
    exact Run.ret (r := some (.int (-2 : Int32))) ⟨d_M_cut_19, _, rfl, rfl⟩ ⟨rfl, rfl⟩
set_option maxRecDepth 100000 in
set_option maxHeartbeats 4000000 in
theorem c_M_cut_B (hz : z ≤ 900) {p : Nat} {x : Int32} (hx : x = nI p) (hp : p ≤ z) : Ct m_M_cut 0 0 [.ref 16, .int x] (Ac fp le lp lb il tf tz bf rfc fr mp sc ifp ib ie pw dh rl rb re sy sb rc sg (Bc mth mfr (nI z) mtf mmp mrg mme msn mbg mhd mfo mfi mmy mwa mwn mba mdy mkn mfa mpl men mpg mct mim)) (vm_is (some (.int (nI (z - p)))) (Ac fp le lp lb il tf tz bf rfc fr mp sc ifp ib ie pw dh rl rb re sy sb rc sg (Bc (0 : Int32) mfr (nI p) mtf mmp mrg mme msn mbg mhd mfo mfi mmy mwa mwn mba mdy mkn mfa mpl men mpg mct mim))) := by
  subst hx
  refine Ct.of ⟨by decide +kernel, rfl⟩ (Nat.le_of_ble_eq_true rfl) (lv := [some (.ref 16), some (.int (nI p)), none]) rfl ?_
  refine Run.blk (gs := [True, True, True, True, True, True, True]) (S' := ([some (.ref 16), some (.int (nI p)), none], [.int (nI z), .int (0 : Int32), .int (nI p)], Ac fp le lp lb il tf tz bf rfc fr mp sc ifp ib ie pw dh rl rb re sy sb rc sg (Bc (0 : Int32) mfr (nI z) mtf mmp mrg mme msn mbg mhd mfo mfi mmy mwa mwn mba mdy mkn mfa mpl men mpg mct mim))) k_M_cut_0 kc_M_cut_0 rfl ⟨trivial, trivial, trivial, trivial, trivial, trivial, trivial, trivial⟩ ?_
  refine Run.callS (As := [.int (nI p), .int (0 : Int32), .int (nI z)]) (rest := []) v_M_cut_11 (c_M_in (nI p) (0 : Int32) (nI z)) rfl (Nat.le_of_ble_eq_true rfl) rfl (fun r cs' hp => ?_)
  obtain ⟨rfl, rfl⟩ := hp
  show Run _ _ _ _ 14 ([some (.ref 16), some (.int (nI p)), none], [.int (if (0 : Int32).toInt ≤ (nI p).toInt ∧ (nI p).toInt ≤ (nI z).toInt then 1 else 0)], Ac fp le lp lb il tf tz bf rfc fr mp sc ifp ib ie pw dh rl rb re sy sb rc sg (Bc (0 : Int32) mfr (nI z) mtf mmp mrg mme msn mbg mhd mfo mfi mmy mwa mwn mba mdy mkn mfa mpl men mpg mct mim)) _
  refine Run.br (tgt := 20) d_M_cut_14 rfl (by decide) (fun c_1 => ?_) (fun c_1 => ?_)
  · have c_1 := zi_t c_1
    refine Run.blk (gs := [True, True, True, True, True, True, True, True, True]) (S' := ([some (.ref 16), some (.int (nI p)), some (.int ((nI z) - (nI p)))], [.int ((nI z) - (nI p))], Ac fp le lp lb il tf tz bf rfc fr mp sc ifp ib ie pw dh rl rb re sy sb rc sg (Bc (0 : Int32) mfr (nI p) mtf mmp mrg mme msn mbg mhd mfo mfi mmy mwa mwn mba mdy mkn mfa mpl men mpg mct mim))) k_M_cut_20 kc_M_cut_20 rfl ⟨trivial, trivial, trivial, trivial, trivial, trivial, trivial, trivial, trivial, trivial⟩ ?_
    exact Run.ret (r := some (.int ((nI z) - (nI p)))) ⟨d_M_cut_33, _, rfl, rfl⟩ ⟨by rw [pk_sub hp], rfl⟩
  · have c_1 := zi_f (Classical.not_not.mp c_1)
    exfalso; apply c_1; rw [t0, nI_toInt (by omega), nI_toInt (by omega)]; omega
set_option maxRecDepth 100000 in
set_option maxHeartbeats 4000000 in
theorem c_M_poke_A (hz : z ≤ 900) {x y v : Int32} (hx : ¬ ((y.toInt = 1 ∨ y.toInt = 2 ∨ y.toInt = 4) ∧ 0 ≤ x.toInt ∧ x.toInt + y.toInt ≤ (z : Int))) : Ct m_M_poke 0 0 [.ref 16, .int x, .int y, .int v] (Ac fp le lp lb il tf tz bf rfc fr mp sc ifp ib ie pw dh rl rb re sy sb rc sg (Bc mth mfr (nI z) mtf mmp mrg mme msn mbg mhd mfo mfi mmy mwa mwn mba mdy mkn mfa mpl men mpg mct mim)) (vm_is (some (.int (-2 : Int32))) (Ac fp le lp lb il tf tz bf rfc fr mp sc ifp ib ie pw dh rl rb re sy sb rc sg (Bc (0 : Int32) mfr (nI z) mtf mmp mrg mme msn mbg mhd mfo mfi mmy mwa mwn mba mdy mkn mfa mpl men mpg mct mim))) := by
  refine Ct.of ⟨by decide +kernel, rfl⟩ (Nat.le_of_ble_eq_true rfl) (lv := [some (.ref 16), some (.int x), some (.int y), some (.int v), none]) rfl ?_
  refine Run.blk (gs := [True, True, True, True]) (S' := ([some (.ref 16), some (.int x), some (.int y), some (.int v), none], [.int y], Ac fp le lp lb il tf tz bf rfc fr mp sc ifp ib ie pw dh rl rb re sy sb rc sg (Bc (0 : Int32) mfr (nI z) mtf mmp mrg mme msn mbg mhd mfo mfi mmy mwa mwn mba mdy mkn mfa mpl men mpg mct mim))) k_M_poke_0 kc_M_poke_0 rfl ⟨trivial, trivial, trivial, trivial, trivial⟩ ?_
  refine Run.callS (As := [.int y]) (rest := []) v_M_poke_6 (c_M_isWide y) rfl (Nat.le_of_ble_eq_true rfl) rfl (fun r cs' hp => ?_)
  obtain ⟨rfl, rfl⟩ := hp
  show Run _ _ _ _ 9 ([some (.ref 16), some (.int x), some (.int y), some (.int v), none], [.int (if y.toInt = 1 ∨ y.toInt = 2 ∨ y.toInt = 4 then 1 else 0)], Ac fp le lp lb il tf tz bf rfc fr mp sc ifp ib ie pw dh rl rb re sy sb rc sg (Bc (0 : Int32) mfr (nI z) mtf mmp mrg mme msn mbg mhd mfo mfi mmy mwa mwn mba mdy mkn mfa mpl men mpg mct mim)) _
  refine Run.br (tgt := 26) d_M_poke_9 rfl (by decide) (fun c_1 => ?_) (fun c_1 => ?_)
  · have c_1 := zi_f c_1
    refine Run.blk (gs := [True]) (S' := ([some (.ref 16), some (.int x), some (.int y), some (.int v), none], [.int (-2 : Int32)], Ac fp le lp lb il tf tz bf rfc fr mp sc ifp ib ie pw dh rl rb re sy sb rc sg (Bc (0 : Int32) mfr (nI z) mtf mmp mrg mme msn mbg mhd mfo mfi mmy mwa mwn mba mdy mkn mfa mpl men mpg mct mim))) k_M_poke_26 kc_M_poke_26 rfl ⟨trivial, trivial⟩ ?_
    exact Run.ret (r := some (.int (-2 : Int32))) ⟨d_M_poke_28, _, rfl, rfl⟩ ⟨rfl, rfl⟩
  · have c_1 := zi_t c_1
    refine Run.blk (gs := [True, True, True, True, True, True]) (S' := ([some (.ref 16), some (.int x), some (.int y), some (.int v), none], [.int ((nI z) - y), .int (0 : Int32), .int x], Ac fp le lp lb il tf tz bf rfc fr mp sc ifp ib ie pw dh rl rb re sy sb rc sg (Bc (0 : Int32) mfr (nI z) mtf mmp mrg mme msn mbg mhd mfo mfi mmy mwa mwn mba mdy mkn mfa mpl men mpg mct mim))) k_M_poke_12 kc_M_poke_12 rfl ⟨trivial, trivial, trivial, trivial, trivial, trivial, trivial⟩ ?_
    refine Run.callS (As := [.int x, .int (0 : Int32), .int ((nI z) - y)]) (rest := []) v_M_poke_20 (c_M_in x (0 : Int32) ((nI z) - y)) rfl (Nat.le_of_ble_eq_true rfl) rfl (fun r cs' hp => ?_)
    obtain ⟨rfl, rfl⟩ := hp
    show Run _ _ _ _ 23 ([some (.ref 16), some (.int x), some (.int y), some (.int v), none], [.int (if (0 : Int32).toInt ≤ x.toInt ∧ x.toInt ≤ ((nI z) - y).toInt then 1 else 0)], Ac fp le lp lb il tf tz bf rfc fr mp sc ifp ib ie pw dh rl rb re sy sb rc sg (Bc (0 : Int32) mfr (nI z) mtf mmp mrg mme msn mbg mhd mfo mfi mmy mwa mwn mba mdy mkn mfa mpl men mpg mct mim)) _
    refine Run.br (tgt := 29) d_M_poke_23 rfl (by decide) (fun c_2 => ?_) (fun c_2 => ?_)
    · have c_2 := zi_t c_2
      exfalso; rw [szy hz (by omega) (by omega), t0] at c_2; omega
    · have c_2 := zi_f (Classical.not_not.mp c_2)
      refine Run.blk (gs := [True]) (S' := ([some (.ref 16), some (.int x), some (.int y), some (.int v), none], [.int (-2 : Int32)], Ac fp le lp lb il tf tz bf rfc fr mp sc ifp ib ie pw dh rl rb re sy sb rc sg (Bc (0 : Int32) mfr (nI z) mtf mmp mrg mme msn mbg mhd mfo mfi mmy mwa mwn mba mdy mkn mfa mpl men mpg mct mim))) k_M_poke_26 kc_M_poke_26 rfl ⟨trivial, trivial⟩ ?_
      exact Run.ret (r := some (.int (-2 : Int32))) ⟨d_M_poke_28, _, rfl, rfl⟩ ⟨rfl, rfl⟩
set_option maxRecDepth 100000 in
set_option maxHeartbeats 4000000 in
theorem c_M_poke_1 (hz : z ≤ 900) {p : Nat} {x v : Int32} (hx : x = nI p) (hp : p + 1 ≤ z) : Ct m_M_poke 0 0 [.ref 16, .int x, .int (1 : Int32), .int v] (Ac fp le lp lb il tf tz bf rfc fr mp sc ifp ib ie pw dh rl rb re sy sb rc sg (Bc mth mfr (nI z) (nif t) mmp mrg mme msn mbg mhd mfo mfi mmy mwa mwn mba mdy mkn mfa mpl men mpg mct mim)) (vm_is (some (.int (0 : Int32))) (Ac fp le lp lb il tf tz bf rfc fr mp sc ifp ib ie pw dh rl rb re sy sb rc sg (Bc (0 : Int32) mfr (nI z) (nif (u1 t p v)) mmp mrg mme msn mbg mhd mfo mfi mmy mwa mwn mba mdy mkn mfa mpl men mpg mct mim))) := by
  subst hx
  refine Ct.of ⟨by decide +kernel, rfl⟩ (Nat.le_of_ble_eq_true rfl) (lv := [some (.ref 16), some (.int (nI p)), some (.int (1 : Int32)), some (.int v), none]) rfl ?_
  refine Run.blk (gs := [True, True, True, True]) (S' := ([some (.ref 16), some (.int (nI p)), some (.int (1 : Int32)), some (.int v), none], [.int (1 : Int32)], Ac fp le lp lb il tf tz bf rfc fr mp sc ifp ib ie pw dh rl rb re sy sb rc sg (Bc (0 : Int32) mfr (nI z) (nif t) mmp mrg mme msn mbg mhd mfo mfi mmy mwa mwn mba mdy mkn mfa mpl men mpg mct mim))) k_M_poke_0 kc_M_poke_0 rfl ⟨trivial, trivial, trivial, trivial, trivial⟩ ?_
  refine Run.callS (As := [.int (1 : Int32)]) (rest := []) v_M_poke_6 (c_M_isWide (1 : Int32)) rfl (Nat.le_of_ble_eq_true rfl) rfl (fun r cs' hp => ?_)
  obtain ⟨rfl, rfl⟩ := hp
  show Run _ _ _ _ 9 ([some (.ref 16), some (.int (nI p)), some (.int (1 : Int32)), some (.int v), none], [.int (if (1 : Int32).toInt = 1 ∨ (1 : Int32).toInt = 2 ∨ (1 : Int32).toInt = 4 then 1 else 0)], Ac fp le lp lb il tf tz bf rfc fr mp sc ifp ib ie pw dh rl rb re sy sb rc sg (Bc (0 : Int32) mfr (nI z) (nif t) mmp mrg mme msn mbg mhd mfo mfi mmy mwa mwn mba mdy mkn mfa mpl men mpg mct mim)) _
  refine Run.br (tgt := 26) d_M_poke_9 rfl (by decide) (fun c_1 => ?_) (fun c_1 => ?_)
  · have c_1 := zi_f c_1
    exact absurd (by decide) c_1
  · have c_1 := zi_t c_1
    refine Run.blk (gs := [True, True, True, True, True, True]) (S' := ([some (.ref 16), some (.int (nI p)), some (.int (1 : Int32)), some (.int v), none], [.int ((nI z) - (1 : Int32)), .int (0 : Int32), .int (nI p)], Ac fp le lp lb il tf tz bf rfc fr mp sc ifp ib ie pw dh rl rb re sy sb rc sg (Bc (0 : Int32) mfr (nI z) (nif t) mmp mrg mme msn mbg mhd mfo mfi mmy mwa mwn mba mdy mkn mfa mpl men mpg mct mim))) k_M_poke_12 kc_M_poke_12 rfl ⟨trivial, trivial, trivial, trivial, trivial, trivial, trivial⟩ ?_
    refine Run.callS (As := [.int (nI p), .int (0 : Int32), .int ((nI z) - (1 : Int32))]) (rest := []) v_M_poke_20 (c_M_in (nI p) (0 : Int32) ((nI z) - (1 : Int32))) rfl (Nat.le_of_ble_eq_true rfl) rfl (fun r cs' hp => ?_)
    obtain ⟨rfl, rfl⟩ := hp
    show Run _ _ _ _ 23 ([some (.ref 16), some (.int (nI p)), some (.int (1 : Int32)), some (.int v), none], [.int (if (0 : Int32).toInt ≤ (nI p).toInt ∧ (nI p).toInt ≤ ((nI z) - (1 : Int32)).toInt then 1 else 0)], Ac fp le lp lb il tf tz bf rfc fr mp sc ifp ib ie pw dh rl rb re sy sb rc sg (Bc (0 : Int32) mfr (nI z) (nif t) mmp mrg mme msn mbg mhd mfo mfi mmy mwa mwn mba mdy mkn mfa mpl men mpg mct mim)) _
    refine Run.br (tgt := 29) d_M_poke_23 rfl (by decide) (fun c_2 => ?_) (fun c_2 => ?_)
    · have c_2 := zi_t c_2
      refine Run.blk (gs := [True, True]) (S' := ([some (.ref 16), some (.int (nI p)), some (.int (1 : Int32)), some (.int v), some (.int (0 : Int32))], [], Ac fp le lp lb il tf tz bf rfc fr mp sc ifp ib ie pw dh rl rb re sy sb rc sg (Bc (0 : Int32) mfr (nI z) (nif t) mmp mrg mme msn mbg mhd mfo mfi mmy mwa mwn mba mdy mkn mfa mpl men mpg mct mim))) k_M_poke_29 kc_M_poke_29 rfl ⟨trivial, trivial, trivial⟩ ?_
      refine Run.blk (gs := [True, True]) (S' := ([some (.ref 16), some (.int (nI p)), some (.int (1 : Int32)), some (.int v), some (.int (0 : Int32))], [.int (1 : Int32), .int (0 : Int32)], Ac fp le lp lb il tf tz bf rfc fr mp sc ifp ib ie pw dh rl rb re sy sb rc sg (Bc (0 : Int32) mfr (nI z) (nif t) mmp mrg mme msn mbg mhd mfo mfi mmy mwa mwn mba mdy mkn mfa mpl men mpg mct mim))) k_M_poke_32 kc_M_poke_32 rfl ⟨trivial, trivial, trivial⟩ ?_
      refine Run.br (tgt := 64) d_M_poke_35 rfl (by decide) (fun c_3 => ?_) (fun c_3 => ?_)
      · exact absurd c_3 (by decide)
      · refine Run.blk (gs := [True, True, True, True, True, True, True, True, True, True, True, True, vp_in ((nI p) + (0 : Int32)) 900, True]) (S' := ([some (.ref 16), some (.int (nI p)), some (.int (1 : Int32)), some (.int v), some (.int ((0 : Int32) + (1 : Int32)))], [], Ac fp le lp lb il tf tz bf rfc fr mp sc ifp ib ie pw dh rl rb re sy sb rc sg (Bc (0 : Int32) mfr (nI z) (upd (nif t) ((nI p) + (0 : Int32)).toNatClampNeg ((v >>> (((8 : Int32) * (0 : Int32)) &&& 31)) &&& (255 : Int32))) mmp mrg mme msn mbg mhd mfo mfi mmy mwa mwn mba mdy mkn mfa mpl men mpg mct mim))) k_M_poke_38 kc_M_poke_38 rfl ⟨trivial, trivial, trivial, trivial, trivial, trivial, trivial, trivial, trivial, trivial, trivial, trivial, (by rw [show (0 : Int32) = nI 0 from by decide, nI_add]; exact vp_in_nI (show p + 0 < 900 by omega) (by decide)), trivial, trivial⟩ ?_
        refine Run.goto (tgt := 32) d_M_poke_61 (by decide) ?_
        refine Run.blk (gs := [True, True]) (S' := ([some (.ref 16), some (.int (nI p)), some (.int (1 : Int32)), some (.int v), some (.int ((0 : Int32) + (1 : Int32)))], [.int (1 : Int32), .int ((0 : Int32) + (1 : Int32))], Ac fp le lp lb il tf tz bf rfc fr mp sc ifp ib ie pw dh rl rb re sy sb rc sg (Bc (0 : Int32) mfr (nI z) (upd (nif t) ((nI p) + (0 : Int32)).toNatClampNeg ((v >>> (((8 : Int32) * (0 : Int32)) &&& 31)) &&& (255 : Int32))) mmp mrg mme msn mbg mhd mfo mfi mmy mwa mwn mba mdy mkn mfa mpl men mpg mct mim))) k_M_poke_32 kc_M_poke_32 rfl ⟨trivial, trivial, trivial⟩ ?_
        refine Run.br (tgt := 64) d_M_poke_35 rfl (by decide) (fun c_4 => ?_) (fun c_4 => ?_)
        · refine Run.blk (gs := [True]) (S' := ([some (.ref 16), some (.int (nI p)), some (.int (1 : Int32)), some (.int v), some (.int ((0 : Int32) + (1 : Int32)))], [.int (0 : Int32)], Ac fp le lp lb il tf tz bf rfc fr mp sc ifp ib ie pw dh rl rb re sy sb rc sg (Bc (0 : Int32) mfr (nI z) (upd (nif t) ((nI p) + (0 : Int32)).toNatClampNeg ((v >>> (((8 : Int32) * (0 : Int32)) &&& 31)) &&& (255 : Int32))) mmp mrg mme msn mbg mhd mfo mfi mmy mwa mwn mba mdy mkn mfa mpl men mpg mct mim))) k_M_poke_64 kc_M_poke_64 rfl ⟨trivial, trivial⟩ ?_
          refine Run.ret (r := some (.int (0 : Int32))) ⟨d_M_poke_65, _, rfl, rfl⟩ ⟨rfl, ?_⟩
          rw [show nI p + (0 : Int32) = nI (p + 0) from by rw [show (0 : Int32) = nI 0 from by decide]; exact nI_add p 0, nI_clamp (show p + 0 < 2 ^ 31 by omega), vsh v (s := (8 : Int32) * (0 : Int32)) (i := 0) (by decide) (by decide), upd_nif]
          rfl
        · exact absurd c_4 (by decide)
    · have c_2 := zi_f (Classical.not_not.mp c_2)
      exfalso; apply c_2; rw [szy hz (by decide) (by decide), t0, nI_toInt (show p < 2 ^ 31 by omega)]; simp only [t1, t2, t4]; omega
set_option maxRecDepth 100000 in
set_option maxHeartbeats 4000000 in
theorem c_M_poke_2 (hz : z ≤ 900) {p : Nat} {x v : Int32} (hx : x = nI p) (hp : p + 2 ≤ z) : Ct m_M_poke 0 0 [.ref 16, .int x, .int (2 : Int32), .int v] (Ac fp le lp lb il tf tz bf rfc fr mp sc ifp ib ie pw dh rl rb re sy sb rc sg (Bc mth mfr (nI z) (nif t) mmp mrg mme msn mbg mhd mfo mfi mmy mwa mwn mba mdy mkn mfa mpl men mpg mct mim)) (vm_is (some (.int (0 : Int32))) (Ac fp le lp lb il tf tz bf rfc fr mp sc ifp ib ie pw dh rl rb re sy sb rc sg (Bc (0 : Int32) mfr (nI z) (nif (u2 t p v)) mmp mrg mme msn mbg mhd mfo mfi mmy mwa mwn mba mdy mkn mfa mpl men mpg mct mim))) := by
  subst hx
  refine Ct.of ⟨by decide +kernel, rfl⟩ (Nat.le_of_ble_eq_true rfl) (lv := [some (.ref 16), some (.int (nI p)), some (.int (2 : Int32)), some (.int v), none]) rfl ?_
  refine Run.blk (gs := [True, True, True, True]) (S' := ([some (.ref 16), some (.int (nI p)), some (.int (2 : Int32)), some (.int v), none], [.int (2 : Int32)], Ac fp le lp lb il tf tz bf rfc fr mp sc ifp ib ie pw dh rl rb re sy sb rc sg (Bc (0 : Int32) mfr (nI z) (nif t) mmp mrg mme msn mbg mhd mfo mfi mmy mwa mwn mba mdy mkn mfa mpl men mpg mct mim))) k_M_poke_0 kc_M_poke_0 rfl ⟨trivial, trivial, trivial, trivial, trivial⟩ ?_
  refine Run.callS (As := [.int (2 : Int32)]) (rest := []) v_M_poke_6 (c_M_isWide (2 : Int32)) rfl (Nat.le_of_ble_eq_true rfl) rfl (fun r cs' hp => ?_)
  obtain ⟨rfl, rfl⟩ := hp
  show Run _ _ _ _ 9 ([some (.ref 16), some (.int (nI p)), some (.int (2 : Int32)), some (.int v), none], [.int (if (2 : Int32).toInt = 1 ∨ (2 : Int32).toInt = 2 ∨ (2 : Int32).toInt = 4 then 1 else 0)], Ac fp le lp lb il tf tz bf rfc fr mp sc ifp ib ie pw dh rl rb re sy sb rc sg (Bc (0 : Int32) mfr (nI z) (nif t) mmp mrg mme msn mbg mhd mfo mfi mmy mwa mwn mba mdy mkn mfa mpl men mpg mct mim)) _
  refine Run.br (tgt := 26) d_M_poke_9 rfl (by decide) (fun c_1 => ?_) (fun c_1 => ?_)
  · have c_1 := zi_f c_1
    exact absurd (by decide) c_1
  · have c_1 := zi_t c_1
    refine Run.blk (gs := [True, True, True, True, True, True]) (S' := ([some (.ref 16), some (.int (nI p)), some (.int (2 : Int32)), some (.int v), none], [.int ((nI z) - (2 : Int32)), .int (0 : Int32), .int (nI p)], Ac fp le lp lb il tf tz bf rfc fr mp sc ifp ib ie pw dh rl rb re sy sb rc sg (Bc (0 : Int32) mfr (nI z) (nif t) mmp mrg mme msn mbg mhd mfo mfi mmy mwa mwn mba mdy mkn mfa mpl men mpg mct mim))) k_M_poke_12 kc_M_poke_12 rfl ⟨trivial, trivial, trivial, trivial, trivial, trivial, trivial⟩ ?_
    refine Run.callS (As := [.int (nI p), .int (0 : Int32), .int ((nI z) - (2 : Int32))]) (rest := []) v_M_poke_20 (c_M_in (nI p) (0 : Int32) ((nI z) - (2 : Int32))) rfl (Nat.le_of_ble_eq_true rfl) rfl (fun r cs' hp => ?_)
    obtain ⟨rfl, rfl⟩ := hp
    show Run _ _ _ _ 23 ([some (.ref 16), some (.int (nI p)), some (.int (2 : Int32)), some (.int v), none], [.int (if (0 : Int32).toInt ≤ (nI p).toInt ∧ (nI p).toInt ≤ ((nI z) - (2 : Int32)).toInt then 1 else 0)], Ac fp le lp lb il tf tz bf rfc fr mp sc ifp ib ie pw dh rl rb re sy sb rc sg (Bc (0 : Int32) mfr (nI z) (nif t) mmp mrg mme msn mbg mhd mfo mfi mmy mwa mwn mba mdy mkn mfa mpl men mpg mct mim)) _
    refine Run.br (tgt := 29) d_M_poke_23 rfl (by decide) (fun c_2 => ?_) (fun c_2 => ?_)
    · have c_2 := zi_t c_2
      refine Run.blk (gs := [True, True]) (S' := ([some (.ref 16), some (.int (nI p)), some (.int (2 : Int32)), some (.int v), some (.int (0 : Int32))], [], Ac fp le lp lb il tf tz bf rfc fr mp sc ifp ib ie pw dh rl rb re sy sb rc sg (Bc (0 : Int32) mfr (nI z) (nif t) mmp mrg mme msn mbg mhd mfo mfi mmy mwa mwn mba mdy mkn mfa mpl men mpg mct mim))) k_M_poke_29 kc_M_poke_29 rfl ⟨trivial, trivial, trivial⟩ ?_
      refine Run.blk (gs := [True, True]) (S' := ([some (.ref 16), some (.int (nI p)), some (.int (2 : Int32)), some (.int v), some (.int (0 : Int32))], [.int (2 : Int32), .int (0 : Int32)], Ac fp le lp lb il tf tz bf rfc fr mp sc ifp ib ie pw dh rl rb re sy sb rc sg (Bc (0 : Int32) mfr (nI z) (nif t) mmp mrg mme msn mbg mhd mfo mfi mmy mwa mwn mba mdy mkn mfa mpl men mpg mct mim))) k_M_poke_32 kc_M_poke_32 rfl ⟨trivial, trivial, trivial⟩ ?_
      refine Run.br (tgt := 64) d_M_poke_35 rfl (by decide) (fun c_3 => ?_) (fun c_3 => ?_)
      · exact absurd c_3 (by decide)
      · refine Run.blk (gs := [True, True, True, True, True, True, True, True, True, True, True, True, vp_in ((nI p) + (0 : Int32)) 900, True]) (S' := ([some (.ref 16), some (.int (nI p)), some (.int (2 : Int32)), some (.int v), some (.int ((0 : Int32) + (1 : Int32)))], [], Ac fp le lp lb il tf tz bf rfc fr mp sc ifp ib ie pw dh rl rb re sy sb rc sg (Bc (0 : Int32) mfr (nI z) (upd (nif t) ((nI p) + (0 : Int32)).toNatClampNeg ((v >>> (((8 : Int32) * (0 : Int32)) &&& 31)) &&& (255 : Int32))) mmp mrg mme msn mbg mhd mfo mfi mmy mwa mwn mba mdy mkn mfa mpl men mpg mct mim))) k_M_poke_38 kc_M_poke_38 rfl ⟨trivial, trivial, trivial, trivial, trivial, trivial, trivial, trivial, trivial, trivial, trivial, trivial, (by rw [show (0 : Int32) = nI 0 from by decide, nI_add]; exact vp_in_nI (show p + 0 < 900 by omega) (by decide)), trivial, trivial⟩ ?_
        refine Run.goto (tgt := 32) d_M_poke_61 (by decide) ?_
        refine Run.blk (gs := [True, True]) (S' := ([some (.ref 16), some (.int (nI p)), some (.int (2 : Int32)), some (.int v), some (.int ((0 : Int32) + (1 : Int32)))], [.int (2 : Int32), .int ((0 : Int32) + (1 : Int32))], Ac fp le lp lb il tf tz bf rfc fr mp sc ifp ib ie pw dh rl rb re sy sb rc sg (Bc (0 : Int32) mfr (nI z) (upd (nif t) ((nI p) + (0 : Int32)).toNatClampNeg ((v >>> (((8 : Int32) * (0 : Int32)) &&& 31)) &&& (255 : Int32))) mmp mrg mme msn mbg mhd mfo mfi mmy mwa mwn mba mdy mkn mfa mpl men mpg mct mim))) k_M_poke_32 kc_M_poke_32 rfl ⟨trivial, trivial, trivial⟩ ?_
        refine Run.br (tgt := 64) d_M_poke_35 rfl (by decide) (fun c_4 => ?_) (fun c_4 => ?_)
        · exact absurd c_4 (by decide)
        · refine Run.blk (gs := [True, True, True, True, True, True, True, True, True, True, True, True, vp_in ((nI p) + ((0 : Int32) + (1 : Int32))) 900, True]) (S' := ([some (.ref 16), some (.int (nI p)), some (.int (2 : Int32)), some (.int v), some (.int (((0 : Int32) + (1 : Int32)) + (1 : Int32)))], [], Ac fp le lp lb il tf tz bf rfc fr mp sc ifp ib ie pw dh rl rb re sy sb rc sg (Bc (0 : Int32) mfr (nI z) (upd (upd (nif t) ((nI p) + (0 : Int32)).toNatClampNeg ((v >>> (((8 : Int32) * (0 : Int32)) &&& 31)) &&& (255 : Int32))) ((nI p) + ((0 : Int32) + (1 : Int32))).toNatClampNeg ((v >>> (((8 : Int32) * ((0 : Int32) + (1 : Int32))) &&& 31)) &&& (255 : Int32))) mmp mrg mme msn mbg mhd mfo mfi mmy mwa mwn mba mdy mkn mfa mpl men mpg mct mim))) k_M_poke_38 kc_M_poke_38 rfl ⟨trivial, trivial, trivial, trivial, trivial, trivial, trivial, trivial, trivial, trivial, trivial, trivial, (by rw [show ((0 : Int32) + (1 : Int32)) = nI 1 from by decide, nI_add]; exact vp_in_nI (show p + 1 < 900 by omega) (by decide)), trivial, trivial⟩ ?_
          refine Run.goto (tgt := 32) d_M_poke_61 (by decide) ?_
          refine Run.blk (gs := [True, True]) (S' := ([some (.ref 16), some (.int (nI p)), some (.int (2 : Int32)), some (.int v), some (.int (((0 : Int32) + (1 : Int32)) + (1 : Int32)))], [.int (2 : Int32), .int (((0 : Int32) + (1 : Int32)) + (1 : Int32))], Ac fp le lp lb il tf tz bf rfc fr mp sc ifp ib ie pw dh rl rb re sy sb rc sg (Bc (0 : Int32) mfr (nI z) (upd (upd (nif t) ((nI p) + (0 : Int32)).toNatClampNeg ((v >>> (((8 : Int32) * (0 : Int32)) &&& 31)) &&& (255 : Int32))) ((nI p) + ((0 : Int32) + (1 : Int32))).toNatClampNeg ((v >>> (((8 : Int32) * ((0 : Int32) + (1 : Int32))) &&& 31)) &&& (255 : Int32))) mmp mrg mme msn mbg mhd mfo mfi mmy mwa mwn mba mdy mkn mfa mpl men mpg mct mim))) k_M_poke_32 kc_M_poke_32 rfl ⟨trivial, trivial, trivial⟩ ?_
          refine Run.br (tgt := 64) d_M_poke_35 rfl (by decide) (fun c_5 => ?_) (fun c_5 => ?_)
          · refine Run.blk (gs := [True]) (S' := ([some (.ref 16), some (.int (nI p)), some (.int (2 : Int32)), some (.int v), some (.int (((0 : Int32) + (1 : Int32)) + (1 : Int32)))], [.int (0 : Int32)], Ac fp le lp lb il tf tz bf rfc fr mp sc ifp ib ie pw dh rl rb re sy sb rc sg (Bc (0 : Int32) mfr (nI z) (upd (upd (nif t) ((nI p) + (0 : Int32)).toNatClampNeg ((v >>> (((8 : Int32) * (0 : Int32)) &&& 31)) &&& (255 : Int32))) ((nI p) + ((0 : Int32) + (1 : Int32))).toNatClampNeg ((v >>> (((8 : Int32) * ((0 : Int32) + (1 : Int32))) &&& 31)) &&& (255 : Int32))) mmp mrg mme msn mbg mhd mfo mfi mmy mwa mwn mba mdy mkn mfa mpl men mpg mct mim))) k_M_poke_64 kc_M_poke_64 rfl ⟨trivial, trivial⟩ ?_
            refine Run.ret (r := some (.int (0 : Int32))) ⟨d_M_poke_65, _, rfl, rfl⟩ ⟨rfl, ?_⟩
            rw [show nI p + (0 : Int32) = nI (p + 0) from by rw [show (0 : Int32) = nI 0 from by decide]; exact nI_add p 0, nI_clamp (show p + 0 < 2 ^ 31 by omega), vsh v (s := (8 : Int32) * (0 : Int32)) (i := 0) (by decide) (by decide), upd_nif]
            rw [show nI p + ((0 : Int32) + (1 : Int32)) = nI (p + 1) from by rw [show ((0 : Int32) + (1 : Int32)) = nI 1 from by decide]; exact nI_add p 1, nI_clamp (show p + 1 < 2 ^ 31 by omega), vsh v (s := (8 : Int32) * ((0 : Int32) + (1 : Int32))) (i := 1) (by decide) (by decide), upd_nif]
            rfl
          · exact absurd c_5 (by decide)
    · have c_2 := zi_f (Classical.not_not.mp c_2)
      exfalso; apply c_2; rw [szy hz (by decide) (by decide), t0, nI_toInt (show p < 2 ^ 31 by omega)]; simp only [t1, t2, t4]; omega
set_option maxRecDepth 100000 in
set_option maxHeartbeats 4000000 in
theorem c_M_poke_4 (hz : z ≤ 900) {p : Nat} {x v : Int32} (hx : x = nI p) (hp : p + 4 ≤ z) : Ct m_M_poke 0 0 [.ref 16, .int x, .int (4 : Int32), .int v] (Ac fp le lp lb il tf tz bf rfc fr mp sc ifp ib ie pw dh rl rb re sy sb rc sg (Bc mth mfr (nI z) (nif t) mmp mrg mme msn mbg mhd mfo mfi mmy mwa mwn mba mdy mkn mfa mpl men mpg mct mim)) (vm_is (some (.int (0 : Int32))) (Ac fp le lp lb il tf tz bf rfc fr mp sc ifp ib ie pw dh rl rb re sy sb rc sg (Bc (0 : Int32) mfr (nI z) (nif (u4 t p v)) mmp mrg mme msn mbg mhd mfo mfi mmy mwa mwn mba mdy mkn mfa mpl men mpg mct mim))) := by
  subst hx
  refine Ct.of ⟨by decide +kernel, rfl⟩ (Nat.le_of_ble_eq_true rfl) (lv := [some (.ref 16), some (.int (nI p)), some (.int (4 : Int32)), some (.int v), none]) rfl ?_
  refine Run.blk (gs := [True, True, True, True]) (S' := ([some (.ref 16), some (.int (nI p)), some (.int (4 : Int32)), some (.int v), none], [.int (4 : Int32)], Ac fp le lp lb il tf tz bf rfc fr mp sc ifp ib ie pw dh rl rb re sy sb rc sg (Bc (0 : Int32) mfr (nI z) (nif t) mmp mrg mme msn mbg mhd mfo mfi mmy mwa mwn mba mdy mkn mfa mpl men mpg mct mim))) k_M_poke_0 kc_M_poke_0 rfl ⟨trivial, trivial, trivial, trivial, trivial⟩ ?_
  refine Run.callS (As := [.int (4 : Int32)]) (rest := []) v_M_poke_6 (c_M_isWide (4 : Int32)) rfl (Nat.le_of_ble_eq_true rfl) rfl (fun r cs' hp => ?_)
  obtain ⟨rfl, rfl⟩ := hp
  show Run _ _ _ _ 9 ([some (.ref 16), some (.int (nI p)), some (.int (4 : Int32)), some (.int v), none], [.int (if (4 : Int32).toInt = 1 ∨ (4 : Int32).toInt = 2 ∨ (4 : Int32).toInt = 4 then 1 else 0)], Ac fp le lp lb il tf tz bf rfc fr mp sc ifp ib ie pw dh rl rb re sy sb rc sg (Bc (0 : Int32) mfr (nI z) (nif t) mmp mrg mme msn mbg mhd mfo mfi mmy mwa mwn mba mdy mkn mfa mpl men mpg mct mim)) _
  refine Run.br (tgt := 26) d_M_poke_9 rfl (by decide) (fun c_1 => ?_) (fun c_1 => ?_)
  · have c_1 := zi_f c_1
    exact absurd (by decide) c_1
  · have c_1 := zi_t c_1
    refine Run.blk (gs := [True, True, True, True, True, True]) (S' := ([some (.ref 16), some (.int (nI p)), some (.int (4 : Int32)), some (.int v), none], [.int ((nI z) - (4 : Int32)), .int (0 : Int32), .int (nI p)], Ac fp le lp lb il tf tz bf rfc fr mp sc ifp ib ie pw dh rl rb re sy sb rc sg (Bc (0 : Int32) mfr (nI z) (nif t) mmp mrg mme msn mbg mhd mfo mfi mmy mwa mwn mba mdy mkn mfa mpl men mpg mct mim))) k_M_poke_12 kc_M_poke_12 rfl ⟨trivial, trivial, trivial, trivial, trivial, trivial, trivial⟩ ?_
    refine Run.callS (As := [.int (nI p), .int (0 : Int32), .int ((nI z) - (4 : Int32))]) (rest := []) v_M_poke_20 (c_M_in (nI p) (0 : Int32) ((nI z) - (4 : Int32))) rfl (Nat.le_of_ble_eq_true rfl) rfl (fun r cs' hp => ?_)
    obtain ⟨rfl, rfl⟩ := hp
    show Run _ _ _ _ 23 ([some (.ref 16), some (.int (nI p)), some (.int (4 : Int32)), some (.int v), none], [.int (if (0 : Int32).toInt ≤ (nI p).toInt ∧ (nI p).toInt ≤ ((nI z) - (4 : Int32)).toInt then 1 else 0)], Ac fp le lp lb il tf tz bf rfc fr mp sc ifp ib ie pw dh rl rb re sy sb rc sg (Bc (0 : Int32) mfr (nI z) (nif t) mmp mrg mme msn mbg mhd mfo mfi mmy mwa mwn mba mdy mkn mfa mpl men mpg mct mim)) _
    refine Run.br (tgt := 29) d_M_poke_23 rfl (by decide) (fun c_2 => ?_) (fun c_2 => ?_)
    · have c_2 := zi_t c_2
      refine Run.blk (gs := [True, True]) (S' := ([some (.ref 16), some (.int (nI p)), some (.int (4 : Int32)), some (.int v), some (.int (0 : Int32))], [], Ac fp le lp lb il tf tz bf rfc fr mp sc ifp ib ie pw dh rl rb re sy sb rc sg (Bc (0 : Int32) mfr (nI z) (nif t) mmp mrg mme msn mbg mhd mfo mfi mmy mwa mwn mba mdy mkn mfa mpl men mpg mct mim))) k_M_poke_29 kc_M_poke_29 rfl ⟨trivial, trivial, trivial⟩ ?_
      refine Run.blk (gs := [True, True]) (S' := ([some (.ref 16), some (.int (nI p)), some (.int (4 : Int32)), some (.int v), some (.int (0 : Int32))], [.int (4 : Int32), .int (0 : Int32)], Ac fp le lp lb il tf tz bf rfc fr mp sc ifp ib ie pw dh rl rb re sy sb rc sg (Bc (0 : Int32) mfr (nI z) (nif t) mmp mrg mme msn mbg mhd mfo mfi mmy mwa mwn mba mdy mkn mfa mpl men mpg mct mim))) k_M_poke_32 kc_M_poke_32 rfl ⟨trivial, trivial, trivial⟩ ?_
      refine Run.br (tgt := 64) d_M_poke_35 rfl (by decide) (fun c_3 => ?_) (fun c_3 => ?_)
      · exact absurd c_3 (by decide)
      · refine Run.blk (gs := [True, True, True, True, True, True, True, True, True, True, True, True, vp_in ((nI p) + (0 : Int32)) 900, True]) (S' := ([some (.ref 16), some (.int (nI p)), some (.int (4 : Int32)), some (.int v), some (.int ((0 : Int32) + (1 : Int32)))], [], Ac fp le lp lb il tf tz bf rfc fr mp sc ifp ib ie pw dh rl rb re sy sb rc sg (Bc (0 : Int32) mfr (nI z) (upd (nif t) ((nI p) + (0 : Int32)).toNatClampNeg ((v >>> (((8 : Int32) * (0 : Int32)) &&& 31)) &&& (255 : Int32))) mmp mrg mme msn mbg mhd mfo mfi mmy mwa mwn mba mdy mkn mfa mpl men mpg mct mim))) k_M_poke_38 kc_M_poke_38 rfl ⟨trivial, trivial, trivial, trivial, trivial, trivial, trivial, trivial, trivial, trivial, trivial, trivial, (by rw [show (0 : Int32) = nI 0 from by decide, nI_add]; exact vp_in_nI (show p + 0 < 900 by omega) (by decide)), trivial, trivial⟩ ?_
        refine Run.goto (tgt := 32) d_M_poke_61 (by decide) ?_
        refine Run.blk (gs := [True, True]) (S' := ([some (.ref 16), some (.int (nI p)), some (.int (4 : Int32)), some (.int v), some (.int ((0 : Int32) + (1 : Int32)))], [.int (4 : Int32), .int ((0 : Int32) + (1 : Int32))], Ac fp le lp lb il tf tz bf rfc fr mp sc ifp ib ie pw dh rl rb re sy sb rc sg (Bc (0 : Int32) mfr (nI z) (upd (nif t) ((nI p) + (0 : Int32)).toNatClampNeg ((v >>> (((8 : Int32) * (0 : Int32)) &&& 31)) &&& (255 : Int32))) mmp mrg mme msn mbg mhd mfo mfi mmy mwa mwn mba mdy mkn mfa mpl men mpg mct mim))) k_M_poke_32 kc_M_poke_32 rfl ⟨trivial, trivial, trivial⟩ ?_
        refine Run.br (tgt := 64) d_M_poke_35 rfl (by decide) (fun c_4 => ?_) (fun c_4 => ?_)
        · exact absurd c_4 (by decide)
        · refine Run.blk (gs := [True, True, True, True, True, True, True, True, True, True, True, True, vp_in ((nI p) + ((0 : Int32) + (1 : Int32))) 900, True]) (S' := ([some (.ref 16), some (.int (nI p)), some (.int (4 : Int32)), some (.int v), some (.int (((0 : Int32) + (1 : Int32)) + (1 : Int32)))], [], Ac fp le lp lb il tf tz bf rfc fr mp sc ifp ib ie pw dh rl rb re sy sb rc sg (Bc (0 : Int32) mfr (nI z) (upd (upd (nif t) ((nI p) + (0 : Int32)).toNatClampNeg ((v >>> (((8 : Int32) * (0 : Int32)) &&& 31)) &&& (255 : Int32))) ((nI p) + ((0 : Int32) + (1 : Int32))).toNatClampNeg ((v >>> (((8 : Int32) * ((0 : Int32) + (1 : Int32))) &&& 31)) &&& (255 : Int32))) mmp mrg mme msn mbg mhd mfo mfi mmy mwa mwn mba mdy mkn mfa mpl men mpg mct mim))) k_M_poke_38 kc_M_poke_38 rfl ⟨trivial, trivial, trivial, trivial, trivial, trivial, trivial, trivial, trivial, trivial, trivial, trivial, (by rw [show ((0 : Int32) + (1 : Int32)) = nI 1 from by decide, nI_add]; exact vp_in_nI (show p + 1 < 900 by omega) (by decide)), trivial, trivial⟩ ?_
          refine Run.goto (tgt := 32) d_M_poke_61 (by decide) ?_
          refine Run.blk (gs := [True, True]) (S' := ([some (.ref 16), some (.int (nI p)), some (.int (4 : Int32)), some (.int v), some (.int (((0 : Int32) + (1 : Int32)) + (1 : Int32)))], [.int (4 : Int32), .int (((0 : Int32) + (1 : Int32)) + (1 : Int32))], Ac fp le lp lb il tf tz bf rfc fr mp sc ifp ib ie pw dh rl rb re sy sb rc sg (Bc (0 : Int32) mfr (nI z) (upd (upd (nif t) ((nI p) + (0 : Int32)).toNatClampNeg ((v >>> (((8 : Int32) * (0 : Int32)) &&& 31)) &&& (255 : Int32))) ((nI p) + ((0 : Int32) + (1 : Int32))).toNatClampNeg ((v >>> (((8 : Int32) * ((0 : Int32) + (1 : Int32))) &&& 31)) &&& (255 : Int32))) mmp mrg mme msn mbg mhd mfo mfi mmy mwa mwn mba mdy mkn mfa mpl men mpg mct mim))) k_M_poke_32 kc_M_poke_32 rfl ⟨trivial, trivial, trivial⟩ ?_
          refine Run.br (tgt := 64) d_M_poke_35 rfl (by decide) (fun c_5 => ?_) (fun c_5 => ?_)
          · exact absurd c_5 (by decide)
          · refine Run.blk (gs := [True, True, True, True, True, True, True, True, True, True, True, True, vp_in ((nI p) + (((0 : Int32) + (1 : Int32)) + (1 : Int32))) 900, True]) (S' := ([some (.ref 16), some (.int (nI p)), some (.int (4 : Int32)), some (.int v), some (.int ((((0 : Int32) + (1 : Int32)) + (1 : Int32)) + (1 : Int32)))], [], Ac fp le lp lb il tf tz bf rfc fr mp sc ifp ib ie pw dh rl rb re sy sb rc sg (Bc (0 : Int32) mfr (nI z) (upd (upd (upd (nif t) ((nI p) + (0 : Int32)).toNatClampNeg ((v >>> (((8 : Int32) * (0 : Int32)) &&& 31)) &&& (255 : Int32))) ((nI p) + ((0 : Int32) + (1 : Int32))).toNatClampNeg ((v >>> (((8 : Int32) * ((0 : Int32) + (1 : Int32))) &&& 31)) &&& (255 : Int32))) ((nI p) + (((0 : Int32) + (1 : Int32)) + (1 : Int32))).toNatClampNeg ((v >>> (((8 : Int32) * (((0 : Int32) + (1 : Int32)) + (1 : Int32))) &&& 31)) &&& (255 : Int32))) mmp mrg mme msn mbg mhd mfo mfi mmy mwa mwn mba mdy mkn mfa mpl men mpg mct mim))) k_M_poke_38 kc_M_poke_38 rfl ⟨trivial, trivial, trivial, trivial, trivial, trivial, trivial, trivial, trivial, trivial, trivial, trivial, (by rw [show (((0 : Int32) + (1 : Int32)) + (1 : Int32)) = nI 2 from by decide, nI_add]; exact vp_in_nI (show p + 2 < 900 by omega) (by decide)), trivial, trivial⟩ ?_
            refine Run.goto (tgt := 32) d_M_poke_61 (by decide) ?_
            refine Run.blk (gs := [True, True]) (S' := ([some (.ref 16), some (.int (nI p)), some (.int (4 : Int32)), some (.int v), some (.int ((((0 : Int32) + (1 : Int32)) + (1 : Int32)) + (1 : Int32)))], [.int (4 : Int32), .int ((((0 : Int32) + (1 : Int32)) + (1 : Int32)) + (1 : Int32))], Ac fp le lp lb il tf tz bf rfc fr mp sc ifp ib ie pw dh rl rb re sy sb rc sg (Bc (0 : Int32) mfr (nI z) (upd (upd (upd (nif t) ((nI p) + (0 : Int32)).toNatClampNeg ((v >>> (((8 : Int32) * (0 : Int32)) &&& 31)) &&& (255 : Int32))) ((nI p) + ((0 : Int32) + (1 : Int32))).toNatClampNeg ((v >>> (((8 : Int32) * ((0 : Int32) + (1 : Int32))) &&& 31)) &&& (255 : Int32))) ((nI p) + (((0 : Int32) + (1 : Int32)) + (1 : Int32))).toNatClampNeg ((v >>> (((8 : Int32) * (((0 : Int32) + (1 : Int32)) + (1 : Int32))) &&& 31)) &&& (255 : Int32))) mmp mrg mme msn mbg mhd mfo mfi mmy mwa mwn mba mdy mkn mfa mpl men mpg mct mim))) k_M_poke_32 kc_M_poke_32 rfl ⟨trivial, trivial, trivial⟩ ?_
            refine Run.br (tgt := 64) d_M_poke_35 rfl (by decide) (fun c_6 => ?_) (fun c_6 => ?_)
            · exact absurd c_6 (by decide)
            · refine Run.blk (gs := [True, True, True, True, True, True, True, True, True, True, True, True, vp_in ((nI p) + ((((0 : Int32) + (1 : Int32)) + (1 : Int32)) + (1 : Int32))) 900, True]) (S' := ([some (.ref 16), some (.int (nI p)), some (.int (4 : Int32)), some (.int v), some (.int (((((0 : Int32) + (1 : Int32)) + (1 : Int32)) + (1 : Int32)) + (1 : Int32)))], [], Ac fp le lp lb il tf tz bf rfc fr mp sc ifp ib ie pw dh rl rb re sy sb rc sg (Bc (0 : Int32) mfr (nI z) (upd (upd (upd (upd (nif t) ((nI p) + (0 : Int32)).toNatClampNeg ((v >>> (((8 : Int32) * (0 : Int32)) &&& 31)) &&& (255 : Int32))) ((nI p) + ((0 : Int32) + (1 : Int32))).toNatClampNeg ((v >>> (((8 : Int32) * ((0 : Int32) + (1 : Int32))) &&& 31)) &&& (255 : Int32))) ((nI p) + (((0 : Int32) + (1 : Int32)) + (1 : Int32))).toNatClampNeg ((v >>> (((8 : Int32) * (((0 : Int32) + (1 : Int32)) + (1 : Int32))) &&& 31)) &&& (255 : Int32))) ((nI p) + ((((0 : Int32) + (1 : Int32)) + (1 : Int32)) + (1 : Int32))).toNatClampNeg ((v >>> (((8 : Int32) * ((((0 : Int32) + (1 : Int32)) + (1 : Int32)) + (1 : Int32))) &&& 31)) &&& (255 : Int32))) mmp mrg mme msn mbg mhd mfo mfi mmy mwa mwn mba mdy mkn mfa mpl men mpg mct mim))) k_M_poke_38 kc_M_poke_38 rfl ⟨trivial, trivial, trivial, trivial, trivial, trivial, trivial, trivial, trivial, trivial, trivial, trivial, (by rw [show ((((0 : Int32) + (1 : Int32)) + (1 : Int32)) + (1 : Int32)) = nI 3 from by decide, nI_add]; exact vp_in_nI (show p + 3 < 900 by omega) (by decide)), trivial, trivial⟩ ?_
              refine Run.goto (tgt := 32) d_M_poke_61 (by decide) ?_
              refine Run.blk (gs := [True, True]) (S' := ([some (.ref 16), some (.int (nI p)), some (.int (4 : Int32)), some (.int v), some (.int (((((0 : Int32) + (1 : Int32)) + (1 : Int32)) + (1 : Int32)) + (1 : Int32)))], [.int (4 : Int32), .int (((((0 : Int32) + (1 : Int32)) + (1 : Int32)) + (1 : Int32)) + (1 : Int32))], Ac fp le lp lb il tf tz bf rfc fr mp sc ifp ib ie pw dh rl rb re sy sb rc sg (Bc (0 : Int32) mfr (nI z) (upd (upd (upd (upd (nif t) ((nI p) + (0 : Int32)).toNatClampNeg ((v >>> (((8 : Int32) * (0 : Int32)) &&& 31)) &&& (255 : Int32))) ((nI p) + ((0 : Int32) + (1 : Int32))).toNatClampNeg ((v >>> (((8 : Int32) * ((0 : Int32) + (1 : Int32))) &&& 31)) &&& (255 : Int32))) ((nI p) + (((0 : Int32) + (1 : Int32)) + (1 : Int32))).toNatClampNeg ((v >>> (((8 : Int32) * (((0 : Int32) + (1 : Int32)) + (1 : Int32))) &&& 31)) &&& (255 : Int32))) ((nI p) + ((((0 : Int32) + (1 : Int32)) + (1 : Int32)) + (1 : Int32))).toNatClampNeg ((v >>> (((8 : Int32) * ((((0 : Int32) + (1 : Int32)) + (1 : Int32)) + (1 : Int32))) &&& 31)) &&& (255 : Int32))) mmp mrg mme msn mbg mhd mfo mfi mmy mwa mwn mba mdy mkn mfa mpl men mpg mct mim))) k_M_poke_32 kc_M_poke_32 rfl ⟨trivial, trivial, trivial⟩ ?_
              refine Run.br (tgt := 64) d_M_poke_35 rfl (by decide) (fun c_7 => ?_) (fun c_7 => ?_)
              · refine Run.blk (gs := [True]) (S' := ([some (.ref 16), some (.int (nI p)), some (.int (4 : Int32)), some (.int v), some (.int (((((0 : Int32) + (1 : Int32)) + (1 : Int32)) + (1 : Int32)) + (1 : Int32)))], [.int (0 : Int32)], Ac fp le lp lb il tf tz bf rfc fr mp sc ifp ib ie pw dh rl rb re sy sb rc sg (Bc (0 : Int32) mfr (nI z) (upd (upd (upd (upd (nif t) ((nI p) + (0 : Int32)).toNatClampNeg ((v >>> (((8 : Int32) * (0 : Int32)) &&& 31)) &&& (255 : Int32))) ((nI p) + ((0 : Int32) + (1 : Int32))).toNatClampNeg ((v >>> (((8 : Int32) * ((0 : Int32) + (1 : Int32))) &&& 31)) &&& (255 : Int32))) ((nI p) + (((0 : Int32) + (1 : Int32)) + (1 : Int32))).toNatClampNeg ((v >>> (((8 : Int32) * (((0 : Int32) + (1 : Int32)) + (1 : Int32))) &&& 31)) &&& (255 : Int32))) ((nI p) + ((((0 : Int32) + (1 : Int32)) + (1 : Int32)) + (1 : Int32))).toNatClampNeg ((v >>> (((8 : Int32) * ((((0 : Int32) + (1 : Int32)) + (1 : Int32)) + (1 : Int32))) &&& 31)) &&& (255 : Int32))) mmp mrg mme msn mbg mhd mfo mfi mmy mwa mwn mba mdy mkn mfa mpl men mpg mct mim))) k_M_poke_64 kc_M_poke_64 rfl ⟨trivial, trivial⟩ ?_
                refine Run.ret (r := some (.int (0 : Int32))) ⟨d_M_poke_65, _, rfl, rfl⟩ ⟨rfl, ?_⟩
                rw [show nI p + (0 : Int32) = nI (p + 0) from by rw [show (0 : Int32) = nI 0 from by decide]; exact nI_add p 0, nI_clamp (show p + 0 < 2 ^ 31 by omega), vsh v (s := (8 : Int32) * (0 : Int32)) (i := 0) (by decide) (by decide), upd_nif]
                rw [show nI p + ((0 : Int32) + (1 : Int32)) = nI (p + 1) from by rw [show ((0 : Int32) + (1 : Int32)) = nI 1 from by decide]; exact nI_add p 1, nI_clamp (show p + 1 < 2 ^ 31 by omega), vsh v (s := (8 : Int32) * ((0 : Int32) + (1 : Int32))) (i := 1) (by decide) (by decide), upd_nif]
                rw [show nI p + (((0 : Int32) + (1 : Int32)) + (1 : Int32)) = nI (p + 2) from by rw [show (((0 : Int32) + (1 : Int32)) + (1 : Int32)) = nI 2 from by decide]; exact nI_add p 2, nI_clamp (show p + 2 < 2 ^ 31 by omega), vsh v (s := (8 : Int32) * (((0 : Int32) + (1 : Int32)) + (1 : Int32))) (i := 2) (by decide) (by decide), upd_nif]
                rw [show nI p + ((((0 : Int32) + (1 : Int32)) + (1 : Int32)) + (1 : Int32)) = nI (p + 3) from by rw [show ((((0 : Int32) + (1 : Int32)) + (1 : Int32)) + (1 : Int32)) = nI 3 from by decide]; exact nI_add p 3, nI_clamp (show p + 3 < 2 ^ 31 by omega), vsh v (s := (8 : Int32) * ((((0 : Int32) + (1 : Int32)) + (1 : Int32)) + (1 : Int32))) (i := 3) (by decide) (by decide), upd_nif]
                rfl
              · exact absurd c_7 (by decide)
    · have c_2 := zi_f (Classical.not_not.mp c_2)
      exfalso; apply c_2; rw [szy hz (by decide) (by decide), t0, nI_toInt (show p < 2 ^ 31 by omega)]; simp only [t1, t2, t4]; omega
end P21
