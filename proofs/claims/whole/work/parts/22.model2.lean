section P22
variable {fp le lp lb il : Int32} {tf bf rf : Nat → Int32} {tz fr mp sc ifp ib ie pw dh rc : Int32} {rl rb re sy sb : Int64} {sg : Nat → A_G} {ex : List va_E}
variable {mth mfr msz msn mwn mba mdy mfa mpl men mpg mct mim : Int32} {mtf mmp mrg mme mfo mfi mmy mwa : Nat → Int32} {mbg mhd mkn : Nat → Int64} {rfc : Nat → Int32}
variable {t b : Nat → Nat} {z n : Nat}
theorem ti63 : (63 : Int32).toInt = 63 := by decide
theorem tiE : (16384 : Int32).toInt = 16384 := by decide
theorem sgn_iff (y : Int32) : 0 ≤ y.toInt ↔ y.toBitVec.msb = false := by
  show (0 : Int) ≤ y.toBitVec.toInt ↔ _
  rw [BitVec.toInt_eq_msb_cond]
  have := y.toBitVec.isLt
  cases h : y.toBitVec.msb with
  | false => simp
  | true => simp; omega
theorem xor_sgn (x : Int32) : 0 ≤ (x ^^^ 256) ↔ 0 ≤ x.toInt := by
  rw [Int32.le_iff_toInt_le, t0, sgn_iff, sgn_iff, Int32.toBitVec_xor, BitVec.msb_xor]
  have : (256 : Int32).toBitVec.msb = false := by decide
  rw [this]; simp
theorem fd_pos {p : Nat} (hp : p < 2 ^ 31) : f_J_floorDiv (nI p) 256 = nI (p / 256) := by
  unfold f_J_floorDiv
  rw [if_pos ((xor_sgn _).mpr (by rw [nI_toInt hp]; omega))]
  exact pk_div (d := 256) hp (by decide) (by decide)
theorem td_toInt (x : Int32) : (x / 256).toInt = x.toInt.tdiv 256 := by
  rw [Int32.toInt_div, show (256 : Int32).toInt = 256 by decide]
  have h1 := i32_r x
  have h2 : x.toInt.tdiv 256 ≤ x.toInt.natAbs ∧ -(x.toInt.natAbs : Int) ≤ x.toInt.tdiv 256 := by
    have := Int.natAbs_tdiv_le_natAbs x.toInt 256
    omega
  have h3 : -2 ^ 24 ≤ x.toInt.tdiv 256 ∧ x.toInt.tdiv 256 ≤ 2 ^ 24 := by
    by_cases hx : 0 ≤ x.toInt
    · rw [Int.tdiv_eq_ediv_of_nonneg hx]; omega
    · have e : x.toInt.tdiv 256 = -((-x.toInt).tdiv 256) := by rw [Int.neg_tdiv]; omega
      rw [e, Int.tdiv_eq_ediv_of_nonneg (by omega)]; omega
  simp only [Int.bmod]
  split <;> omega
theorem fd_neg {x : Int32} (h : x.toInt < 0) : (f_J_floorDiv x 256).toInt < 0 := by
  have hr := i32_r x
  have e : x.toInt.tdiv 256 = -((-x.toInt).tdiv 256) := by rw [Int.neg_tdiv]; omega
  have e2 : (-x.toInt).tdiv 256 = (-x.toInt) / 256 := Int.tdiv_eq_ediv_of_nonneg (by omega)
  unfold f_J_floorDiv
  rw [if_neg (fun q => absurd ((xor_sgn x).mp q) (by omega))]
  have hq := td_toInt x
  by_cases hm : x / 256 * 256 = x
  · rw [if_pos hm, hq]
    by_cases h0 : x / 256 = 0
    · rw [h0] at hm
      have : x = 0 := by rw [← hm]; decide
      rw [this] at h; exact absurd h (by decide)
    · have : ¬ (x / 256).toInt = 0 := fun q => h0 (Int32.toInt_inj.mp (by rw [q]; decide))
      omega
  · rw [if_neg hm, i32_sub (by omega) (by omega) (by decide) (by decide), t1]
    omega
theorem rO_out {rf : Nat → Int32} {x : Int32} (h : ¬ (0 ≤ x.toInt ∧ x.toInt < 64)) : rO rf x = -1 := if_neg h
theorem rO_fd {rf : Nat → Int32} {x : Int32} (h : ¬ (0 ≤ x.toInt ∧ x.toInt < 16384)) : rO rf (f_J_floorDiv x 256) = -1 := by
  apply rO_out
  by_cases hx : x.toInt < 0
  · have := fd_neg hx; omega
  · obtain ⟨j, hj, rfl⟩ := nI_of (x := x) (by rw [Int32.lt_iff_toInt_lt, t0]; exact hx)
    rw [nI_toInt hj] at h
    rw [fd_pos hj, nI_toInt (by omega)]; omega
theorem al_1 (x : Int32) : (x - x / 1 * 1 = 0) ↔ (x &&& (1 - 1) = 0) := by
  rw [← Int32.toInt_inj, rem_toInt, t1, t0, show ((1 : Int32) - 1) = nI (2 ^ 0 - 1) from by decide, pk_and x (m := nI (2 ^ 0 - 1)) 0 (by decide)]
  simp [Nat.mod_one, nI_0]
theorem al_pw (x : Int32) (k : Nat) (m : Int32) (N : Int32) (hk : 1 ≤ k ∧ k ≤ 2) (hN : N.toInt = 2 ^ k) (hm : N - 1 = m) (hb : m.toBitVec.toNat = 2 ^ k - 1) : (x - x / N * N = 0) ↔ (x &&& (N - 1) = 0) := by
  obtain ⟨h1, h2⟩ := hk
  have hk2 : k = 1 ∨ k = 2 := by omega
  have hlt : x.toBitVec.toNat % 2 ^ k < 2 ^ 31 := by
    have := Nat.mod_lt x.toBitVec.toNat (show 0 < 2 ^ k from Nat.two_pow_pos k)
    rcases hk2 with rfl | rfl
    · omega
    · omega
  rw [← Int32.toInt_inj, rem_toInt, hN, t0, hm, pk_and x k hb, nI_eq0 hlt]
  have h : x.toInt = (x.toBitVec.toNat : Int) - (if x.toBitVec.msb then 4294967296 else 0) := by
    show x.toBitVec.toInt = _
    rw [BitVec.toInt_eq_msb_cond]
    cases x.toBitVec.msb <;> simp
  rw [← Int.dvd_iff_tmod_eq_zero, h]
  rcases hk2 with rfl | rfl
  · split <;> omega
  · split <;> omega
theorem al_2 (x : Int32) : (x - x / 2 * 2 = 0) ↔ (x &&& (2 - 1) = 0) := al_pw x 1 1 2 (by decide) (by decide) (by decide) (by decide)
theorem al_4 (x : Int32) : (x - x / 4 * 4 = 0) ↔ (x &&& (4 - 1) = 0) := al_pw x 2 3 4 (by decide) (by decide) (by decide) (by decide)
theorem a0 (x : Int32) : x + 0 = x := Int32.add_zero x
set_option maxRecDepth 100000 in
set_option maxHeartbeats 4000000 in
theorem c_M_isPage (x : Int32) : Ct m_M_isPage 0 0 [.int x] (Ac fp le lp lb il tf tz bf rfc fr mp sc ifp ib ie pw dh rl rb re sy sb rc sg (Bc mth mfr msz mtf mmp mrg mme msn mbg mhd mfo mfi mmy mwa mwn mba mdy mkn mfa mpl men mpg mct mim)) (vm_is (some (.int (if 0 ≤ x.toInt ∧ x.toInt < 64 then 1 else 0))) (Ac fp le lp lb il tf tz bf rfc fr mp sc ifp ib ie pw dh rl rb re sy sb rc sg (Bc mth mfr msz mtf mmp mrg mme msn mbg mhd mfo mfi mmy mwa mwn mba mdy mkn mfa mpl men mpg mct mim))) := by
  refine Ct.of ⟨by decide +kernel, rfl⟩ (Nat.le_of_ble_eq_true rfl) (lv := [some (.int x)]) rfl ?_
  refine Run.blk (gs := [True, True, True]) (S' := ([some (.int x)], [.int (63 : Int32), .int (0 : Int32), .int x], Ac fp le lp lb il tf tz bf rfc fr mp sc ifp ib ie pw dh rl rb re sy sb rc sg (Bc mth mfr msz mtf mmp mrg mme msn mbg mhd mfo mfi mmy mwa mwn mba mdy mkn mfa mpl men mpg mct mim))) k_M_isPage_0 kc_M_isPage_0 rfl ⟨trivial, trivial, trivial, trivial⟩ ?_
  refine Run.callS (As := [.int x, .int (0 : Int32), .int (63 : Int32)]) (rest := []) v_M_isPage_4 (c_M_in x (0 : Int32) (63 : Int32)) rfl (Nat.le_of_ble_eq_true rfl) rfl (fun r cs' hp => ?_)
  obtain ⟨rfl, rfl⟩ := hp
  show Run _ _ _ _ 7 ([some (.int x)], [.int (if (0 : Int32).toInt ≤ x.toInt ∧ x.toInt ≤ (63 : Int32).toInt then 1 else 0)], Ac fp le lp lb il tf tz bf rfc fr mp sc ifp ib ie pw dh rl rb re sy sb rc sg (Bc mth mfr msz mtf mmp mrg mme msn mbg mhd mfo mfi mmy mwa mwn mba mdy mkn mfa mpl men mpg mct mim)) _
  exact Run.ret (r := some (.int (if (0 : Int32).toInt ≤ x.toInt ∧ x.toInt ≤ (63 : Int32).toInt then 1 else 0))) ⟨d_M_isPage_7, _, rfl, zi_n⟩ ⟨congrArg (fun y => some (Value.int y)) (ite_congr (propext (by rw [t0, ti63]; omega)) (fun _ => rfl) (fun _ => rfl)), rfl⟩
set_option maxRecDepth 100000 in
set_option maxHeartbeats 4000000 in
theorem l_M_mappedPages (hR : Rm rf mmp mrg) : ∀ (k i : Nat) (f v : Int32), v = nI i → f = nI (cntM rf 0 i) → i + k = 64 → Run m_M_mappedPages n 0 0 4 ([some (.ref 16), some (.int f), some (.int v)], [], Ac fp le lp lb il tf tz bf rfc fr mp sc ifp ib ie pw dh rl rb re sy sb rc sg (Bc mth mfr msz mtf mmp mrg mme msn mbg mhd mfo mfi mmy mwa mwn mba mdy mkn mfa mpl men mpg mct mim)) (vm_is (some (.int (nI (cntM rf 0 64)))) (Ac fp le lp lb il tf tz bf rfc fr mp sc ifp ib ie pw dh rl rb re sy sb rc sg (Bc mth mfr msz mtf mmp mrg mme msn mbg mhd mfo mfi mmy mwa mwn mba mdy mkn mfa mpl men mpg mct mim)))
  | 0, i, f, v, hv, hf, h => by
    obtain rfl : i = 64 := by omega
    refine Run.blk (gs := [True, True]) (S' := ([some (.ref 16), some (.int f), some (.int v)], [.int (64 : Int32), .int v], Ac fp le lp lb il tf tz bf rfc fr mp sc ifp ib ie pw dh rl rb re sy sb rc sg (Bc mth mfr msz mtf mmp mrg mme msn mbg mhd mfo mfi mmy mwa mwn mba mdy mkn mfa mpl men mpg mct mim))) k_M_mappedPages_4 kc_M_mappedPages_4 rfl ⟨trivial, trivial, trivial⟩ ?_
    refine Run.br (tgt := 33) d_M_mappedPages_7 rfl (by decide) (fun c_1 => ?_) (fun c_1 => ?_)
    · refine Run.blk (gs := [True]) (S' := ([some (.ref 16), some (.int f), some (.int v)], [.int f], Ac fp le lp lb il tf tz bf rfc fr mp sc ifp ib ie pw dh rl rb re sy sb rc sg (Bc mth mfr msz mtf mmp mrg mme msn mbg mhd mfo mfi mmy mwa mwn mba mdy mkn mfa mpl men mpg mct mim))) k_M_mappedPages_33 kc_M_mappedPages_33 rfl ⟨trivial, trivial⟩ ?_
      exact Run.ret (r := some (.int f)) ⟨d_M_mappedPages_34, _, rfl, rfl⟩ ⟨by rw [hf], rfl⟩
    · exact absurd (by rw [hv]; exact Int32.le_refl _) c_1
  | k + 1, i, f, v, hv, hf, h => by
    refine Run.blk (gs := [True, True]) (S' := ([some (.ref 16), some (.int f), some (.int v)], [.int (64 : Int32), .int v], Ac fp le lp lb il tf tz bf rfc fr mp sc ifp ib ie pw dh rl rb re sy sb rc sg (Bc mth mfr msz mtf mmp mrg mme msn mbg mhd mfo mfi mmy mwa mwn mba mdy mkn mfa mpl men mpg mct mim))) k_M_mappedPages_4 kc_M_mappedPages_4 rfl ⟨trivial, trivial, trivial⟩ ?_
    refine Run.br (tgt := 33) d_M_mappedPages_7 rfl (by decide) (fun c_1 => ?_) (fun c_1 => ?_)
    · exact absurd c_1 (by rw [hv]; exact nI_ge (show i < 64 by omega) (by decide))
    · refine Run.blk (gs := [True, True, True, True, vp_in v 64]) (S' := ([some (.ref 16), some (.int f), some (.int v)], [.int (mmp v.toNatClampNeg), .int f], Ac fp le lp lb il tf tz bf rfc fr mp sc ifp ib ie pw dh rl rb re sy sb rc sg (Bc mth mfr msz mtf mmp mrg mme msn mbg mhd mfo mfi mmy mwa mwn mba mdy mkn mfa mpl men mpg mct mim))) k_M_mappedPages_10 kc_M_mappedPages_10 rfl ⟨trivial, trivial, trivial, trivial, (by rw [hv]; exact vp_in_nI (show i < 64 by omega) (by decide)), trivial⟩ ?_
      refine Run.br (tgt := 24) d_M_mappedPages_17 rfl (by decide) (fun c_2 => ?_) (fun c_2 => ?_)
      · rw [hv, nI_clamp (by omega), hR.m0 (by omega)] at c_2
        refine Run.blk (gs := [True]) (S' := ([some (.ref 16), some (.int f), some (.int v)], [.int (0 : Int32), .int f], Ac fp le lp lb il tf tz bf rfc fr mp sc ifp ib ie pw dh rl rb re sy sb rc sg (Bc mth mfr msz mtf mmp mrg mme msn mbg mhd mfo mfi mmy mwa mwn mba mdy mkn mfa mpl men mpg mct mim))) k_M_mappedPages_24 kc_M_mappedPages_24 rfl ⟨trivial, trivial⟩ ?_
        refine Run.blk (gs := [True, True, True]) (S' := ([some (.ref 16), some (.int (f + (0 : Int32))), some (.int (v + (1 : Int32)))], [], Ac fp le lp lb il tf tz bf rfc fr mp sc ifp ib ie pw dh rl rb re sy sb rc sg (Bc mth mfr msz mtf mmp mrg mme msn mbg mhd mfo mfi mmy mwa mwn mba mdy mkn mfa mpl men mpg mct mim))) k_M_mappedPages_25 kc_M_mappedPages_25 rfl ⟨trivial, trivial, trivial, trivial⟩ ?_
        refine Run.goto (tgt := 4) d_M_mappedPages_30 (by decide) ?_
        exact l_M_mappedPages hR k (i + 1) _ _ (by rw [hv, nI_1]) (by rw [hf, a0, cntM, Nat.zero_add, if_pos c_2]; rfl) (by omega)
      · rw [hv, nI_clamp (by omega), hR.m0 (by omega)] at c_2
        refine Run.blk (gs := [True]) (S' := ([some (.ref 16), some (.int f), some (.int v)], [.int (1 : Int32), .int f], Ac fp le lp lb il tf tz bf rfc fr mp sc ifp ib ie pw dh rl rb re sy sb rc sg (Bc mth mfr msz mtf mmp mrg mme msn mbg mhd mfo mfi mmy mwa mwn mba mdy mkn mfa mpl men mpg mct mim))) k_M_mappedPages_20 kc_M_mappedPages_20 rfl ⟨trivial, trivial⟩ ?_
        refine Run.goto (tgt := 25) d_M_mappedPages_21 (by decide) ?_
        refine Run.blk (gs := [True, True, True]) (S' := ([some (.ref 16), some (.int (f + (1 : Int32))), some (.int (v + (1 : Int32)))], [], Ac fp le lp lb il tf tz bf rfc fr mp sc ifp ib ie pw dh rl rb re sy sb rc sg (Bc mth mfr msz mtf mmp mrg mme msn mbg mhd mfo mfi mmy mwa mwn mba mdy mkn mfa mpl men mpg mct mim))) k_M_mappedPages_25 kc_M_mappedPages_25 rfl ⟨trivial, trivial, trivial, trivial⟩ ?_
        refine Run.goto (tgt := 4) d_M_mappedPages_30 (by decide) ?_
        exact l_M_mappedPages hR k (i + 1) _ _ (by rw [hv, nI_1]) (by rw [hf, nI_1, cntM, Nat.zero_add, if_neg c_2]) (by omega)
set_option maxRecDepth 100000 in
set_option maxHeartbeats 4000000 in
theorem c_M_mappedPages (hR : Rm rf mmp mrg) : Ct m_M_mappedPages 0 0 [.ref 16] (Ac fp le lp lb il tf tz bf rfc fr mp sc ifp ib ie pw dh rl rb re sy sb rc sg (Bc mth mfr msz mtf mmp mrg mme msn mbg mhd mfo mfi mmy mwa mwn mba mdy mkn mfa mpl men mpg mct mim)) (vm_is (some (.int (nI (cntM rf 0 64)))) (Ac fp le lp lb il tf tz bf rfc fr mp sc ifp ib ie pw dh rl rb re sy sb rc sg (Bc mth mfr msz mtf mmp mrg mme msn mbg mhd mfo mfi mmy mwa mwn mba mdy mkn mfa mpl men mpg mct mim))) := by
  refine Ct.of ⟨by decide +kernel, rfl⟩ (Nat.le_of_ble_eq_true rfl) (lv := [some (.ref 16), none, none]) rfl ?_
  refine Run.blk (gs := [True, True, True, True]) (S' := ([some (.ref 16), some (.int (0 : Int32)), some (.int (0 : Int32))], [], Ac fp le lp lb il tf tz bf rfc fr mp sc ifp ib ie pw dh rl rb re sy sb rc sg (Bc mth mfr msz mtf mmp mrg mme msn mbg mhd mfo mfi mmy mwa mwn mba mdy mkn mfa mpl men mpg mct mim))) k_M_mappedPages_0 kc_M_mappedPages_0 rfl ⟨trivial, trivial, trivial, trivial, trivial⟩ ?_
  exact l_M_mappedPages hR 64 0 _ _ rfl rfl rfl
set_option maxRecDepth 100000 in
set_option maxHeartbeats 4000000 in
theorem l_M_with {r : Int32} (hR : Rm rf mmp mrg) : ∀ (k i : Nat) (f v : Int32), v = nI i → f = nI (pwC rf r i) → i + k = 64 → Run m_M_with n 0 0 4 ([some (.ref 16), some (.int r), some (.int f), some (.int v)], [], Ac fp le lp lb il tf tz bf rfc fr mp sc ifp ib ie pw dh rl rb re sy sb rc sg (Bc mth mfr msz mtf mmp mrg mme msn mbg mhd mfo mfi mmy mwa mwn mba mdy mkn mfa mpl men mpg mct mim)) (vm_is (some (.int (nI (pwC rf r 64)))) (Ac fp le lp lb il tf tz bf rfc fr mp sc ifp ib ie pw dh rl rb re sy sb rc sg (Bc mth mfr msz mtf mmp mrg mme msn mbg mhd mfo mfi mmy mwa mwn mba mdy mkn mfa mpl men mpg mct mim)))
  | 0, i, f, v, hv, hf, h => by
    obtain rfl : i = 64 := by omega
    refine Run.blk (gs := [True, True]) (S' := ([some (.ref 16), some (.int r), some (.int f), some (.int v)], [.int (64 : Int32), .int v], Ac fp le lp lb il tf tz bf rfc fr mp sc ifp ib ie pw dh rl rb re sy sb rc sg (Bc mth mfr msz mtf mmp mrg mme msn mbg mhd mfo mfi mmy mwa mwn mba mdy mkn mfa mpl men mpg mct mim))) k_M_with_4 kc_M_with_4 rfl ⟨trivial, trivial, trivial⟩ ?_
    refine Run.br (tgt := 44) d_M_with_7 rfl (by decide) (fun c_1 => ?_) (fun c_1 => ?_)
    · refine Run.blk (gs := [True]) (S' := ([some (.ref 16), some (.int r), some (.int f), some (.int v)], [.int f], Ac fp le lp lb il tf tz bf rfc fr mp sc ifp ib ie pw dh rl rb re sy sb rc sg (Bc mth mfr msz mtf mmp mrg mme msn mbg mhd mfo mfi mmy mwa mwn mba mdy mkn mfa mpl men mpg mct mim))) k_M_with_44 kc_M_with_44 rfl ⟨trivial, trivial⟩ ?_
      exact Run.ret (r := some (.int f)) ⟨d_M_with_45, _, rfl, rfl⟩ ⟨by rw [hf], rfl⟩
    · exact absurd (by rw [hv]; exact Int32.le_refl _) c_1
  | k + 1, i, f, v, hv, hf, h => by
    refine Run.blk (gs := [True, True]) (S' := ([some (.ref 16), some (.int r), some (.int f), some (.int v)], [.int (64 : Int32), .int v], Ac fp le lp lb il tf tz bf rfc fr mp sc ifp ib ie pw dh rl rb re sy sb rc sg (Bc mth mfr msz mtf mmp mrg mme msn mbg mhd mfo mfi mmy mwa mwn mba mdy mkn mfa mpl men mpg mct mim))) k_M_with_4 kc_M_with_4 rfl ⟨trivial, trivial, trivial⟩ ?_
    refine Run.br (tgt := 44) d_M_with_7 rfl (by decide) (fun c_1 => ?_) (fun c_1 => ?_)
    · exact absurd c_1 (by rw [hv]; exact nI_ge (show i < 64 by omega) (by decide))
    · refine Run.blk (gs := [True, True, True, True, vp_in v 64]) (S' := ([some (.ref 16), some (.int r), some (.int f), some (.int v)], [.int (mmp v.toNatClampNeg), .int f], Ac fp le lp lb il tf tz bf rfc fr mp sc ifp ib ie pw dh rl rb re sy sb rc sg (Bc mth mfr msz mtf mmp mrg mme msn mbg mhd mfo mfi mmy mwa mwn mba mdy mkn mfa mpl men mpg mct mim))) k_M_with_10 kc_M_with_10 rfl ⟨trivial, trivial, trivial, trivial, (by rw [hv]; exact vp_in_nI (show i < 64 by omega) (by decide)), trivial⟩ ?_
      refine Run.br (tgt := 35) d_M_with_17 rfl (by decide) (fun c_2 => ?_) (fun c_2 => ?_)
      · rw [hv, nI_clamp (by omega), hR.m0 (by omega)] at c_2
        refine Run.blk (gs := [True]) (S' := ([some (.ref 16), some (.int r), some (.int f), some (.int v)], [.int (0 : Int32), .int f], Ac fp le lp lb il tf tz bf rfc fr mp sc ifp ib ie pw dh rl rb re sy sb rc sg (Bc mth mfr msz mtf mmp mrg mme msn mbg mhd mfo mfi mmy mwa mwn mba mdy mkn mfa mpl men mpg mct mim))) k_M_with_35 kc_M_with_35 rfl ⟨trivial, trivial⟩ ?_
        refine Run.blk (gs := [True, True, True]) (S' := ([some (.ref 16), some (.int r), some (.int (f + (0 : Int32))), some (.int (v + (1 : Int32)))], [], Ac fp le lp lb il tf tz bf rfc fr mp sc ifp ib ie pw dh rl rb re sy sb rc sg (Bc mth mfr msz mtf mmp mrg mme msn mbg mhd mfo mfi mmy mwa mwn mba mdy mkn mfa mpl men mpg mct mim))) k_M_with_36 kc_M_with_36 rfl ⟨trivial, trivial, trivial, trivial⟩ ?_
        refine Run.goto (tgt := 4) d_M_with_41 (by decide) ?_
        exact l_M_with hR k (i + 1) _ _ (by rw [hv, nI_1]) (by rw [hf, a0, pwC, if_pos c_2]; rfl) (by omega)
      · rw [hv, nI_clamp (by omega), hR.m0 (by omega)] at c_2
        refine Run.blk (gs := [True, True, True, vp_in v 64, True, True]) (S' := ([some (.ref 16), some (.int r), some (.int f), some (.int v)], [.int ((mrg v.toNatClampNeg) &&& r), .int f], Ac fp le lp lb il tf tz bf rfc fr mp sc ifp ib ie pw dh rl rb re sy sb rc sg (Bc mth mfr msz mtf mmp mrg mme msn mbg mhd mfo mfi mmy mwa mwn mba mdy mkn mfa mpl men mpg mct mim))) k_M_with_20 kc_M_with_20 rfl ⟨trivial, trivial, trivial, (by rw [hv]; exact vp_in_nI (show i < 64 by omega) (by decide)), trivial, trivial, trivial⟩ ?_
        refine Run.br (tgt := 35) d_M_with_28 rfl (by decide) (fun c_3 => ?_) (fun c_3 => ?_)
        · rw [hv, nI_clamp (by omega), hR.r (by omega) c_2] at c_3
          refine Run.blk (gs := [True]) (S' := ([some (.ref 16), some (.int r), some (.int f), some (.int v)], [.int (0 : Int32), .int f], Ac fp le lp lb il tf tz bf rfc fr mp sc ifp ib ie pw dh rl rb re sy sb rc sg (Bc mth mfr msz mtf mmp mrg mme msn mbg mhd mfo mfi mmy mwa mwn mba mdy mkn mfa mpl men mpg mct mim))) k_M_with_35 kc_M_with_35 rfl ⟨trivial, trivial⟩ ?_
          refine Run.blk (gs := [True, True, True]) (S' := ([some (.ref 16), some (.int r), some (.int (f + (0 : Int32))), some (.int (v + (1 : Int32)))], [], Ac fp le lp lb il tf tz bf rfc fr mp sc ifp ib ie pw dh rl rb re sy sb rc sg (Bc mth mfr msz mtf mmp mrg mme msn mbg mhd mfo mfi mmy mwa mwn mba mdy mkn mfa mpl men mpg mct mim))) k_M_with_36 kc_M_with_36 rfl ⟨trivial, trivial, trivial, trivial⟩ ?_
          refine Run.goto (tgt := 4) d_M_with_41 (by decide) ?_
          exact l_M_with hR k (i + 1) _ _ (by rw [hv, nI_1]) (by rw [hf, a0, pwC, if_neg c_2, if_pos c_3]; rfl) (by omega)
        · rw [hv, nI_clamp (by omega), hR.r (by omega) c_2] at c_3
          refine Run.blk (gs := [True]) (S' := ([some (.ref 16), some (.int r), some (.int f), some (.int v)], [.int (1 : Int32), .int f], Ac fp le lp lb il tf tz bf rfc fr mp sc ifp ib ie pw dh rl rb re sy sb rc sg (Bc mth mfr msz mtf mmp mrg mme msn mbg mhd mfo mfi mmy mwa mwn mba mdy mkn mfa mpl men mpg mct mim))) k_M_with_31 kc_M_with_31 rfl ⟨trivial, trivial⟩ ?_
          refine Run.goto (tgt := 36) d_M_with_32 (by decide) ?_
          refine Run.blk (gs := [True, True, True]) (S' := ([some (.ref 16), some (.int r), some (.int (f + (1 : Int32))), some (.int (v + (1 : Int32)))], [], Ac fp le lp lb il tf tz bf rfc fr mp sc ifp ib ie pw dh rl rb re sy sb rc sg (Bc mth mfr msz mtf mmp mrg mme msn mbg mhd mfo mfi mmy mwa mwn mba mdy mkn mfa mpl men mpg mct mim))) k_M_with_36 kc_M_with_36 rfl ⟨trivial, trivial, trivial, trivial⟩ ?_
          refine Run.goto (tgt := 4) d_M_with_41 (by decide) ?_
          exact l_M_with hR k (i + 1) _ _ (by rw [hv, nI_1]) (by rw [hf, nI_1, pwC, if_neg c_2, if_neg c_3]) (by omega)
set_option maxRecDepth 100000 in
set_option maxHeartbeats 4000000 in
theorem c_M_with {r : Int32} (hR : Rm rf mmp mrg) : Ct m_M_with 0 0 [.ref 16, .int r] (Ac fp le lp lb il tf tz bf rfc fr mp sc ifp ib ie pw dh rl rb re sy sb rc sg (Bc mth mfr msz mtf mmp mrg mme msn mbg mhd mfo mfi mmy mwa mwn mba mdy mkn mfa mpl men mpg mct mim)) (vm_is (some (.int (nI (pwC rf r 64)))) (Ac fp le lp lb il tf tz bf rfc fr mp sc ifp ib ie pw dh rl rb re sy sb rc sg (Bc mth mfr msz mtf mmp mrg mme msn mbg mhd mfo mfi mmy mwa mwn mba mdy mkn mfa mpl men mpg mct mim))) := by
  refine Ct.of ⟨by decide +kernel, rfl⟩ (Nat.le_of_ble_eq_true rfl) (lv := [some (.ref 16), some (.int r), none, none]) rfl ?_
  refine Run.blk (gs := [True, True, True, True]) (S' := ([some (.ref 16), some (.int r), some (.int (0 : Int32)), some (.int (0 : Int32))], [], Ac fp le lp lb il tf tz bf rfc fr mp sc ifp ib ie pw dh rl rb re sy sb rc sg (Bc mth mfr msz mtf mmp mrg mme msn mbg mhd mfo mfi mmy mwa mwn mba mdy mkn mfa mpl men mpg mct mim))) k_M_with_0 kc_M_with_0 rfl ⟨trivial, trivial, trivial, trivial, trivial⟩ ?_
  exact l_M_with hR 64 0 _ _ rfl rfl rfl
set_option maxRecDepth 100000 in
set_option maxHeartbeats 4000000 in
theorem c_M_told_0  : Ct m_M_told 0 0 [.ref 16, .int (0 : Int32)] (Ac fp le lp lb il tf tz bf rfc fr mp sc ifp ib ie pw dh rl rb re sy sb rc sg (Bc mth mfr msz mtf mmp mrg mme msn mbg mhd mfo mfi mmy mwa mwn mba mdy mkn mfa mpl men mpg mct mim)) (vm_is (some (.int mpl)) (Ac fp le lp lb il tf tz bf rfc fr mp sc ifp ib ie pw dh rl rb re sy sb rc sg (Bc (0 : Int32) mfr msz mtf mmp mrg mme msn mbg mhd mfo mfi mmy mwa mwn mba mdy mkn mfa mpl men mpg mct mim))) := by
  refine Ct.of ⟨by decide +kernel, rfl⟩ (Nat.le_of_ble_eq_true rfl) (lv := [some (.ref 16), some (.int (0 : Int32))]) rfl ?_
  refine Run.blk (gs := [True, True, True, True]) (S' := ([some (.ref 16), some (.int (0 : Int32))], [.int (0 : Int32)], Ac fp le lp lb il tf tz bf rfc fr mp sc ifp ib ie pw dh rl rb re sy sb rc sg (Bc (0 : Int32) mfr msz mtf mmp mrg mme msn mbg mhd mfo mfi mmy mwa mwn mba mdy mkn mfa mpl men mpg mct mim))) k_M_told_0 kc_M_told_0 rfl ⟨trivial, trivial, trivial, trivial, trivial⟩ ?_
  refine Run.br (tgt := 16) d_M_told_6 rfl (by decide) (fun c_1 => ?_) (fun c_1 => ?_)
  · exact absurd c_1 (by decide)
  · have c_1 := Classical.not_not.mp c_1
    refine Run.blk (gs := [True, True]) (S' := ([some (.ref 16), some (.int (0 : Int32))], [.int mpl], Ac fp le lp lb il tf tz bf rfc fr mp sc ifp ib ie pw dh rl rb re sy sb rc sg (Bc (0 : Int32) mfr msz mtf mmp mrg mme msn mbg mhd mfo mfi mmy mwa mwn mba mdy mkn mfa mpl men mpg mct mim))) k_M_told_9 kc_M_told_9 rfl ⟨trivial, trivial, trivial⟩ ?_
    refine Run.goto (tgt := 54) d_M_told_13 (by decide) ?_
    exact Run.ret (r := some (.int mpl)) ⟨d_M_told_54, _, rfl, rfl⟩ ⟨rfl, rfl⟩
set_option maxRecDepth 100000 in
set_option maxHeartbeats 4000000 in
theorem c_M_told_1  : Ct m_M_told 0 0 [.ref 16, .int (1 : Int32)] (Ac fp le lp lb il tf tz bf rfc fr mp sc ifp ib ie pw dh rl rb re sy sb rc sg (Bc mth mfr msz mtf mmp mrg mme msn mbg mhd mfo mfi mmy mwa mwn mba mdy mkn mfa mpl men mpg mct mim)) (vm_is (some (.int men)) (Ac fp le lp lb il tf tz bf rfc fr mp sc ifp ib ie pw dh rl rb re sy sb rc sg (Bc (0 : Int32) mfr msz mtf mmp mrg mme msn mbg mhd mfo mfi mmy mwa mwn mba mdy mkn mfa mpl men mpg mct mim))) := by
  refine Ct.of ⟨by decide +kernel, rfl⟩ (Nat.le_of_ble_eq_true rfl) (lv := [some (.ref 16), some (.int (1 : Int32))]) rfl ?_
  refine Run.blk (gs := [True, True, True, True]) (S' := ([some (.ref 16), some (.int (1 : Int32))], [.int (1 : Int32)], Ac fp le lp lb il tf tz bf rfc fr mp sc ifp ib ie pw dh rl rb re sy sb rc sg (Bc (0 : Int32) mfr msz mtf mmp mrg mme msn mbg mhd mfo mfi mmy mwa mwn mba mdy mkn mfa mpl men mpg mct mim))) k_M_told_0 kc_M_told_0 rfl ⟨trivial, trivial, trivial, trivial, trivial⟩ ?_
  refine Run.br (tgt := 16) d_M_told_6 rfl (by decide) (fun c_1 => ?_) (fun c_1 => ?_)
  · refine Run.blk (gs := [True, True]) (S' := ([some (.ref 16), some (.int (1 : Int32))], [.int (1 : Int32), .int (1 : Int32)], Ac fp le lp lb il tf tz bf rfc fr mp sc ifp ib ie pw dh rl rb re sy sb rc sg (Bc (0 : Int32) mfr msz mtf mmp mrg mme msn mbg mhd mfo mfi mmy mwa mwn mba mdy mkn mfa mpl men mpg mct mim))) k_M_told_16 kc_M_told_16 rfl ⟨trivial, trivial, trivial⟩ ?_
    refine Run.br (tgt := 28) d_M_told_18 rfl (by decide) (fun c_2 => ?_) (fun c_2 => ?_)
    · exact absurd c_2 (by decide)
    · have c_2 := Classical.not_not.mp c_2
      refine Run.blk (gs := [True, True]) (S' := ([some (.ref 16), some (.int (1 : Int32))], [.int men], Ac fp le lp lb il tf tz bf rfc fr mp sc ifp ib ie pw dh rl rb re sy sb rc sg (Bc (0 : Int32) mfr msz mtf mmp mrg mme msn mbg mhd mfo mfi mmy mwa mwn mba mdy mkn mfa mpl men mpg mct mim))) k_M_told_21 kc_M_told_21 rfl ⟨trivial, trivial, trivial⟩ ?_
      refine Run.goto (tgt := 54) d_M_told_25 (by decide) ?_
      exact Run.ret (r := some (.int men)) ⟨d_M_told_54, _, rfl, rfl⟩ ⟨rfl, rfl⟩
  · have c_1 := Classical.not_not.mp c_1
    exact absurd c_1 (by decide)
set_option maxRecDepth 100000 in
set_option maxHeartbeats 4000000 in
theorem c_M_told_2  : Ct m_M_told 0 0 [.ref 16, .int (2 : Int32)] (Ac fp le lp lb il tf tz bf rfc fr mp sc ifp ib ie pw dh rl rb re sy sb rc sg (Bc mth mfr msz mtf mmp mrg mme msn mbg mhd mfo mfi mmy mwa mwn mba mdy mkn mfa mpl men mpg mct mim)) (vm_is (some (.int mpg)) (Ac fp le lp lb il tf tz bf rfc fr mp sc ifp ib ie pw dh rl rb re sy sb rc sg (Bc (0 : Int32) mfr msz mtf mmp mrg mme msn mbg mhd mfo mfi mmy mwa mwn mba mdy mkn mfa mpl men mpg mct mim))) := by
  refine Ct.of ⟨by decide +kernel, rfl⟩ (Nat.le_of_ble_eq_true rfl) (lv := [some (.ref 16), some (.int (2 : Int32))]) rfl ?_
  refine Run.blk (gs := [True, True, True, True]) (S' := ([some (.ref 16), some (.int (2 : Int32))], [.int (2 : Int32)], Ac fp le lp lb il tf tz bf rfc fr mp sc ifp ib ie pw dh rl rb re sy sb rc sg (Bc (0 : Int32) mfr msz mtf mmp mrg mme msn mbg mhd mfo mfi mmy mwa mwn mba mdy mkn mfa mpl men mpg mct mim))) k_M_told_0 kc_M_told_0 rfl ⟨trivial, trivial, trivial, trivial, trivial⟩ ?_
  refine Run.br (tgt := 16) d_M_told_6 rfl (by decide) (fun c_1 => ?_) (fun c_1 => ?_)
  · refine Run.blk (gs := [True, True]) (S' := ([some (.ref 16), some (.int (2 : Int32))], [.int (1 : Int32), .int (2 : Int32)], Ac fp le lp lb il tf tz bf rfc fr mp sc ifp ib ie pw dh rl rb re sy sb rc sg (Bc (0 : Int32) mfr msz mtf mmp mrg mme msn mbg mhd mfo mfi mmy mwa mwn mba mdy mkn mfa mpl men mpg mct mim))) k_M_told_16 kc_M_told_16 rfl ⟨trivial, trivial, trivial⟩ ?_
    refine Run.br (tgt := 28) d_M_told_18 rfl (by decide) (fun c_2 => ?_) (fun c_2 => ?_)
    · refine Run.blk (gs := [True, True]) (S' := ([some (.ref 16), some (.int (2 : Int32))], [.int (2 : Int32), .int (2 : Int32)], Ac fp le lp lb il tf tz bf rfc fr mp sc ifp ib ie pw dh rl rb re sy sb rc sg (Bc (0 : Int32) mfr msz mtf mmp mrg mme msn mbg mhd mfo mfi mmy mwa mwn mba mdy mkn mfa mpl men mpg mct mim))) k_M_told_28 kc_M_told_28 rfl ⟨trivial, trivial, trivial⟩ ?_
      refine Run.br (tgt := 40) d_M_told_30 rfl (by decide) (fun c_3 => ?_) (fun c_3 => ?_)
      · exact absurd c_3 (by decide)
      · have c_3 := Classical.not_not.mp c_3
        refine Run.blk (gs := [True, True]) (S' := ([some (.ref 16), some (.int (2 : Int32))], [.int mpg], Ac fp le lp lb il tf tz bf rfc fr mp sc ifp ib ie pw dh rl rb re sy sb rc sg (Bc (0 : Int32) mfr msz mtf mmp mrg mme msn mbg mhd mfo mfi mmy mwa mwn mba mdy mkn mfa mpl men mpg mct mim))) k_M_told_33 kc_M_told_33 rfl ⟨trivial, trivial, trivial⟩ ?_
        refine Run.goto (tgt := 54) d_M_told_37 (by decide) ?_
        exact Run.ret (r := some (.int mpg)) ⟨d_M_told_54, _, rfl, rfl⟩ ⟨rfl, rfl⟩
    · have c_2 := Classical.not_not.mp c_2
      exact absurd c_2 (by decide)
  · have c_1 := Classical.not_not.mp c_1
    exact absurd c_1 (by decide)
set_option maxRecDepth 100000 in
set_option maxHeartbeats 4000000 in
theorem c_M_told_3  : Ct m_M_told 0 0 [.ref 16, .int (3 : Int32)] (Ac fp le lp lb il tf tz bf rfc fr mp sc ifp ib ie pw dh rl rb re sy sb rc sg (Bc mth mfr msz mtf mmp mrg mme msn mbg mhd mfo mfi mmy mwa mwn mba mdy mkn mfa mpl men mpg mct mim)) (vm_is (some (.int mct)) (Ac fp le lp lb il tf tz bf rfc fr mp sc ifp ib ie pw dh rl rb re sy sb rc sg (Bc (0 : Int32) mfr msz mtf mmp mrg mme msn mbg mhd mfo mfi mmy mwa mwn mba mdy mkn mfa mpl men mpg mct mim))) := by
  refine Ct.of ⟨by decide +kernel, rfl⟩ (Nat.le_of_ble_eq_true rfl) (lv := [some (.ref 16), some (.int (3 : Int32))]) rfl ?_
  refine Run.blk (gs := [True, True, True, True]) (S' := ([some (.ref 16), some (.int (3 : Int32))], [.int (3 : Int32)], Ac fp le lp lb il tf tz bf rfc fr mp sc ifp ib ie pw dh rl rb re sy sb rc sg (Bc (0 : Int32) mfr msz mtf mmp mrg mme msn mbg mhd mfo mfi mmy mwa mwn mba mdy mkn mfa mpl men mpg mct mim))) k_M_told_0 kc_M_told_0 rfl ⟨trivial, trivial, trivial, trivial, trivial⟩ ?_
  refine Run.br (tgt := 16) d_M_told_6 rfl (by decide) (fun c_1 => ?_) (fun c_1 => ?_)
  · refine Run.blk (gs := [True, True]) (S' := ([some (.ref 16), some (.int (3 : Int32))], [.int (1 : Int32), .int (3 : Int32)], Ac fp le lp lb il tf tz bf rfc fr mp sc ifp ib ie pw dh rl rb re sy sb rc sg (Bc (0 : Int32) mfr msz mtf mmp mrg mme msn mbg mhd mfo mfi mmy mwa mwn mba mdy mkn mfa mpl men mpg mct mim))) k_M_told_16 kc_M_told_16 rfl ⟨trivial, trivial, trivial⟩ ?_
    refine Run.br (tgt := 28) d_M_told_18 rfl (by decide) (fun c_2 => ?_) (fun c_2 => ?_)
    · refine Run.blk (gs := [True, True]) (S' := ([some (.ref 16), some (.int (3 : Int32))], [.int (2 : Int32), .int (3 : Int32)], Ac fp le lp lb il tf tz bf rfc fr mp sc ifp ib ie pw dh rl rb re sy sb rc sg (Bc (0 : Int32) mfr msz mtf mmp mrg mme msn mbg mhd mfo mfi mmy mwa mwn mba mdy mkn mfa mpl men mpg mct mim))) k_M_told_28 kc_M_told_28 rfl ⟨trivial, trivial, trivial⟩ ?_
      refine Run.br (tgt := 40) d_M_told_30 rfl (by decide) (fun c_3 => ?_) (fun c_3 => ?_)
      · refine Run.blk (gs := [True, True]) (S' := ([some (.ref 16), some (.int (3 : Int32))], [.int (3 : Int32), .int (3 : Int32)], Ac fp le lp lb il tf tz bf rfc fr mp sc ifp ib ie pw dh rl rb re sy sb rc sg (Bc (0 : Int32) mfr msz mtf mmp mrg mme msn mbg mhd mfo mfi mmy mwa mwn mba mdy mkn mfa mpl men mpg mct mim))) k_M_told_40 kc_M_told_40 rfl ⟨trivial, trivial, trivial⟩ ?_
        refine Run.br (tgt := 52) d_M_told_42 rfl (by decide) (fun c_4 => ?_) (fun c_4 => ?_)
        · exact absurd c_4 (by decide)
        · have c_4 := Classical.not_not.mp c_4
          refine Run.blk (gs := [True, True]) (S' := ([some (.ref 16), some (.int (3 : Int32))], [.int mct], Ac fp le lp lb il tf tz bf rfc fr mp sc ifp ib ie pw dh rl rb re sy sb rc sg (Bc (0 : Int32) mfr msz mtf mmp mrg mme msn mbg mhd mfo mfi mmy mwa mwn mba mdy mkn mfa mpl men mpg mct mim))) k_M_told_45 kc_M_told_45 rfl ⟨trivial, trivial, trivial⟩ ?_
          refine Run.goto (tgt := 54) d_M_told_49 (by decide) ?_
          exact Run.ret (r := some (.int mct)) ⟨d_M_told_54, _, rfl, rfl⟩ ⟨rfl, rfl⟩
      · have c_3 := Classical.not_not.mp c_3
        exact absurd c_3 (by decide)
    · have c_2 := Classical.not_not.mp c_2
      exact absurd c_2 (by decide)
  · have c_1 := Classical.not_not.mp c_1
    exact absurd c_1 (by decide)
set_option maxRecDepth 100000 in
set_option maxHeartbeats 4000000 in
theorem c_M_told_A {x : Int32} (hx : x.toInt < 0 ∨ 3 < x.toInt) : Ct m_M_told 0 0 [.ref 16, .int x] (Ac fp le lp lb il tf tz bf rfc fr mp sc ifp ib ie pw dh rl rb re sy sb rc sg (Bc mth mfr msz mtf mmp mrg mme msn mbg mhd mfo mfi mmy mwa mwn mba mdy mkn mfa mpl men mpg mct mim)) (vm_is (some (.int (-2 : Int32))) (Ac fp le lp lb il tf tz bf rfc fr mp sc ifp ib ie pw dh rl rb re sy sb rc sg (Bc (0 : Int32) mfr msz mtf mmp mrg mme msn mbg mhd mfo mfi mmy mwa mwn mba mdy mkn mfa mpl men mpg mct mim))) := by
  refine Ct.of ⟨by decide +kernel, rfl⟩ (Nat.le_of_ble_eq_true rfl) (lv := [some (.ref 16), some (.int x)]) rfl ?_
  refine Run.blk (gs := [True, True, True, True]) (S' := ([some (.ref 16), some (.int x)], [.int x], Ac fp le lp lb il tf tz bf rfc fr mp sc ifp ib ie pw dh rl rb re sy sb rc sg (Bc (0 : Int32) mfr msz mtf mmp mrg mme msn mbg mhd mfo mfi mmy mwa mwn mba mdy mkn mfa mpl men mpg mct mim))) k_M_told_0 kc_M_told_0 rfl ⟨trivial, trivial, trivial, trivial, trivial⟩ ?_
  refine Run.br (tgt := 16) d_M_told_6 rfl (by decide) (fun c_1 => ?_) (fun c_1 => ?_)
  · refine Run.blk (gs := [True, True]) (S' := ([some (.ref 16), some (.int x)], [.int (1 : Int32), .int x], Ac fp le lp lb il tf tz bf rfc fr mp sc ifp ib ie pw dh rl rb re sy sb rc sg (Bc (0 : Int32) mfr msz mtf mmp mrg mme msn mbg mhd mfo mfi mmy mwa mwn mba mdy mkn mfa mpl men mpg mct mim))) k_M_told_16 kc_M_told_16 rfl ⟨trivial, trivial, trivial⟩ ?_
    refine Run.br (tgt := 28) d_M_told_18 rfl (by decide) (fun c_2 => ?_) (fun c_2 => ?_)
    · refine Run.blk (gs := [True, True]) (S' := ([some (.ref 16), some (.int x)], [.int (2 : Int32), .int x], Ac fp le lp lb il tf tz bf rfc fr mp sc ifp ib ie pw dh rl rb re sy sb rc sg (Bc (0 : Int32) mfr msz mtf mmp mrg mme msn mbg mhd mfo mfi mmy mwa mwn mba mdy mkn mfa mpl men mpg mct mim))) k_M_told_28 kc_M_told_28 rfl ⟨trivial, trivial, trivial⟩ ?_
      refine Run.br (tgt := 40) d_M_told_30 rfl (by decide) (fun c_3 => ?_) (fun c_3 => ?_)
      · refine Run.blk (gs := [True, True]) (S' := ([some (.ref 16), some (.int x)], [.int (3 : Int32), .int x], Ac fp le lp lb il tf tz bf rfc fr mp sc ifp ib ie pw dh rl rb re sy sb rc sg (Bc (0 : Int32) mfr msz mtf mmp mrg mme msn mbg mhd mfo mfi mmy mwa mwn mba mdy mkn mfa mpl men mpg mct mim))) k_M_told_40 kc_M_told_40 rfl ⟨trivial, trivial, trivial⟩ ?_
        refine Run.br (tgt := 52) d_M_told_42 rfl (by decide) (fun c_4 => ?_) (fun c_4 => ?_)
        · refine Run.blk (gs := [True]) (S' := ([some (.ref 16), some (.int x)], [.int (-2 : Int32)], Ac fp le lp lb il tf tz bf rfc fr mp sc ifp ib ie pw dh rl rb re sy sb rc sg (Bc (0 : Int32) mfr msz mtf mmp mrg mme msn mbg mhd mfo mfi mmy mwa mwn mba mdy mkn mfa mpl men mpg mct mim))) k_M_told_52 kc_M_told_52 rfl ⟨trivial, trivial⟩ ?_
          exact Run.ret (r := some (.int (-2 : Int32))) ⟨d_M_told_54, _, rfl, rfl⟩ ⟨rfl, rfl⟩
        · have c_4 := Classical.not_not.mp c_4
          exfalso; rw [c_4] at hx; exact absurd hx (by decide)
      · have c_3 := Classical.not_not.mp c_3
        exfalso; rw [c_3] at hx; exact absurd hx (by decide)
    · have c_2 := Classical.not_not.mp c_2
      exfalso; rw [c_2] at hx; exact absurd hx (by decide)
  · have c_1 := Classical.not_not.mp c_1
    exfalso; rw [c_1] at hx; exact absurd hx (by decide)
set_option maxRecDepth 100000 in
set_option maxHeartbeats 4000000 in
theorem c_M_count_0 (hR : Rm rf mmp mrg) : Ct m_M_count 0 0 [.ref 16, .int (0 : Int32)] (Ac fp le lp lb il tf tz bf rfc fr mp sc ifp ib ie pw dh rl rb re sy sb rc sg (Bc mth mfr (nI z) mtf mmp mrg mme msn mbg mhd mfo mfi mmy mwa mwn mba mdy mkn mfa mpl men mpg mct mim)) (vm_is (some (.int (nI (cntM rf 0 64)))) (Ac fp le lp lb il tf tz bf rfc fr mp sc ifp ib ie pw dh rl rb re sy sb rc sg (Bc (0 : Int32) mfr (nI z) mtf mmp mrg mme msn mbg mhd mfo mfi mmy mwa mwn mba mdy mkn mfa mpl men mpg mct mim))) := by
  refine Ct.of ⟨by decide +kernel, rfl⟩ (Nat.le_of_ble_eq_true rfl) (lv := [some (.ref 16), some (.int (0 : Int32))]) rfl ?_
  refine Run.blk (gs := [True, True, True, True]) (S' := ([some (.ref 16), some (.int (0 : Int32))], [.int (0 : Int32)], Ac fp le lp lb il tf tz bf rfc fr mp sc ifp ib ie pw dh rl rb re sy sb rc sg (Bc (0 : Int32) mfr (nI z) mtf mmp mrg mme msn mbg mhd mfo mfi mmy mwa mwn mba mdy mkn mfa mpl men mpg mct mim))) k_M_count_0 kc_M_count_0 rfl ⟨trivial, trivial, trivial, trivial, trivial⟩ ?_
  refine Run.tsIn (tgt := 48) (off := 42) d_M_count_6 (by decide) (by decide) (by decide) (by decide) ?_
  refine Run.blk (gs := [True]) (S' := ([some (.ref 16), some (.int (0 : Int32))], [.ref 16], Ac fp le lp lb il tf tz bf rfc fr mp sc ifp ib ie pw dh rl rb re sy sb rc sg (Bc (0 : Int32) mfr (nI z) mtf mmp mrg mme msn mbg mhd mfo mfi mmy mwa mwn mba mdy mkn mfa mpl men mpg mct mim))) k_M_count_48 kc_M_count_48 rfl ⟨trivial, trivial⟩ ?_
  refine Run.callV (b := 16) (As := []) (rest := []) v_M_count_49 (c_M_mappedPages hR) rfl (Nat.le_of_ble_eq_true rfl) rfl rfl rfl rfl (fun r cs' hp => ?_)
  obtain ⟨rfl, rfl⟩ := hp
  show Run _ _ _ _ 52 ([some (.ref 16), some (.int (0 : Int32))], [.int (nI (cntM rf 0 64))], Ac fp le lp lb il tf tz bf rfc fr mp sc ifp ib ie pw dh rl rb re sy sb rc sg (Bc (0 : Int32) mfr (nI z) mtf mmp mrg mme msn mbg mhd mfo mfi mmy mwa mwn mba mdy mkn mfa mpl men mpg mct mim)) _
  exact Run.ret (r := some (.int (nI (cntM rf 0 64)))) ⟨d_M_count_52, _, rfl, rfl⟩ ⟨rfl, rfl⟩
set_option maxRecDepth 100000 in
set_option maxHeartbeats 4000000 in
theorem c_M_count_1 (hR : Rm rf mmp mrg) : Ct m_M_count 0 0 [.ref 16, .int (1 : Int32)] (Ac fp le lp lb il tf tz bf rfc fr mp sc ifp ib ie pw dh rl rb re sy sb rc sg (Bc mth mfr (nI z) mtf mmp mrg mme msn mbg mhd mfo mfi mmy mwa mwn mba mdy mkn mfa mpl men mpg mct mim)) (vm_is (some (.int (nI (pwC rf (1 : Int32) 64)))) (Ac fp le lp lb il tf tz bf rfc fr mp sc ifp ib ie pw dh rl rb re sy sb rc sg (Bc (0 : Int32) mfr (nI z) mtf mmp mrg mme msn mbg mhd mfo mfi mmy mwa mwn mba mdy mkn mfa mpl men mpg mct mim))) := by
  refine Ct.of ⟨by decide +kernel, rfl⟩ (Nat.le_of_ble_eq_true rfl) (lv := [some (.ref 16), some (.int (1 : Int32))]) rfl ?_
  refine Run.blk (gs := [True, True, True, True]) (S' := ([some (.ref 16), some (.int (1 : Int32))], [.int (1 : Int32)], Ac fp le lp lb il tf tz bf rfc fr mp sc ifp ib ie pw dh rl rb re sy sb rc sg (Bc (0 : Int32) mfr (nI z) mtf mmp mrg mme msn mbg mhd mfo mfi mmy mwa mwn mba mdy mkn mfa mpl men mpg mct mim))) k_M_count_0 kc_M_count_0 rfl ⟨trivial, trivial, trivial, trivial, trivial⟩ ?_
  refine Run.tsIn (tgt := 53) (off := 47) d_M_count_6 (by decide) (by decide) (by decide) (by decide) ?_
  refine Run.blk (gs := [True, True]) (S' := ([some (.ref 16), some (.int (1 : Int32))], [.int (1 : Int32), .ref 16], Ac fp le lp lb il tf tz bf rfc fr mp sc ifp ib ie pw dh rl rb re sy sb rc sg (Bc (0 : Int32) mfr (nI z) mtf mmp mrg mme msn mbg mhd mfo mfi mmy mwa mwn mba mdy mkn mfa mpl men mpg mct mim))) k_M_count_53 kc_M_count_53 rfl ⟨trivial, trivial, trivial⟩ ?_
  refine Run.callV (b := 16) (As := [.int (1 : Int32)]) (rest := []) v_M_count_55 (c_M_with hR) rfl (Nat.le_of_ble_eq_true rfl) rfl rfl rfl rfl (fun r cs' hp => ?_)
  obtain ⟨rfl, rfl⟩ := hp
  show Run _ _ _ _ 58 ([some (.ref 16), some (.int (1 : Int32))], [.int (nI (pwC rf (1 : Int32) 64))], Ac fp le lp lb il tf tz bf rfc fr mp sc ifp ib ie pw dh rl rb re sy sb rc sg (Bc (0 : Int32) mfr (nI z) mtf mmp mrg mme msn mbg mhd mfo mfi mmy mwa mwn mba mdy mkn mfa mpl men mpg mct mim)) _
  exact Run.ret (r := some (.int (nI (pwC rf (1 : Int32) 64)))) ⟨d_M_count_58, _, rfl, rfl⟩ ⟨rfl, rfl⟩
set_option maxRecDepth 100000 in
set_option maxHeartbeats 4000000 in
theorem c_M_count_2 (hR : Rm rf mmp mrg) : Ct m_M_count 0 0 [.ref 16, .int (2 : Int32)] (Ac fp le lp lb il tf tz bf rfc fr mp sc ifp ib ie pw dh rl rb re sy sb rc sg (Bc mth mfr (nI z) mtf mmp mrg mme msn mbg mhd mfo mfi mmy mwa mwn mba mdy mkn mfa mpl men mpg mct mim)) (vm_is (some (.int (nI (pwC rf (2 : Int32) 64)))) (Ac fp le lp lb il tf tz bf rfc fr mp sc ifp ib ie pw dh rl rb re sy sb rc sg (Bc (0 : Int32) mfr (nI z) mtf mmp mrg mme msn mbg mhd mfo mfi mmy mwa mwn mba mdy mkn mfa mpl men mpg mct mim))) := by
  refine Ct.of ⟨by decide +kernel, rfl⟩ (Nat.le_of_ble_eq_true rfl) (lv := [some (.ref 16), some (.int (2 : Int32))]) rfl ?_
  refine Run.blk (gs := [True, True, True, True]) (S' := ([some (.ref 16), some (.int (2 : Int32))], [.int (2 : Int32)], Ac fp le lp lb il tf tz bf rfc fr mp sc ifp ib ie pw dh rl rb re sy sb rc sg (Bc (0 : Int32) mfr (nI z) mtf mmp mrg mme msn mbg mhd mfo mfi mmy mwa mwn mba mdy mkn mfa mpl men mpg mct mim))) k_M_count_0 kc_M_count_0 rfl ⟨trivial, trivial, trivial, trivial, trivial⟩ ?_
  refine Run.tsIn (tgt := 59) (off := 53) d_M_count_6 (by decide) (by decide) (by decide) (by decide) ?_
  refine Run.blk (gs := [True, True]) (S' := ([some (.ref 16), some (.int (2 : Int32))], [.int (2 : Int32), .ref 16], Ac fp le lp lb il tf tz bf rfc fr mp sc ifp ib ie pw dh rl rb re sy sb rc sg (Bc (0 : Int32) mfr (nI z) mtf mmp mrg mme msn mbg mhd mfo mfi mmy mwa mwn mba mdy mkn mfa mpl men mpg mct mim))) k_M_count_59 kc_M_count_59 rfl ⟨trivial, trivial, trivial⟩ ?_
  refine Run.callV (b := 16) (As := [.int (2 : Int32)]) (rest := []) v_M_count_61 (c_M_with hR) rfl (Nat.le_of_ble_eq_true rfl) rfl rfl rfl rfl (fun r cs' hp => ?_)
  obtain ⟨rfl, rfl⟩ := hp
  show Run _ _ _ _ 64 ([some (.ref 16), some (.int (2 : Int32))], [.int (nI (pwC rf (2 : Int32) 64))], Ac fp le lp lb il tf tz bf rfc fr mp sc ifp ib ie pw dh rl rb re sy sb rc sg (Bc (0 : Int32) mfr (nI z) mtf mmp mrg mme msn mbg mhd mfo mfi mmy mwa mwn mba mdy mkn mfa mpl men mpg mct mim)) _
  exact Run.ret (r := some (.int (nI (pwC rf (2 : Int32) 64)))) ⟨d_M_count_64, _, rfl, rfl⟩ ⟨rfl, rfl⟩
set_option maxRecDepth 100000 in
set_option maxHeartbeats 4000000 in
theorem c_M_count_3 (hR : Rm rf mmp mrg) : Ct m_M_count 0 0 [.ref 16, .int (3 : Int32)] (Ac fp le lp lb il tf tz bf rfc fr mp sc ifp ib ie pw dh rl rb re sy sb rc sg (Bc mth mfr (nI z) mtf mmp mrg mme msn mbg mhd mfo mfi mmy mwa mwn mba mdy mkn mfa mpl men mpg mct mim)) (vm_is (some (.int (nI (pwC rf (4 : Int32) 64)))) (Ac fp le lp lb il tf tz bf rfc fr mp sc ifp ib ie pw dh rl rb re sy sb rc sg (Bc (0 : Int32) mfr (nI z) mtf mmp mrg mme msn mbg mhd mfo mfi mmy mwa mwn mba mdy mkn mfa mpl men mpg mct mim))) := by
  refine Ct.of ⟨by decide +kernel, rfl⟩ (Nat.le_of_ble_eq_true rfl) (lv := [some (.ref 16), some (.int (3 : Int32))]) rfl ?_
  refine Run.blk (gs := [True, True, True, True]) (S' := ([some (.ref 16), some (.int (3 : Int32))], [.int (3 : Int32)], Ac fp le lp lb il tf tz bf rfc fr mp sc ifp ib ie pw dh rl rb re sy sb rc sg (Bc (0 : Int32) mfr (nI z) mtf mmp mrg mme msn mbg mhd mfo mfi mmy mwa mwn mba mdy mkn mfa mpl men mpg mct mim))) k_M_count_0 kc_M_count_0 rfl ⟨trivial, trivial, trivial, trivial, trivial⟩ ?_
  refine Run.tsIn (tgt := 65) (off := 59) d_M_count_6 (by decide) (by decide) (by decide) (by decide) ?_
  refine Run.blk (gs := [True, True]) (S' := ([some (.ref 16), some (.int (3 : Int32))], [.int (4 : Int32), .ref 16], Ac fp le lp lb il tf tz bf rfc fr mp sc ifp ib ie pw dh rl rb re sy sb rc sg (Bc (0 : Int32) mfr (nI z) mtf mmp mrg mme msn mbg mhd mfo mfi mmy mwa mwn mba mdy mkn mfa mpl men mpg mct mim))) k_M_count_65 kc_M_count_65 rfl ⟨trivial, trivial, trivial⟩ ?_
  refine Run.callV (b := 16) (As := [.int (4 : Int32)]) (rest := []) v_M_count_67 (c_M_with hR) rfl (Nat.le_of_ble_eq_true rfl) rfl rfl rfl rfl (fun r cs' hp => ?_)
  obtain ⟨rfl, rfl⟩ := hp
  show Run _ _ _ _ 70 ([some (.ref 16), some (.int (3 : Int32))], [.int (nI (pwC rf (4 : Int32) 64))], Ac fp le lp lb il tf tz bf rfc fr mp sc ifp ib ie pw dh rl rb re sy sb rc sg (Bc (0 : Int32) mfr (nI z) mtf mmp mrg mme msn mbg mhd mfo mfi mmy mwa mwn mba mdy mkn mfa mpl men mpg mct mim)) _
  exact Run.ret (r := some (.int (nI (pwC rf (4 : Int32) 64)))) ⟨d_M_count_70, _, rfl, rfl⟩ ⟨rfl, rfl⟩
set_option maxRecDepth 100000 in
set_option maxHeartbeats 4000000 in
theorem c_M_count_4 (hR : Rm rf mmp mrg) : Ct m_M_count 0 0 [.ref 16, .int (4 : Int32)] (Ac fp le lp lb il tf tz bf rfc fr mp sc ifp ib ie pw dh rl rb re sy sb rc sg (Bc mth mfr (nI z) mtf mmp mrg mme msn mbg mhd mfo mfi mmy mwa mwn mba mdy mkn mfa mpl men mpg mct mim)) (vm_is (some (.int (nI z))) (Ac fp le lp lb il tf tz bf rfc fr mp sc ifp ib ie pw dh rl rb re sy sb rc sg (Bc (0 : Int32) mfr (nI z) mtf mmp mrg mme msn mbg mhd mfo mfi mmy mwa mwn mba mdy mkn mfa mpl men mpg mct mim))) := by
  refine Ct.of ⟨by decide +kernel, rfl⟩ (Nat.le_of_ble_eq_true rfl) (lv := [some (.ref 16), some (.int (4 : Int32))]) rfl ?_
  refine Run.blk (gs := [True, True, True, True]) (S' := ([some (.ref 16), some (.int (4 : Int32))], [.int (4 : Int32)], Ac fp le lp lb il tf tz bf rfc fr mp sc ifp ib ie pw dh rl rb re sy sb rc sg (Bc (0 : Int32) mfr (nI z) mtf mmp mrg mme msn mbg mhd mfo mfi mmy mwa mwn mba mdy mkn mfa mpl men mpg mct mim))) k_M_count_0 kc_M_count_0 rfl ⟨trivial, trivial, trivial, trivial, trivial⟩ ?_
  refine Run.tsIn (tgt := 71) (off := 65) d_M_count_6 (by decide) (by decide) (by decide) (by decide) ?_
  refine Run.blk (gs := [True, True]) (S' := ([some (.ref 16), some (.int (4 : Int32))], [.int (nI z)], Ac fp le lp lb il tf tz bf rfc fr mp sc ifp ib ie pw dh rl rb re sy sb rc sg (Bc (0 : Int32) mfr (nI z) mtf mmp mrg mme msn mbg mhd mfo mfi mmy mwa mwn mba mdy mkn mfa mpl men mpg mct mim))) k_M_count_71 kc_M_count_71 rfl ⟨trivial, trivial, trivial⟩ ?_
  exact Run.ret (r := some (.int (nI z))) ⟨d_M_count_75, _, rfl, rfl⟩ ⟨rfl, rfl⟩
set_option maxRecDepth 100000 in
set_option maxHeartbeats 4000000 in
theorem c_M_count_5 (hR : Rm rf mmp mrg) : Ct m_M_count 0 0 [.ref 16, .int (5 : Int32)] (Ac fp le lp lb il tf tz bf rfc fr mp sc ifp ib ie pw dh rl rb re sy sb rc sg (Bc mth mfr (nI z) mtf mmp mrg mme msn mbg mhd mfo mfi mmy mwa mwn mba mdy mkn mfa mpl men mpg mct mim)) (vm_is (some (.int mim)) (Ac fp le lp lb il tf tz bf rfc fr mp sc ifp ib ie pw dh rl rb re sy sb rc sg (Bc (0 : Int32) mfr (nI z) mtf mmp mrg mme msn mbg mhd mfo mfi mmy mwa mwn mba mdy mkn mfa mpl men mpg mct mim))) := by
  refine Ct.of ⟨by decide +kernel, rfl⟩ (Nat.le_of_ble_eq_true rfl) (lv := [some (.ref 16), some (.int (5 : Int32))]) rfl ?_
  refine Run.blk (gs := [True, True, True, True]) (S' := ([some (.ref 16), some (.int (5 : Int32))], [.int (5 : Int32)], Ac fp le lp lb il tf tz bf rfc fr mp sc ifp ib ie pw dh rl rb re sy sb rc sg (Bc (0 : Int32) mfr (nI z) mtf mmp mrg mme msn mbg mhd mfo mfi mmy mwa mwn mba mdy mkn mfa mpl men mpg mct mim))) k_M_count_0 kc_M_count_0 rfl ⟨trivial, trivial, trivial, trivial, trivial⟩ ?_
  refine Run.tsIn (tgt := 76) (off := 70) d_M_count_6 (by decide) (by decide) (by decide) (by decide) ?_
  refine Run.blk (gs := [True, True]) (S' := ([some (.ref 16), some (.int (5 : Int32))], [.int mim], Ac fp le lp lb il tf tz bf rfc fr mp sc ifp ib ie pw dh rl rb re sy sb rc sg (Bc (0 : Int32) mfr (nI z) mtf mmp mrg mme msn mbg mhd mfo mfi mmy mwa mwn mba mdy mkn mfa mpl men mpg mct mim))) k_M_count_76 kc_M_count_76 rfl ⟨trivial, trivial, trivial⟩ ?_
  exact Run.ret (r := some (.int mim)) ⟨d_M_count_80, _, rfl, rfl⟩ ⟨rfl, rfl⟩
set_option maxRecDepth 100000 in
set_option maxHeartbeats 4000000 in
theorem c_M_count_6 (hR : Rm rf mmp mrg) : Ct m_M_count 0 0 [.ref 16, .int (6 : Int32)] (Ac fp le lp lb il tf tz bf rfc fr mp sc ifp ib ie pw dh rl rb re sy sb rc sg (Bc mth mfr (nI z) mtf mmp mrg mme msn mbg mhd mfo mfi mmy mwa mwn mba mdy mkn mfa mpl men mpg mct mim)) (vm_is (some (.int mfr)) (Ac fp le lp lb il tf tz bf rfc fr mp sc ifp ib ie pw dh rl rb re sy sb rc sg (Bc (0 : Int32) mfr (nI z) mtf mmp mrg mme msn mbg mhd mfo mfi mmy mwa mwn mba mdy mkn mfa mpl men mpg mct mim))) := by
  refine Ct.of ⟨by decide +kernel, rfl⟩ (Nat.le_of_ble_eq_true rfl) (lv := [some (.ref 16), some (.int (6 : Int32))]) rfl ?_
  refine Run.blk (gs := [True, True, True, True]) (S' := ([some (.ref 16), some (.int (6 : Int32))], [.int (6 : Int32)], Ac fp le lp lb il tf tz bf rfc fr mp sc ifp ib ie pw dh rl rb re sy sb rc sg (Bc (0 : Int32) mfr (nI z) mtf mmp mrg mme msn mbg mhd mfo mfi mmy mwa mwn mba mdy mkn mfa mpl men mpg mct mim))) k_M_count_0 kc_M_count_0 rfl ⟨trivial, trivial, trivial, trivial, trivial⟩ ?_
  refine Run.tsIn (tgt := 81) (off := 75) d_M_count_6 (by decide) (by decide) (by decide) (by decide) ?_
  refine Run.blk (gs := [True, True]) (S' := ([some (.ref 16), some (.int (6 : Int32))], [.int mfr], Ac fp le lp lb il tf tz bf rfc fr mp sc ifp ib ie pw dh rl rb re sy sb rc sg (Bc (0 : Int32) mfr (nI z) mtf mmp mrg mme msn mbg mhd mfo mfi mmy mwa mwn mba mdy mkn mfa mpl men mpg mct mim))) k_M_count_81 kc_M_count_81 rfl ⟨trivial, trivial, trivial⟩ ?_
  exact Run.ret (r := some (.int mfr)) ⟨d_M_count_85, _, rfl, rfl⟩ ⟨rfl, rfl⟩
set_option maxRecDepth 100000 in
set_option maxHeartbeats 4000000 in
theorem c_M_count_A {x : Int32} (hx : x.toInt < 0 ∨ 6 < x.toInt) : Ct m_M_count 0 0 [.ref 16, .int x] (Ac fp le lp lb il tf tz bf rfc fr mp sc ifp ib ie pw dh rl rb re sy sb rc sg (Bc mth mfr msz mtf mmp mrg mme msn mbg mhd mfo mfi mmy mwa mwn mba mdy mkn mfa mpl men mpg mct mim)) (vm_is (some (.int (-2 : Int32))) (Ac fp le lp lb il tf tz bf rfc fr mp sc ifp ib ie pw dh rl rb re sy sb rc sg (Bc (0 : Int32) mfr msz mtf mmp mrg mme msn mbg mhd mfo mfi mmy mwa mwn mba mdy mkn mfa mpl men mpg mct mim))) := by
  refine Ct.of ⟨by decide +kernel, rfl⟩ (Nat.le_of_ble_eq_true rfl) (lv := [some (.ref 16), some (.int x)]) rfl ?_
  refine Run.blk (gs := [True, True, True, True]) (S' := ([some (.ref 16), some (.int x)], [.int x], Ac fp le lp lb il tf tz bf rfc fr mp sc ifp ib ie pw dh rl rb re sy sb rc sg (Bc (0 : Int32) mfr msz mtf mmp mrg mme msn mbg mhd mfo mfi mmy mwa mwn mba mdy mkn mfa mpl men mpg mct mim))) k_M_count_0 kc_M_count_0 rfl ⟨trivial, trivial, trivial, trivial, trivial⟩ ?_
  refine Run.tsOut (tgt := 86) d_M_count_6 (by omega) (by decide) ?_
  refine Run.blk (gs := [True]) (S' := ([some (.ref 16), some (.int x)], [.int (-2 : Int32)], Ac fp le lp lb il tf tz bf rfc fr mp sc ifp ib ie pw dh rl rb re sy sb rc sg (Bc (0 : Int32) mfr msz mtf mmp mrg mme msn mbg mhd mfo mfi mmy mwa mwn mba mdy mkn mfa mpl men mpg mct mim))) k_M_count_86 kc_M_count_86 rfl ⟨trivial, trivial⟩ ?_
  exact Run.ret (r := some (.int (-2 : Int32))) ⟨d_M_count_88, _, rfl, rfl⟩ ⟨rfl, rfl⟩
set_option maxRecDepth 100000 in
set_option maxHeartbeats 4000000 in
theorem c_M_rights_A {x : Int32} (hx : ¬ (0 ≤ x.toInt ∧ x.toInt < 64)) : Ct m_M_rights 0 0 [.ref 16, .int x] (Ac fp le lp lb il tf tz bf rfc fr mp sc ifp ib ie pw dh rl rb re sy sb rc sg (Bc mth mfr msz mtf mmp mrg mme msn mbg mhd mfo mfi mmy mwa mwn mba mdy mkn mfa mpl men mpg mct mim)) (vm_is (some (.int (-2 : Int32))) (Ac fp le lp lb il tf tz bf rfc fr mp sc ifp ib ie pw dh rl rb re sy sb rc sg (Bc (0 : Int32) mfr msz mtf mmp mrg mme msn mbg mhd mfo mfi mmy mwa mwn mba mdy mkn mfa mpl men mpg mct mim))) := by
  refine Ct.of ⟨by decide +kernel, rfl⟩ (Nat.le_of_ble_eq_true rfl) (lv := [some (.ref 16), some (.int x)]) rfl ?_
  refine Run.blk (gs := [True, True, True, True]) (S' := ([some (.ref 16), some (.int x)], [.int x], Ac fp le lp lb il tf tz bf rfc fr mp sc ifp ib ie pw dh rl rb re sy sb rc sg (Bc (0 : Int32) mfr msz mtf mmp mrg mme msn mbg mhd mfo mfi mmy mwa mwn mba mdy mkn mfa mpl men mpg mct mim))) k_M_rights_0 kc_M_rights_0 rfl ⟨trivial, trivial, trivial, trivial, trivial⟩ ?_
  refine Run.callS (As := [.int x]) (rest := []) v_M_rights_6 (c_M_isPage x) rfl (Nat.le_of_ble_eq_true rfl) rfl (fun r cs' hp => ?_)
  obtain ⟨rfl, rfl⟩ := hp
  show Run _ _ _ _ 9 ([some (.ref 16), some (.int x)], [.int (if 0 ≤ x.toInt ∧ x.toInt < 64 then 1 else 0)], Ac fp le lp lb il tf tz bf rfc fr mp sc ifp ib ie pw dh rl rb re sy sb rc sg (Bc (0 : Int32) mfr msz mtf mmp mrg mme msn mbg mhd mfo mfi mmy mwa mwn mba mdy mkn mfa mpl men mpg mct mim)) _
  refine Run.br (tgt := 17) d_M_rights_9 rfl (by decide) (fun c_1 => ?_) (fun c_1 => ?_)
  · have c_1 := zi_t c_1
    exact absurd c_1 hx
  · have c_1 := zi_f (Classical.not_not.mp c_1)
    refine Run.blk (gs := [True]) (S' := ([some (.ref 16), some (.int x)], [.int (-2 : Int32)], Ac fp le lp lb il tf tz bf rfc fr mp sc ifp ib ie pw dh rl rb re sy sb rc sg (Bc (0 : Int32) mfr msz mtf mmp mrg mme msn mbg mhd mfo mfi mmy mwa mwn mba mdy mkn mfa mpl men mpg mct mim))) k_M_rights_12 kc_M_rights_12 rfl ⟨trivial, trivial⟩ ?_
    refine Run.goto (tgt := 36) d_M_rights_14 (by decide) ?_
    exact Run.ret (r := some (.int (-2 : Int32))) ⟨d_M_rights_36, _, rfl, rfl⟩ ⟨rfl, rfl⟩
set_option maxRecDepth 100000 in
set_option maxHeartbeats 4000000 in
theorem c_M_rights_B (hR : Rm rf mmp mrg) {p : Nat} {x : Int32} (hx : x = nI p) (hp : p < 64) : Ct m_M_rights 0 0 [.ref 16, .int x] (Ac fp le lp lb il tf tz bf rfc fr mp sc ifp ib ie pw dh rl rb re sy sb rc sg (Bc mth mfr msz mtf mmp mrg mme msn mbg mhd mfo mfi mmy mwa mwn mba mdy mkn mfa mpl men mpg mct mim)) (vm_is (some (.int (rf p))) (Ac fp le lp lb il tf tz bf rfc fr mp sc ifp ib ie pw dh rl rb re sy sb rc sg (Bc (0 : Int32) mfr msz mtf mmp mrg mme msn mbg mhd mfo mfi mmy mwa mwn mba mdy mkn mfa mpl men mpg mct mim))) := by
  subst hx
  refine Ct.of ⟨by decide +kernel, rfl⟩ (Nat.le_of_ble_eq_true rfl) (lv := [some (.ref 16), some (.int (nI p))]) rfl ?_
  refine Run.blk (gs := [True, True, True, True]) (S' := ([some (.ref 16), some (.int (nI p))], [.int (nI p)], Ac fp le lp lb il tf tz bf rfc fr mp sc ifp ib ie pw dh rl rb re sy sb rc sg (Bc (0 : Int32) mfr msz mtf mmp mrg mme msn mbg mhd mfo mfi mmy mwa mwn mba mdy mkn mfa mpl men mpg mct mim))) k_M_rights_0 kc_M_rights_0 rfl ⟨trivial, trivial, trivial, trivial, trivial⟩ ?_
  refine Run.callS (As := [.int (nI p)]) (rest := []) v_M_rights_6 (c_M_isPage (nI p)) rfl (Nat.le_of_ble_eq_true rfl) rfl (fun r cs' hp => ?_)
  obtain ⟨rfl, rfl⟩ := hp
  show Run _ _ _ _ 9 ([some (.ref 16), some (.int (nI p))], [.int (if 0 ≤ (nI p).toInt ∧ (nI p).toInt < 64 then 1 else 0)], Ac fp le lp lb il tf tz bf rfc fr mp sc ifp ib ie pw dh rl rb re sy sb rc sg (Bc (0 : Int32) mfr msz mtf mmp mrg mme msn mbg mhd mfo mfi mmy mwa mwn mba mdy mkn mfa mpl men mpg mct mim)) _
  refine Run.br (tgt := 17) d_M_rights_9 rfl (by decide) (fun c_1 => ?_) (fun c_1 => ?_)
  · have c_1 := zi_t c_1
    refine Run.blk (gs := [True, True, True, vp_in (nI p) 64]) (S' := ([some (.ref 16), some (.int (nI p))], [.int (mmp (nI p).toNatClampNeg)], Ac fp le lp lb il tf tz bf rfc fr mp sc ifp ib ie pw dh rl rb re sy sb rc sg (Bc (0 : Int32) mfr msz mtf mmp mrg mme msn mbg mhd mfo mfi mmy mwa mwn mba mdy mkn mfa mpl men mpg mct mim))) k_M_rights_17 kc_M_rights_17 rfl ⟨trivial, trivial, trivial, (vp_in_nI (show p < 64 by omega) (by decide)), trivial⟩ ?_
    refine Run.br (tgt := 35) d_M_rights_23 rfl (by decide) (fun c_2 => ?_) (fun c_2 => ?_)
    · rw [nI_clamp (by omega), hR.m0 hp] at c_2
      refine Run.blk (gs := [True]) (S' := ([some (.ref 16), some (.int (nI p))], [.int (-1 : Int32)], Ac fp le lp lb il tf tz bf rfc fr mp sc ifp ib ie pw dh rl rb re sy sb rc sg (Bc (0 : Int32) mfr msz mtf mmp mrg mme msn mbg mhd mfo mfi mmy mwa mwn mba mdy mkn mfa mpl men mpg mct mim))) k_M_rights_35 kc_M_rights_35 rfl ⟨trivial, trivial⟩ ?_
      exact Run.ret (r := some (.int (-1 : Int32))) ⟨d_M_rights_36, _, rfl, rfl⟩ ⟨by rw [c_2], rfl⟩
    · rw [nI_clamp (by omega), hR.m0 hp] at c_2
      refine Run.blk (gs := [True, True, True, vp_in (nI p) 64]) (S' := ([some (.ref 16), some (.int (nI p))], [.int (mrg (nI p).toNatClampNeg)], Ac fp le lp lb il tf tz bf rfc fr mp sc ifp ib ie pw dh rl rb re sy sb rc sg (Bc (0 : Int32) mfr msz mtf mmp mrg mme msn mbg mhd mfo mfi mmy mwa mwn mba mdy mkn mfa mpl men mpg mct mim))) k_M_rights_26 kc_M_rights_26 rfl ⟨trivial, trivial, trivial, (vp_in_nI (show p < 64 by omega) (by decide)), trivial⟩ ?_
      refine Run.goto (tgt := 36) d_M_rights_32 (by decide) ?_
      exact Run.ret (r := some (.int (mrg (nI p).toNatClampNeg))) ⟨d_M_rights_36, _, rfl, rfl⟩ ⟨by rw [nI_clamp (by omega), hR.r hp c_2], rfl⟩
  · have c_1 := zi_f (Classical.not_not.mp c_1)
    exfalso; apply c_1; rw [nI_toInt (show p < 2 ^ 31 by omega)]; omega
set_option maxRecDepth 100000 in
set_option maxHeartbeats 4000000 in
theorem c_M_protect_A {x y : Int32} (hx : ¬ (0 ≤ x.toInt ∧ x.toInt < 64 ∧ 0 ≤ y.toInt ∧ y.toInt ≤ 7)) : Ct m_M_protect 0 0 [.ref 16, .int x, .int y] (Ac fp le lp lb il tf tz bf rfc fr mp sc ifp ib ie pw dh rl rb re sy sb rc sg (Bc mth mfr msz mtf mmp mrg mme msn mbg mhd mfo mfi mmy mwa mwn mba mdy mkn mfa mpl men mpg mct mim)) (vm_is (some (.int (-2 : Int32))) (Ac fp le lp lb il tf tz bf rfc fr mp sc ifp ib ie pw dh rl rb re sy sb rc sg (Bc (0 : Int32) mfr msz mtf mmp mrg mme msn mbg mhd mfo mfi mmy mwa mwn mba mdy mkn mfa mpl men mpg mct mim))) := by
  refine Ct.of ⟨by decide +kernel, rfl⟩ (Nat.le_of_ble_eq_true rfl) (lv := [some (.ref 16), some (.int x), some (.int y), none]) rfl ?_
  refine Run.blk (gs := [True, True, True, True]) (S' := ([some (.ref 16), some (.int x), some (.int y), none], [.int x], Ac fp le lp lb il tf tz bf rfc fr mp sc ifp ib ie pw dh rl rb re sy sb rc sg (Bc (0 : Int32) mfr msz mtf mmp mrg mme msn mbg mhd mfo mfi mmy mwa mwn mba mdy mkn mfa mpl men mpg mct mim))) k_M_protect_0 kc_M_protect_0 rfl ⟨trivial, trivial, trivial, trivial, trivial⟩ ?_
  refine Run.callS (As := [.int x]) (rest := []) v_M_protect_6 (c_M_isPage x) rfl (Nat.le_of_ble_eq_true rfl) rfl (fun r cs' hp => ?_)
  obtain ⟨rfl, rfl⟩ := hp
  show Run _ _ _ _ 9 ([some (.ref 16), some (.int x), some (.int y), none], [.int (if 0 ≤ x.toInt ∧ x.toInt < 64 then 1 else 0)], Ac fp le lp lb il tf tz bf rfc fr mp sc ifp ib ie pw dh rl rb re sy sb rc sg (Bc (0 : Int32) mfr msz mtf mmp mrg mme msn mbg mhd mfo mfi mmy mwa mwn mba mdy mkn mfa mpl men mpg mct mim)) _
  refine Run.br (tgt := 22) d_M_protect_9 rfl (by decide) (fun c_1 => ?_) (fun c_1 => ?_)
  · have c_1 := zi_f c_1
    refine Run.blk (gs := [True]) (S' := ([some (.ref 16), some (.int x), some (.int y), none], [.int (-2 : Int32)], Ac fp le lp lb il tf tz bf rfc fr mp sc ifp ib ie pw dh rl rb re sy sb rc sg (Bc (0 : Int32) mfr msz mtf mmp mrg mme msn mbg mhd mfo mfi mmy mwa mwn mba mdy mkn mfa mpl men mpg mct mim))) k_M_protect_22 kc_M_protect_22 rfl ⟨trivial, trivial⟩ ?_
    exact Run.ret (r := some (.int (-2 : Int32))) ⟨d_M_protect_24, _, rfl, rfl⟩ ⟨rfl, rfl⟩
  · have c_1 := zi_t c_1
    refine Run.blk (gs := [True, True, True]) (S' := ([some (.ref 16), some (.int x), some (.int y), none], [.int (7 : Int32), .int (0 : Int32), .int y], Ac fp le lp lb il tf tz bf rfc fr mp sc ifp ib ie pw dh rl rb re sy sb rc sg (Bc (0 : Int32) mfr msz mtf mmp mrg mme msn mbg mhd mfo mfi mmy mwa mwn mba mdy mkn mfa mpl men mpg mct mim))) k_M_protect_12 kc_M_protect_12 rfl ⟨trivial, trivial, trivial, trivial⟩ ?_
    refine Run.callS (As := [.int y, .int (0 : Int32), .int (7 : Int32)]) (rest := []) v_M_protect_16 (c_M_in y (0 : Int32) (7 : Int32)) rfl (Nat.le_of_ble_eq_true rfl) rfl (fun r cs' hp => ?_)
    obtain ⟨rfl, rfl⟩ := hp
    show Run _ _ _ _ 19 ([some (.ref 16), some (.int x), some (.int y), none], [.int (if (0 : Int32).toInt ≤ y.toInt ∧ y.toInt ≤ (7 : Int32).toInt then 1 else 0)], Ac fp le lp lb il tf tz bf rfc fr mp sc ifp ib ie pw dh rl rb re sy sb rc sg (Bc (0 : Int32) mfr msz mtf mmp mrg mme msn mbg mhd mfo mfi mmy mwa mwn mba mdy mkn mfa mpl men mpg mct mim)) _
    refine Run.br (tgt := 25) d_M_protect_19 rfl (by decide) (fun c_2 => ?_) (fun c_2 => ?_)
    · have c_2 := zi_t c_2
      exfalso; simp only [t0, ti7] at *; omega
    · have c_2 := zi_f (Classical.not_not.mp c_2)
      refine Run.blk (gs := [True]) (S' := ([some (.ref 16), some (.int x), some (.int y), none], [.int (-2 : Int32)], Ac fp le lp lb il tf tz bf rfc fr mp sc ifp ib ie pw dh rl rb re sy sb rc sg (Bc (0 : Int32) mfr msz mtf mmp mrg mme msn mbg mhd mfo mfi mmy mwa mwn mba mdy mkn mfa mpl men mpg mct mim))) k_M_protect_22 kc_M_protect_22 rfl ⟨trivial, trivial⟩ ?_
      exact Run.ret (r := some (.int (-2 : Int32))) ⟨d_M_protect_24, _, rfl, rfl⟩ ⟨rfl, rfl⟩
set_option maxRecDepth 100000 in
set_option maxHeartbeats 4000000 in
theorem c_M_protect_B (hR : Rm rf mmp mrg) {p : Nat} {x y : Int32} (hx : x = nI p) (hp : p < 64) (hy : 0 ≤ y.toInt ∧ y.toInt ≤ 7) (hr : rf p = -1) : Ct m_M_protect 0 0 [.ref 16, .int x, .int y] (Ac fp le lp lb il tf tz bf rfc fr mp sc ifp ib ie pw dh rl rb re sy sb rc sg (Bc mth mfr msz mtf mmp mrg mme msn mbg mhd mfo mfi mmy mwa mwn mba mdy mkn mfa mpl men mpg mct mim)) (vm_is (some (.int (-3 : Int32))) (Ac fp le lp lb il tf tz bf rfc fr mp sc ifp ib ie pw dh rl rb re sy sb rc sg (Bc (0 : Int32) mfr msz mtf mmp mrg mme msn mbg mhd mfo mfi mmy mwa mwn mba mdy mkn mfa mpl men mpg mct mim))) := by
  subst hx
  refine Ct.of ⟨by decide +kernel, rfl⟩ (Nat.le_of_ble_eq_true rfl) (lv := [some (.ref 16), some (.int (nI p)), some (.int y), none]) rfl ?_
  refine Run.blk (gs := [True, True, True, True]) (S' := ([some (.ref 16), some (.int (nI p)), some (.int y), none], [.int (nI p)], Ac fp le lp lb il tf tz bf rfc fr mp sc ifp ib ie pw dh rl rb re sy sb rc sg (Bc (0 : Int32) mfr msz mtf mmp mrg mme msn mbg mhd mfo mfi mmy mwa mwn mba mdy mkn mfa mpl men mpg mct mim))) k_M_protect_0 kc_M_protect_0 rfl ⟨trivial, trivial, trivial, trivial, trivial⟩ ?_
  refine Run.callS (As := [.int (nI p)]) (rest := []) v_M_protect_6 (c_M_isPage (nI p)) rfl (Nat.le_of_ble_eq_true rfl) rfl (fun r cs' hp => ?_)
  obtain ⟨rfl, rfl⟩ := hp
  show Run _ _ _ _ 9 ([some (.ref 16), some (.int (nI p)), some (.int y), none], [.int (if 0 ≤ (nI p).toInt ∧ (nI p).toInt < 64 then 1 else 0)], Ac fp le lp lb il tf tz bf rfc fr mp sc ifp ib ie pw dh rl rb re sy sb rc sg (Bc (0 : Int32) mfr msz mtf mmp mrg mme msn mbg mhd mfo mfi mmy mwa mwn mba mdy mkn mfa mpl men mpg mct mim)) _
  refine Run.br (tgt := 22) d_M_protect_9 rfl (by decide) (fun c_1 => ?_) (fun c_1 => ?_)
  · have c_1 := zi_f c_1
    exfalso; apply c_1; rw [nI_toInt (show p < 2 ^ 31 by omega)]; omega
  · have c_1 := zi_t c_1
    refine Run.blk (gs := [True, True, True]) (S' := ([some (.ref 16), some (.int (nI p)), some (.int y), none], [.int (7 : Int32), .int (0 : Int32), .int y], Ac fp le lp lb il tf tz bf rfc fr mp sc ifp ib ie pw dh rl rb re sy sb rc sg (Bc (0 : Int32) mfr msz mtf mmp mrg mme msn mbg mhd mfo mfi mmy mwa mwn mba mdy mkn mfa mpl men mpg mct mim))) k_M_protect_12 kc_M_protect_12 rfl ⟨trivial, trivial, trivial, trivial⟩ ?_
    refine Run.callS (As := [.int y, .int (0 : Int32), .int (7 : Int32)]) (rest := []) v_M_protect_16 (c_M_in y (0 : Int32) (7 : Int32)) rfl (Nat.le_of_ble_eq_true rfl) rfl (fun r cs' hp => ?_)
    obtain ⟨rfl, rfl⟩ := hp
    show Run _ _ _ _ 19 ([some (.ref 16), some (.int (nI p)), some (.int y), none], [.int (if (0 : Int32).toInt ≤ y.toInt ∧ y.toInt ≤ (7 : Int32).toInt then 1 else 0)], Ac fp le lp lb il tf tz bf rfc fr mp sc ifp ib ie pw dh rl rb re sy sb rc sg (Bc (0 : Int32) mfr msz mtf mmp mrg mme msn mbg mhd mfo mfi mmy mwa mwn mba mdy mkn mfa mpl men mpg mct mim)) _
    refine Run.br (tgt := 25) d_M_protect_19 rfl (by decide) (fun c_2 => ?_) (fun c_2 => ?_)
    · have c_2 := zi_t c_2
      refine Run.blk (gs := [True, True, True, vp_in (nI p) 64]) (S' := ([some (.ref 16), some (.int (nI p)), some (.int y), none], [.int (mmp (nI p).toNatClampNeg)], Ac fp le lp lb il tf tz bf rfc fr mp sc ifp ib ie pw dh rl rb re sy sb rc sg (Bc (0 : Int32) mfr msz mtf mmp mrg mme msn mbg mhd mfo mfi mmy mwa mwn mba mdy mkn mfa mpl men mpg mct mim))) k_M_protect_25 kc_M_protect_25 rfl ⟨trivial, trivial, trivial, (vp_in_nI (show p < 64 by omega) (by decide)), trivial⟩ ?_
      refine Run.br (tgt := 37) d_M_protect_31 rfl (by decide) (fun c_3 => ?_) (fun c_3 => ?_)
      · rw [nI_clamp (by omega), hR.m0 hp] at c_3
        exact absurd hr c_3
      · have c_3 := Classical.not_not.mp c_3
        rw [nI_clamp (by omega), hR.m0 hp] at c_3
        refine Run.blk (gs := [True]) (S' := ([some (.ref 16), some (.int (nI p)), some (.int y), none], [.int (-3 : Int32)], Ac fp le lp lb il tf tz bf rfc fr mp sc ifp ib ie pw dh rl rb re sy sb rc sg (Bc (0 : Int32) mfr msz mtf mmp mrg mme msn mbg mhd mfo mfi mmy mwa mwn mba mdy mkn mfa mpl men mpg mct mim))) k_M_protect_34 kc_M_protect_34 rfl ⟨trivial, trivial⟩ ?_
        exact Run.ret (r := some (.int (-3 : Int32))) ⟨d_M_protect_36, _, rfl, rfl⟩ ⟨rfl, rfl⟩
    · have c_2 := zi_f (Classical.not_not.mp c_2)
      exact absurd (by rw [t0, ti7]; exact hy) c_2
set_option maxRecDepth 100000 in
set_option maxHeartbeats 4000000 in
theorem c_M_protect_C (hR : Rm rf mmp mrg) {p : Nat} {x y : Int32} (hx : x = nI p) (hp : p < 64) (hy : 0 ≤ y.toInt ∧ y.toInt ≤ 7) (hr : ¬ rf p = -1) : Ct m_M_protect 0 0 [.ref 16, .int x, .int y] (Ac fp le lp lb il tf tz bf rfc fr mp sc ifp ib ie pw dh rl rb re sy sb rc sg (Bc mth mfr msz mtf mmp mrg mme msn mbg mhd mfo mfi mmy mwa mwn mba mdy mkn mfa mpl men mpg mct mim)) (vm_is (some (.int (rf p))) (Ac fp le lp lb il tf tz bf rfc fr mp sc ifp ib ie pw dh rl rb re sy sb rc sg (Bc (0 : Int32) mfr msz mtf mmp (upd mrg p y) mme msn mbg mhd mfo mfi mmy mwa mwn mba mdy mkn mfa mpl men mpg mct mim))) := by
  subst hx
  refine Ct.of ⟨by decide +kernel, rfl⟩ (Nat.le_of_ble_eq_true rfl) (lv := [some (.ref 16), some (.int (nI p)), some (.int y), none]) rfl ?_
  refine Run.blk (gs := [True, True, True, True]) (S' := ([some (.ref 16), some (.int (nI p)), some (.int y), none], [.int (nI p)], Ac fp le lp lb il tf tz bf rfc fr mp sc ifp ib ie pw dh rl rb re sy sb rc sg (Bc (0 : Int32) mfr msz mtf mmp mrg mme msn mbg mhd mfo mfi mmy mwa mwn mba mdy mkn mfa mpl men mpg mct mim))) k_M_protect_0 kc_M_protect_0 rfl ⟨trivial, trivial, trivial, trivial, trivial⟩ ?_
  refine Run.callS (As := [.int (nI p)]) (rest := []) v_M_protect_6 (c_M_isPage (nI p)) rfl (Nat.le_of_ble_eq_true rfl) rfl (fun r cs' hp => ?_)
  obtain ⟨rfl, rfl⟩ := hp
  show Run _ _ _ _ 9 ([some (.ref 16), some (.int (nI p)), some (.int y), none], [.int (if 0 ≤ (nI p).toInt ∧ (nI p).toInt < 64 then 1 else 0)], Ac fp le lp lb il tf tz bf rfc fr mp sc ifp ib ie pw dh rl rb re sy sb rc sg (Bc (0 : Int32) mfr msz mtf mmp mrg mme msn mbg mhd mfo mfi mmy mwa mwn mba mdy mkn mfa mpl men mpg mct mim)) _
  refine Run.br (tgt := 22) d_M_protect_9 rfl (by decide) (fun c_1 => ?_) (fun c_1 => ?_)
  · have c_1 := zi_f c_1
    exfalso; apply c_1; rw [nI_toInt (show p < 2 ^ 31 by omega)]; omega
  · have c_1 := zi_t c_1
    refine Run.blk (gs := [True, True, True]) (S' := ([some (.ref 16), some (.int (nI p)), some (.int y), none], [.int (7 : Int32), .int (0 : Int32), .int y], Ac fp le lp lb il tf tz bf rfc fr mp sc ifp ib ie pw dh rl rb re sy sb rc sg (Bc (0 : Int32) mfr msz mtf mmp mrg mme msn mbg mhd mfo mfi mmy mwa mwn mba mdy mkn mfa mpl men mpg mct mim))) k_M_protect_12 kc_M_protect_12 rfl ⟨trivial, trivial, trivial, trivial⟩ ?_
    refine Run.callS (As := [.int y, .int (0 : Int32), .int (7 : Int32)]) (rest := []) v_M_protect_16 (c_M_in y (0 : Int32) (7 : Int32)) rfl (Nat.le_of_ble_eq_true rfl) rfl (fun r cs' hp => ?_)
    obtain ⟨rfl, rfl⟩ := hp
    show Run _ _ _ _ 19 ([some (.ref 16), some (.int (nI p)), some (.int y), none], [.int (if (0 : Int32).toInt ≤ y.toInt ∧ y.toInt ≤ (7 : Int32).toInt then 1 else 0)], Ac fp le lp lb il tf tz bf rfc fr mp sc ifp ib ie pw dh rl rb re sy sb rc sg (Bc (0 : Int32) mfr msz mtf mmp mrg mme msn mbg mhd mfo mfi mmy mwa mwn mba mdy mkn mfa mpl men mpg mct mim)) _
    refine Run.br (tgt := 25) d_M_protect_19 rfl (by decide) (fun c_2 => ?_) (fun c_2 => ?_)
    · have c_2 := zi_t c_2
      refine Run.blk (gs := [True, True, True, vp_in (nI p) 64]) (S' := ([some (.ref 16), some (.int (nI p)), some (.int y), none], [.int (mmp (nI p).toNatClampNeg)], Ac fp le lp lb il tf tz bf rfc fr mp sc ifp ib ie pw dh rl rb re sy sb rc sg (Bc (0 : Int32) mfr msz mtf mmp mrg mme msn mbg mhd mfo mfi mmy mwa mwn mba mdy mkn mfa mpl men mpg mct mim))) k_M_protect_25 kc_M_protect_25 rfl ⟨trivial, trivial, trivial, (vp_in_nI (show p < 64 by omega) (by decide)), trivial⟩ ?_
      refine Run.br (tgt := 37) d_M_protect_31 rfl (by decide) (fun c_3 => ?_) (fun c_3 => ?_)
      · rw [nI_clamp (by omega), hR.m0 hp] at c_3
        refine Run.blk (gs := [True, True, True, vp_in (nI p) 64, True, True, True, True, True, vp_in (nI p) 64, True]) (S' := ([some (.ref 16), some (.int (nI p)), some (.int y), some (.int (mrg (nI p).toNatClampNeg))], [.int (mrg (nI p).toNatClampNeg)], Ac fp le lp lb il tf tz bf rfc fr mp sc ifp ib ie pw dh rl rb re sy sb rc sg (Bc (0 : Int32) mfr msz mtf mmp (upd mrg (nI p).toNatClampNeg y) mme msn mbg mhd mfo mfi mmy mwa mwn mba mdy mkn mfa mpl men mpg mct mim))) k_M_protect_37 kc_M_protect_37 rfl ⟨trivial, trivial, trivial, (vp_in_nI (show p < 64 by omega) (by decide)), trivial, trivial, trivial, trivial, trivial, (vp_in_nI (show p < 64 by omega) (by decide)), trivial, trivial⟩ ?_
        rw [nI_clamp (by omega)]
        exact Run.ret (r := some (.int (mrg p))) ⟨d_M_protect_52, _, rfl, rfl⟩ ⟨by rw [hR.r hp hr], rfl⟩
      · have c_3 := Classical.not_not.mp c_3
        rw [nI_clamp (by omega), hR.m0 hp] at c_3
        exact absurd c_3 hr
    · have c_2 := zi_f (Classical.not_not.mp c_2)
      exact absurd (by rw [t0, ti7]; exact hy) c_2
set_option maxRecDepth 100000 in
set_option maxHeartbeats 4000000 in
theorem c_M_unmap_A {x y : Int32} (hx : ¬ (1 ≤ y.toInt ∧ 0 ≤ x.toInt ∧ x.toInt + y.toInt ≤ 64)) : Ct m_M_unmap 0 0 [.ref 16, .int x, .int y] (Ac fp le lp lb il tf tz bf rfc fr mp sc ifp ib ie pw dh rl rb re sy sb rc sg (Bc mth mfr msz mtf mmp mrg mme msn mbg mhd mfo mfi mmy mwa mwn mba mdy mkn mfa mpl men mpg mct mim)) (vm_is (some (.int (-2 : Int32))) (Ac fp le lp lb il tf tz bf rfc fr mp sc ifp ib ie pw dh rl rb re sy sb rc sg (Bc (0 : Int32) mfr msz mtf mmp mrg mme msn mbg mhd mfo mfi mmy mwa mwn mba mdy mkn mfa mpl men mpg mct mim))) := by
  refine Ct.of ⟨by decide +kernel, rfl⟩ (Nat.le_of_ble_eq_true rfl) (lv := [some (.ref 16), some (.int x), some (.int y), none, none]) rfl ?_
  refine Run.blk (gs := [True, True, True, True]) (S' := ([some (.ref 16), some (.int x), some (.int y), none, none], [.int x], Ac fp le lp lb il tf tz bf rfc fr mp sc ifp ib ie pw dh rl rb re sy sb rc sg (Bc (0 : Int32) mfr msz mtf mmp mrg mme msn mbg mhd mfo mfi mmy mwa mwn mba mdy mkn mfa mpl men mpg mct mim))) k_M_unmap_0 kc_M_unmap_0 rfl ⟨trivial, trivial, trivial, trivial, trivial⟩ ?_
  refine Run.callS (As := [.int x]) (rest := []) v_M_unmap_6 (c_M_isPage x) rfl (Nat.le_of_ble_eq_true rfl) rfl (fun r cs' hp => ?_)
  obtain ⟨rfl, rfl⟩ := hp
  show Run _ _ _ _ 9 ([some (.ref 16), some (.int x), some (.int y), none, none], [.int (if 0 ≤ x.toInt ∧ x.toInt < 64 then 1 else 0)], Ac fp le lp lb il tf tz bf rfc fr mp sc ifp ib ie pw dh rl rb re sy sb rc sg (Bc (0 : Int32) mfr msz mtf mmp mrg mme msn mbg mhd mfo mfi mmy mwa mwn mba mdy mkn mfa mpl men mpg mct mim)) _
  refine Run.br (tgt := 24) d_M_unmap_9 rfl (by decide) (fun c_1 => ?_) (fun c_1 => ?_)
  · have c_1 := zi_f c_1
    refine Run.blk (gs := [True]) (S' := ([some (.ref 16), some (.int x), some (.int y), none, none], [.int (-2 : Int32)], Ac fp le lp lb il tf tz bf rfc fr mp sc ifp ib ie pw dh rl rb re sy sb rc sg (Bc (0 : Int32) mfr msz mtf mmp mrg mme msn mbg mhd mfo mfi mmy mwa mwn mba mdy mkn mfa mpl men mpg mct mim))) k_M_unmap_24 kc_M_unmap_24 rfl ⟨trivial, trivial⟩ ?_
    exact Run.ret (r := some (.int (-2 : Int32))) ⟨d_M_unmap_26, _, rfl, rfl⟩ ⟨rfl, rfl⟩
  · have c_1 := zi_t c_1
    refine Run.blk (gs := [True, True, True, True, True]) (S' := ([some (.ref 16), some (.int x), some (.int y), none, none], [.int ((64 : Int32) - x), .int (1 : Int32), .int y], Ac fp le lp lb il tf tz bf rfc fr mp sc ifp ib ie pw dh rl rb re sy sb rc sg (Bc (0 : Int32) mfr msz mtf mmp mrg mme msn mbg mhd mfo mfi mmy mwa mwn mba mdy mkn mfa mpl men mpg mct mim))) k_M_unmap_12 kc_M_unmap_12 rfl ⟨trivial, trivial, trivial, trivial, trivial, trivial⟩ ?_
    refine Run.callS (As := [.int y, .int (1 : Int32), .int ((64 : Int32) - x)]) (rest := []) v_M_unmap_18 (c_M_in y (1 : Int32) ((64 : Int32) - x)) rfl (Nat.le_of_ble_eq_true rfl) rfl (fun r cs' hp => ?_)
    obtain ⟨rfl, rfl⟩ := hp
    show Run _ _ _ _ 21 ([some (.ref 16), some (.int x), some (.int y), none, none], [.int (if (1 : Int32).toInt ≤ y.toInt ∧ y.toInt ≤ ((64 : Int32) - x).toInt then 1 else 0)], Ac fp le lp lb il tf tz bf rfc fr mp sc ifp ib ie pw dh rl rb re sy sb rc sg (Bc (0 : Int32) mfr msz mtf mmp mrg mme msn mbg mhd mfo mfi mmy mwa mwn mba mdy mkn mfa mpl men mpg mct mim)) _
    refine Run.br (tgt := 27) d_M_unmap_21 rfl (by decide) (fun c_2 => ?_) (fun c_2 => ?_)
    · have c_2 := zi_t c_2
      exfalso; rw [i32_sub (by decide) (by decide) (by omega) (by omega), t64, t1] at c_2; omega
    · have c_2 := zi_f (Classical.not_not.mp c_2)
      refine Run.blk (gs := [True]) (S' := ([some (.ref 16), some (.int x), some (.int y), none, none], [.int (-2 : Int32)], Ac fp le lp lb il tf tz bf rfc fr mp sc ifp ib ie pw dh rl rb re sy sb rc sg (Bc (0 : Int32) mfr msz mtf mmp mrg mme msn mbg mhd mfo mfi mmy mwa mwn mba mdy mkn mfa mpl men mpg mct mim))) k_M_unmap_24 kc_M_unmap_24 rfl ⟨trivial, trivial⟩ ?_
      exact Run.ret (r := some (.int (-2 : Int32))) ⟨d_M_unmap_26, _, rfl, rfl⟩ ⟨rfl, rfl⟩
set_option maxRecDepth 100000 in
set_option maxHeartbeats 4000000 in
theorem l_M_unmap (hR : Rm rf mmp mrg) {p k : Nat} (hpk : p + k ≤ 64) : ∀ (r i : Nat) (f v : Int32) (mq : Nat → Int32), v = nI (p + i) → f = nI (cntM rf p i) → mq = fillI mmp p i 0 → i + r = k → Run m_M_unmap n 0 0 32 ([some (.ref 16), some (.int (nI p)), some (.int (nI k)), some (.int f), some (.int v)], [], Ac fp le lp lb il tf tz bf rfc fr mp sc ifp ib ie pw dh rl rb re sy sb rc sg (Bc (0 : Int32) mfr msz mtf mq mrg mme msn mbg mhd mfo mfi mmy mwa mwn mba mdy mkn mfa mpl men mpg mct mim)) (vm_is (some (.int (nI (cntM rf p k)))) (Ac fp le lp lb il tf tz bf rfc fr mp sc ifp ib ie pw dh rl rb re sy sb rc sg (Bc (0 : Int32) mfr msz mtf (fillI mmp p k 0) mrg mme msn mbg mhd mfo mfi mmy mwa mwn mba mdy mkn mfa mpl men mpg mct mim)))
  | 0, i, f, v, mq, hv, hf, hmq, h => by
    have hik : i = k := by omega
    refine Run.blk (gs := [True, True, True, True]) (S' := ([some (.ref 16), some (.int (nI p)), some (.int (nI k)), some (.int f), some (.int v)], [.int ((nI p) + (nI k)), .int v], Ac fp le lp lb il tf tz bf rfc fr mp sc ifp ib ie pw dh rl rb re sy sb rc sg (Bc (0 : Int32) mfr msz mtf mq mrg mme msn mbg mhd mfo mfi mmy mwa mwn mba mdy mkn mfa mpl men mpg mct mim))) k_M_unmap_32 kc_M_unmap_32 rfl ⟨trivial, trivial, trivial, trivial, trivial⟩ ?_
    refine Run.br (tgt := 72) d_M_unmap_37 rfl (by decide) (fun c_1 => ?_) (fun c_1 => ?_)
    · refine Run.blk (gs := [True]) (S' := ([some (.ref 16), some (.int (nI p)), some (.int (nI k)), some (.int f), some (.int v)], [.int f], Ac fp le lp lb il tf tz bf rfc fr mp sc ifp ib ie pw dh rl rb re sy sb rc sg (Bc (0 : Int32) mfr msz mtf mq mrg mme msn mbg mhd mfo mfi mmy mwa mwn mba mdy mkn mfa mpl men mpg mct mim))) k_M_unmap_72 kc_M_unmap_72 rfl ⟨trivial, trivial⟩ ?_
      exact Run.ret (r := some (.int f)) ⟨d_M_unmap_73, _, rfl, rfl⟩ ⟨by rw [hf, hik], by rw [hmq, hik]⟩
    · exact absurd (by rw [hv, hik, nI_add]; exact Int32.le_refl _) c_1
  | r + 1, i, f, v, mq, hv, hf, hmq, h => by
    refine Run.blk (gs := [True, True, True, True]) (S' := ([some (.ref 16), some (.int (nI p)), some (.int (nI k)), some (.int f), some (.int v)], [.int ((nI p) + (nI k)), .int v], Ac fp le lp lb il tf tz bf rfc fr mp sc ifp ib ie pw dh rl rb re sy sb rc sg (Bc (0 : Int32) mfr msz mtf mq mrg mme msn mbg mhd mfo mfi mmy mwa mwn mba mdy mkn mfa mpl men mpg mct mim))) k_M_unmap_32 kc_M_unmap_32 rfl ⟨trivial, trivial, trivial, trivial, trivial⟩ ?_
    refine Run.br (tgt := 72) d_M_unmap_37 rfl (by decide) (fun c_1 => ?_) (fun c_1 => ?_)
    · exact absurd c_1 (by rw [hv, nI_add]; exact nI_ge (show p + i < p + k by omega) (by omega))
    · refine Run.blk (gs := [True, True, True, True, vp_in v 64]) (S' := ([some (.ref 16), some (.int (nI p)), some (.int (nI k)), some (.int f), some (.int v)], [.int (mq v.toNatClampNeg), .int f], Ac fp le lp lb il tf tz bf rfc fr mp sc ifp ib ie pw dh rl rb re sy sb rc sg (Bc (0 : Int32) mfr msz mtf mq mrg mme msn mbg mhd mfo mfi mmy mwa mwn mba mdy mkn mfa mpl men mpg mct mim))) k_M_unmap_40 kc_M_unmap_40 rfl ⟨trivial, trivial, trivial, trivial, (by rw [hv]; exact vp_in_nI (show p + i < 64 by omega) (by decide)), trivial⟩ ?_
      refine Run.br (tgt := 55) d_M_unmap_48 rfl (by decide) (fun c_2 => ?_) (fun c_2 => ?_)
      · rw [hv, nI_clamp (by omega), hmq, fillI_hi (by omega), hR.m0 (by omega)] at c_2
        refine Run.blk (gs := [True]) (S' := ([some (.ref 16), some (.int (nI p)), some (.int (nI k)), some (.int f), some (.int v)], [.int (0 : Int32), .int f], Ac fp le lp lb il tf tz bf rfc fr mp sc ifp ib ie pw dh rl rb re sy sb rc sg (Bc (0 : Int32) mfr msz mtf mq mrg mme msn mbg mhd mfo mfi mmy mwa mwn mba mdy mkn mfa mpl men mpg mct mim))) k_M_unmap_55 kc_M_unmap_55 rfl ⟨trivial, trivial⟩ ?_
        refine Run.blk (gs := [True, True, True, True, True, True, vp_in v 64, True]) (S' := ([some (.ref 16), some (.int (nI p)), some (.int (nI k)), some (.int (f + (0 : Int32))), some (.int (v + (1 : Int32)))], [], Ac fp le lp lb il tf tz bf rfc fr mp sc ifp ib ie pw dh rl rb re sy sb rc sg (Bc (0 : Int32) mfr msz mtf (upd mq v.toNatClampNeg (vp_nar .boolean (0 : Int32))) mrg mme msn mbg mhd mfo mfi mmy mwa mwn mba mdy mkn mfa mpl men mpg mct mim))) k_M_unmap_56 kc_M_unmap_56 rfl ⟨trivial, trivial, trivial, trivial, trivial, trivial, (by rw [hv]; exact vp_in_nI (show p + i < 64 by omega) (by decide)), trivial, trivial⟩ ?_
        refine Run.goto (tgt := 32) d_M_unmap_69 (by decide) ?_
        exact l_M_unmap hR hpk r (i + 1) _ _ _ (by rw [hv, nI_1]; rfl) (by rw [hf, a0, cntM, if_pos c_2]; rfl) (by rw [hv, nI_clamp (by omega), hmq]; exact fillI_s mmp p i 0) (by omega)
      · rw [hv, nI_clamp (by omega), hmq, fillI_hi (by omega), hR.m0 (by omega)] at c_2
        refine Run.blk (gs := [True]) (S' := ([some (.ref 16), some (.int (nI p)), some (.int (nI k)), some (.int f), some (.int v)], [.int (1 : Int32), .int f], Ac fp le lp lb il tf tz bf rfc fr mp sc ifp ib ie pw dh rl rb re sy sb rc sg (Bc (0 : Int32) mfr msz mtf mq mrg mme msn mbg mhd mfo mfi mmy mwa mwn mba mdy mkn mfa mpl men mpg mct mim))) k_M_unmap_51 kc_M_unmap_51 rfl ⟨trivial, trivial⟩ ?_
        refine Run.goto (tgt := 56) d_M_unmap_52 (by decide) ?_
        refine Run.blk (gs := [True, True, True, True, True, True, vp_in v 64, True]) (S' := ([some (.ref 16), some (.int (nI p)), some (.int (nI k)), some (.int (f + (1 : Int32))), some (.int (v + (1 : Int32)))], [], Ac fp le lp lb il tf tz bf rfc fr mp sc ifp ib ie pw dh rl rb re sy sb rc sg (Bc (0 : Int32) mfr msz mtf (upd mq v.toNatClampNeg (vp_nar .boolean (0 : Int32))) mrg mme msn mbg mhd mfo mfi mmy mwa mwn mba mdy mkn mfa mpl men mpg mct mim))) k_M_unmap_56 kc_M_unmap_56 rfl ⟨trivial, trivial, trivial, trivial, trivial, trivial, (by rw [hv]; exact vp_in_nI (show p + i < 64 by omega) (by decide)), trivial, trivial⟩ ?_
        refine Run.goto (tgt := 32) d_M_unmap_69 (by decide) ?_
        exact l_M_unmap hR hpk r (i + 1) _ _ _ (by rw [hv, nI_1]; rfl) (by rw [hf, nI_1, cntM, if_neg c_2]) (by rw [hv, nI_clamp (by omega), hmq]; exact fillI_s mmp p i 0) (by omega)
set_option maxRecDepth 100000 in
set_option maxHeartbeats 4000000 in
theorem c_M_unmap_B (hR : Rm rf mmp mrg) {p k : Nat} {x y : Int32} (hx : x = nI p) (hy : y = nI k) (h1 : 1 ≤ k) (h2 : p + k ≤ 64) : Ct m_M_unmap 0 0 [.ref 16, .int x, .int y] (Ac fp le lp lb il tf tz bf rfc fr mp sc ifp ib ie pw dh rl rb re sy sb rc sg (Bc mth mfr msz mtf mmp mrg mme msn mbg mhd mfo mfi mmy mwa mwn mba mdy mkn mfa mpl men mpg mct mim)) (vm_is (some (.int (nI (cntM rf p k)))) (Ac fp le lp lb il tf tz bf rfc fr mp sc ifp ib ie pw dh rl rb re sy sb rc sg (Bc (0 : Int32) mfr msz mtf (fillI mmp p k 0) mrg mme msn mbg mhd mfo mfi mmy mwa mwn mba mdy mkn mfa mpl men mpg mct mim))) := by
  subst hx
  subst hy
  refine Ct.of ⟨by decide +kernel, rfl⟩ (Nat.le_of_ble_eq_true rfl) (lv := [some (.ref 16), some (.int (nI p)), some (.int (nI k)), none, none]) rfl ?_
  refine Run.blk (gs := [True, True, True, True]) (S' := ([some (.ref 16), some (.int (nI p)), some (.int (nI k)), none, none], [.int (nI p)], Ac fp le lp lb il tf tz bf rfc fr mp sc ifp ib ie pw dh rl rb re sy sb rc sg (Bc (0 : Int32) mfr msz mtf mmp mrg mme msn mbg mhd mfo mfi mmy mwa mwn mba mdy mkn mfa mpl men mpg mct mim))) k_M_unmap_0 kc_M_unmap_0 rfl ⟨trivial, trivial, trivial, trivial, trivial⟩ ?_
  refine Run.callS (As := [.int (nI p)]) (rest := []) v_M_unmap_6 (c_M_isPage (nI p)) rfl (Nat.le_of_ble_eq_true rfl) rfl (fun r cs' hp => ?_)
  obtain ⟨rfl, rfl⟩ := hp
  show Run _ _ _ _ 9 ([some (.ref 16), some (.int (nI p)), some (.int (nI k)), none, none], [.int (if 0 ≤ (nI p).toInt ∧ (nI p).toInt < 64 then 1 else 0)], Ac fp le lp lb il tf tz bf rfc fr mp sc ifp ib ie pw dh rl rb re sy sb rc sg (Bc (0 : Int32) mfr msz mtf mmp mrg mme msn mbg mhd mfo mfi mmy mwa mwn mba mdy mkn mfa mpl men mpg mct mim)) _
  refine Run.br (tgt := 24) d_M_unmap_9 rfl (by decide) (fun c_1 => ?_) (fun c_1 => ?_)
  · have c_1 := zi_f c_1
    exfalso; apply c_1; rw [nI_toInt (show p < 2 ^ 31 by omega)]; omega
  · have c_1 := zi_t c_1
    refine Run.blk (gs := [True, True, True, True, True]) (S' := ([some (.ref 16), some (.int (nI p)), some (.int (nI k)), none, none], [.int ((64 : Int32) - (nI p)), .int (1 : Int32), .int (nI k)], Ac fp le lp lb il tf tz bf rfc fr mp sc ifp ib ie pw dh rl rb re sy sb rc sg (Bc (0 : Int32) mfr msz mtf mmp mrg mme msn mbg mhd mfo mfi mmy mwa mwn mba mdy mkn mfa mpl men mpg mct mim))) k_M_unmap_12 kc_M_unmap_12 rfl ⟨trivial, trivial, trivial, trivial, trivial, trivial⟩ ?_
    refine Run.callS (As := [.int (nI k), .int (1 : Int32), .int ((64 : Int32) - (nI p))]) (rest := []) v_M_unmap_18 (c_M_in (nI k) (1 : Int32) ((64 : Int32) - (nI p))) rfl (Nat.le_of_ble_eq_true rfl) rfl (fun r cs' hp => ?_)
    obtain ⟨rfl, rfl⟩ := hp
    show Run _ _ _ _ 21 ([some (.ref 16), some (.int (nI p)), some (.int (nI k)), none, none], [.int (if (1 : Int32).toInt ≤ (nI k).toInt ∧ (nI k).toInt ≤ ((64 : Int32) - (nI p)).toInt then 1 else 0)], Ac fp le lp lb il tf tz bf rfc fr mp sc ifp ib ie pw dh rl rb re sy sb rc sg (Bc (0 : Int32) mfr msz mtf mmp mrg mme msn mbg mhd mfo mfi mmy mwa mwn mba mdy mkn mfa mpl men mpg mct mim)) _
    refine Run.br (tgt := 27) d_M_unmap_21 rfl (by decide) (fun c_2 => ?_) (fun c_2 => ?_)
    · have c_2 := zi_t c_2
      refine Run.blk (gs := [True, True, True, True]) (S' := ([some (.ref 16), some (.int (nI p)), some (.int (nI k)), some (.int (0 : Int32)), some (.int (nI p))], [], Ac fp le lp lb il tf tz bf rfc fr mp sc ifp ib ie pw dh rl rb re sy sb rc sg (Bc (0 : Int32) mfr msz mtf mmp mrg mme msn mbg mhd mfo mfi mmy mwa mwn mba mdy mkn mfa mpl men mpg mct mim))) k_M_unmap_27 kc_M_unmap_27 rfl ⟨trivial, trivial, trivial, trivial, trivial⟩ ?_
      exact l_M_unmap hR h2 k 0 _ _ _ rfl rfl (fillI_0 _ _ _).symm (by omega)
    · have c_2 := zi_f (Classical.not_not.mp c_2)
      exfalso; apply c_2; rw [i32_sub (by decide) (by decide) (by rw [nI_toInt (show p < 2 ^ 31 by omega)]; omega) (by rw [nI_toInt (show p < 2 ^ 31 by omega)]; omega), t64, t1, nI_toInt (show p < 2 ^ 31 by omega), nI_toInt (show k < 2 ^ 31 by omega)]; omega
end P22
