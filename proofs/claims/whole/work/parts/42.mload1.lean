section P42
variable {fp le lp lb il : Int32} {tf bf rf : Nat → Int32} {tz fr mp sc ifp ib ie pw dh rc : Int32} {rl rb re sy sb : Int64} {sg : Nat → A_G} {ex : List va_E}
variable {mth mfr msz msn mwn mba mdy mfa mpl men mpg mct mim : Int32} {mtf mmp mrg mme mfo mfi mmy mwa : Nat → Int32} {mbg mhd mkn : Nat → Int64} {rfc : Nat → Int32}
variable {cs : List va_E} {n : Nat} {t b : Nat → Nat} {z : Nat} {L : List SG} {O Ad St Fi He Al : Nat} {fl : Int32} {K : Nat → Nat}
theorem half_m {p : Nat} (ht : ∀ j, t j < 256) (h : p + 2 ≤ z) : nI (t p) ||| (nI (t (p + 1)) <<< ((8 : Int32) &&& 31)) = nI (hN t z p) := by
  rw [nI_sh8 (ht _), nI_or (k := 8) (ht p)]
  unfold hN
  rw [tb_in (by omega), tb_in (by omega)]
  congr 1; omega
theorem word_m {p : Nat} (ht : ∀ j, t j < 256) (h : p + 4 ≤ z) : (nI (hN t z p)).toInt64 ||| ((nI (hN t z (p + 2))).toInt64 <<< ((16 : Int32).toInt64 &&& 63)) = lN (wN t z p) := by
  have h1 := hN_lt ht z p
  have h2 := hN_lt ht z (p + 2)
  rw [nI_l (n := hN t z p) (by omega), l_sh (hN t z (p + 2)) (by omega) (y := 16) (k := 16) rfl (by decide), g_or' (k := 16) rfl (by omega) (by omega)]
  congr 1
  unfold hN wN
  rw [show p + 2 + 1 = p + 3 from rfl]
  omega
theorem c_M_inN {a lo hi : Nat} (ha : a < 2 ^ 31) (hlo : lo < 2 ^ 31) (hhi : hi < 2 ^ 31) {x y w : Int32} (hx : x = nI a) (hy : y = nI lo) (hw : w = nI hi) : Ct m_M_in 0 0 [.int x, .int y, .int w] cs (vm_is (some (.int (if lo ≤ a ∧ a ≤ hi then 1 else 0))) cs) := by
  subst hx; subst hy; subst hw
  have h := c_M_in (cs := cs) (nI a) (nI lo) (nI hi)
  rw [nI_toInt ha, nI_toInt hlo, nI_toInt hhi] at h
  have e : (if (lo : Int) ≤ (a : Int) ∧ (a : Int) ≤ (hi : Int) then (1 : Int32) else 0) = if lo ≤ a ∧ a ≤ hi then 1 else 0 := ite_congr (propext ⟨fun w => by omega, fun w => by omega⟩) (fun _ => rfl) (fun _ => rfl)
  rw [e] at h
  exact h
theorem G_mag_ge {i : Nat} (h : 4 ≤ i) : G_mag i = 1 := by
  obtain ⟨j, rfl⟩ : ∃ j, i = j + 4 := ⟨i - 4, by omega⟩
  rfl
set_option maxRecDepth 100000 in
set_option maxHeartbeats 4000000 in
theorem c_M_half (ht : ∀ j, t j < 256) (hz : z ≤ 900) {p : Nat} {x : Int32} (hx : x = nI p) (hp : p + 2 ≤ z) : Ct m_M_half 0 0 [.ref 16, .int x] (Ac fp le lp lb il tf tz bf rfc fr mp sc ifp ib ie pw dh rl rb re sy sb rc sg (Bc mth mfr (nI z) (nif t) mmp mrg mme msn mbg mhd mfo mfi mmy mwa mwn mba mdy mkn mfa mpl men mpg mct mim)) (vm_is (some (.int (nI (hN t z p)))) (Ac fp le lp lb il tf tz bf rfc fr mp sc ifp ib ie pw dh rl rb re sy sb rc sg (Bc mth mfr (nI z) (nif t) mmp mrg mme msn mbg mhd mfo mfi mmy mwa mwn mba mdy mkn mfa mpl men mpg mct mim))) := by
  subst hx
  refine Ct.of ⟨by decide +kernel, rfl⟩ (Nat.le_of_ble_eq_true rfl) (lv := [some (.ref 16), some (.int (nI p))]) rfl ?_
  refine Run.blk (gs := [True, True, True, vp_in (nI p) 900, True, True, True, True, True, vp_in ((nI p) + (1 : Int32)) 900, True, True, True]) (S' := ([some (.ref 16), some (.int (nI p))], [.int (((nif t) (nI p).toNatClampNeg) ||| (((nif t) ((nI p) + (1 : Int32)).toNatClampNeg) <<< ((8 : Int32) &&& 31)))], Ac fp le lp lb il tf tz bf rfc fr mp sc ifp ib ie pw dh rl rb re sy sb rc sg (Bc mth mfr (nI z) (nif t) mmp mrg mme msn mbg mhd mfo mfi mmy mwa mwn mba mdy mkn mfa mpl men mpg mct mim))) k_M_half_0 kc_M_half_0 rfl ⟨trivial, trivial, trivial, (vp_in_nI (show p < 900 by omega) (by decide)), trivial, trivial, trivial, trivial, trivial, (by rw [nI_1]; exact vp_in_nI (show p + 1 < 900 by omega) (by decide)), trivial, trivial, trivial, trivial⟩ ?_
  exact Run.ret (r := some (.int (((nif t) (nI p).toNatClampNeg) ||| (((nif t) ((nI p) + (1 : Int32)).toNatClampNeg) <<< ((8 : Int32) &&& 31))))) ⟨d_M_half_18, _, rfl, rfl⟩ ⟨by rw [nI_1, nI_clamp (by omega), nI_clamp (by omega)]; exact congrArg (fun q => some (Value.int q)) (half_m ht hp), rfl⟩
set_option maxRecDepth 100000 in
set_option maxHeartbeats 4000000 in
theorem c_M_word (ht : ∀ j, t j < 256) (hz : z ≤ 900) {p : Nat} {x : Int32} (hx : x = nI p) (hp : p + 4 ≤ z) : Ct m_M_word 0 0 [.ref 16, .int x] (Ac fp le lp lb il tf tz bf rfc fr mp sc ifp ib ie pw dh rl rb re sy sb rc sg (Bc mth mfr (nI z) (nif t) mmp mrg mme msn mbg mhd mfo mfi mmy mwa mwn mba mdy mkn mfa mpl men mpg mct mim)) (vm_is (some (.long (lN (wN t z p)))) (Ac fp le lp lb il tf tz bf rfc fr mp sc ifp ib ie pw dh rl rb re sy sb rc sg (Bc mth mfr (nI z) (nif t) mmp mrg mme msn mbg mhd mfo mfi mmy mwa mwn mba mdy mkn mfa mpl men mpg mct mim))) := by
  subst hx
  refine Ct.of ⟨by decide +kernel, rfl⟩ (Nat.le_of_ble_eq_true rfl) (lv := [some (.ref 16), some (.int (nI p))]) rfl ?_
  refine Run.blk (gs := [True, True]) (S' := ([some (.ref 16), some (.int (nI p))], [.int (nI p), .ref 16], Ac fp le lp lb il tf tz bf rfc fr mp sc ifp ib ie pw dh rl rb re sy sb rc sg (Bc mth mfr (nI z) (nif t) mmp mrg mme msn mbg mhd mfo mfi mmy mwa mwn mba mdy mkn mfa mpl men mpg mct mim))) k_M_word_0 kc_M_word_0 rfl ⟨trivial, trivial, trivial⟩ ?_
  refine Run.callV (b := 16) (As := [.int (nI p)]) (rest := []) v_M_word_2 (c_M_half ht hz (p := p) rfl (by omega)) rfl (Nat.le_of_ble_eq_true rfl) rfl rfl rfl rfl (fun r cs' hp => ?_)
  obtain ⟨rfl, rfl⟩ := hp
  show Run _ _ _ _ 5 ([some (.ref 16), some (.int (nI p))], [.int (nI (hN t z p))], Ac fp le lp lb il tf tz bf rfc fr mp sc ifp ib ie pw dh rl rb re sy sb rc sg (Bc mth mfr (nI z) (nif t) mmp mrg mme msn mbg mhd mfo mfi mmy mwa mwn mba mdy mkn mfa mpl men mpg mct mim)) _
  refine Run.blk (gs := [True, True, True, True, True]) (S' := ([some (.ref 16), some (.int (nI p))], [.int ((nI p) + (2 : Int32)), .ref 16, .long ((nI (hN t z p)).toInt64)], Ac fp le lp lb il tf tz bf rfc fr mp sc ifp ib ie pw dh rl rb re sy sb rc sg (Bc mth mfr (nI z) (nif t) mmp mrg mme msn mbg mhd mfo mfi mmy mwa mwn mba mdy mkn mfa mpl men mpg mct mim))) k_M_word_5 kc_M_word_5 rfl ⟨trivial, trivial, trivial, trivial, trivial, trivial⟩ ?_
  refine Run.callV (b := 16) (As := [.int ((nI p) + (2 : Int32))]) (rest := [.long ((nI (hN t z p)).toInt64)]) v_M_word_10 (c_M_half ht hz (p := p + 2) (nI_add p 2) (by omega)) rfl (Nat.le_of_ble_eq_true rfl) rfl rfl rfl rfl (fun r cs' hp => ?_)
  obtain ⟨rfl, rfl⟩ := hp
  show Run _ _ _ _ 13 ([some (.ref 16), some (.int (nI p))], [.int (nI (hN t z (p + 2))), .long ((nI (hN t z p)).toInt64)], Ac fp le lp lb il tf tz bf rfc fr mp sc ifp ib ie pw dh rl rb re sy sb rc sg (Bc mth mfr (nI z) (nif t) mmp mrg mme msn mbg mhd mfo mfi mmy mwa mwn mba mdy mkn mfa mpl men mpg mct mim)) _
  refine Run.blk (gs := [True, True, True, True]) (S' := ([some (.ref 16), some (.int (nI p))], [.long (((nI (hN t z p)).toInt64) ||| (((nI (hN t z (p + 2))).toInt64) <<< ((16 : Int32).toInt64 &&& 63)))], Ac fp le lp lb il tf tz bf rfc fr mp sc ifp ib ie pw dh rl rb re sy sb rc sg (Bc mth mfr (nI z) (nif t) mmp mrg mme msn mbg mhd mfo mfi mmy mwa mwn mba mdy mkn mfa mpl men mpg mct mim))) k_M_word_13 kc_M_word_13 rfl ⟨trivial, trivial, trivial, trivial, trivial⟩ ?_
  exact Run.ret (r := some (.long (((nI (hN t z p)).toInt64) ||| (((nI (hN t z (p + 2))).toInt64) <<< ((16 : Int32).toInt64 &&& 63))))) ⟨d_M_word_18, rfl⟩ ⟨congrArg (fun q => some (Value.long q)) (word_m ht hp), rfl⟩
set_option maxRecDepth 100000 in
set_option maxHeartbeats 4000000 in
theorem c_M_fail {x y : Int32} : Ct m_M_fail 0 0 [.ref 16, .int x, .int y] (Ac fp le lp lb il tf tz bf rfc fr mp sc ifp ib ie pw dh rl rb re sy sb rc sg (Bc mth mfr msz mtf mmp mrg mme msn mbg mhd mfo mfi mmy mwa mwn mba mdy mkn mfa mpl men mpg mct mim)) (vm_is (some (.int (0 : Int32))) (Ac fp le lp lb il tf tz bf rfc fr mp sc ifp ib ie pw dh rl rb re sy sb rc sg (Bc mth mfr msz mtf mmp mrg mme msn mbg mhd mfo mfi mmy mwa mwn mba mdy mkn x y men mpg mct mim))) := by
  refine Ct.of ⟨by decide +kernel, rfl⟩ (Nat.le_of_ble_eq_true rfl) (lv := [some (.ref 16), some (.int x), some (.int y)]) rfl ?_
  refine Run.blk (gs := [True, True, True, True, True, True, True]) (S' := ([some (.ref 16), some (.int x), some (.int y)], [.int (0 : Int32)], Ac fp le lp lb il tf tz bf rfc fr mp sc ifp ib ie pw dh rl rb re sy sb rc sg (Bc mth mfr msz mtf mmp mrg mme msn mbg mhd mfo mfi mmy mwa mwn mba mdy mkn x y men mpg mct mim))) k_M_fail_0 kc_M_fail_0 rfl ⟨trivial, trivial, trivial, trivial, trivial, trivial, trivial, trivial⟩ ?_
  exact Run.ret (r := some (.int (0 : Int32))) ⟨d_M_fail_11, _, rfl, rfl⟩ ⟨rfl, rfl⟩
set_option maxRecDepth 100000 in
set_option maxHeartbeats 4000000 in
theorem l_M_isHeader (ht : ∀ j, t j < 256) (hz : z ≤ 900) (h52 : 52 ≤ z) : ∀ (k i : Nat) (v : Int32) (q2 : Option Value), v = nI i → i + k = 7 → Run m_M_isHeader n 0 0 21 ([some (.ref 16), some (.int v), q2], [], Ac fp le lp lb il tf tz bf rfc fr mp sc ifp ib ie pw dh rl rb re sy sb rc sg (Bc mth mfr (nI z) (nif t) mmp mrg mme msn mbg mhd mfo mfi mmy mwa mwn mba mdy mkn (0 : Int32) (-1 : Int32) men mpg mct mim)) (vm_is (some (.int (if (hdL t z k i).1 = 0 then 1 else 0))) (Ac fp le lp lb il tf tz bf rfc fr mp sc ifp ib ie pw dh rl rb re sy sb rc sg (Bc mth mfr (nI z) (nif t) mmp mrg mme msn mbg mhd mfo mfi mmy mwa mwn mba mdy mkn ((hdL t z k i).1) ((hdL t z k i).2) men mpg mct mim)))
  | 0, i, v, q2, hv, h => by
    have hik : i = 7 := by omega
    have hw28 := wN_lt ht z 28
    refine Run.blk (gs := [True, True]) (S' := ([some (.ref 16), some (.int v), q2], [.int (7 : Int32), .int v], Ac fp le lp lb il tf tz bf rfc fr mp sc ifp ib ie pw dh rl rb re sy sb rc sg (Bc mth mfr (nI z) (nif t) mmp mrg mme msn mbg mhd mfo mfi mmy mwa mwn mba mdy mkn (0 : Int32) (-1 : Int32) men mpg mct mim))) k_M_isHeader_21 kc_M_isHeader_21 rfl ⟨trivial, trivial, trivial⟩ ?_
    refine Run.br (tgt := 91) d_M_isHeader_24 rfl (by decide) (fun c_1 => ?_) (fun c_1 => ?_)
    · refine Run.blk (gs := [True, True]) (S' := ([some (.ref 16), some (.int v), q2], [.int (16 : Int32), .ref 16], Ac fp le lp lb il tf tz bf rfc fr mp sc ifp ib ie pw dh rl rb re sy sb rc sg (Bc mth mfr (nI z) (nif t) mmp mrg mme msn mbg mhd mfo mfi mmy mwa mwn mba mdy mkn (0 : Int32) (-1 : Int32) men mpg mct mim))) k_M_isHeader_91 kc_M_isHeader_91 rfl ⟨trivial, trivial, trivial⟩ ?_
      refine Run.callV (b := 16) (As := [.int (16 : Int32)]) (rest := []) v_M_isHeader_94 (c_M_half ht hz (p := 16) rfl (by omega)) rfl (Nat.le_of_ble_eq_true rfl) rfl rfl rfl rfl (fun r cs' hp => ?_)
      obtain ⟨rfl, rfl⟩ := hp
      show Run _ _ _ _ 97 ([some (.ref 16), some (.int v), q2], [.int (nI (hN t z 16))], Ac fp le lp lb il tf tz bf rfc fr mp sc ifp ib ie pw dh rl rb re sy sb rc sg (Bc mth mfr (nI z) (nif t) mmp mrg mme msn mbg mhd mfo mfi mmy mwa mwn mba mdy mkn (0 : Int32) (-1 : Int32) men mpg mct mim)) _
      refine Run.blk (gs := [True]) (S' := ([some (.ref 16), some (.int v), q2], [.int (2 : Int32), .int (nI (hN t z 16))], Ac fp le lp lb il tf tz bf rfc fr mp sc ifp ib ie pw dh rl rb re sy sb rc sg (Bc mth mfr (nI z) (nif t) mmp mrg mme msn mbg mhd mfo mfi mmy mwa mwn mba mdy mkn (0 : Int32) (-1 : Int32) men mpg mct mim))) k_M_isHeader_97 kc_M_isHeader_97 rfl ⟨trivial, trivial⟩ ?_
      refine Run.br (tgt := 119) d_M_isHeader_98 rfl (by decide) (fun c_2 => ?_) (fun c_2 => ?_)
      · have c_2 := (nI_eq (a := (hN t z 16)) (b := 2) (Nat.lt_of_lt_of_le (hN_lt ht z _) (by decide)) (by decide)).mp c_2
        refine Run.blk (gs := [True, True]) (S' := ([some (.ref 16), some (.int v), q2], [.int (18 : Int32), .ref 16], Ac fp le lp lb il tf tz bf rfc fr mp sc ifp ib ie pw dh rl rb re sy sb rc sg (Bc mth mfr (nI z) (nif t) mmp mrg mme msn mbg mhd mfo mfi mmy mwa mwn mba mdy mkn (0 : Int32) (-1 : Int32) men mpg mct mim))) k_M_isHeader_119 kc_M_isHeader_119 rfl ⟨trivial, trivial, trivial⟩ ?_
        refine Run.callV (b := 16) (As := [.int (18 : Int32)]) (rest := []) v_M_isHeader_122 (c_M_half ht hz (p := 18) rfl (by omega)) rfl (Nat.le_of_ble_eq_true rfl) rfl rfl rfl rfl (fun r cs' hp => ?_)
        obtain ⟨rfl, rfl⟩ := hp
        show Run _ _ _ _ 125 ([some (.ref 16), some (.int v), q2], [.int (nI (hN t z 18))], Ac fp le lp lb il tf tz bf rfc fr mp sc ifp ib ie pw dh rl rb re sy sb rc sg (Bc mth mfr (nI z) (nif t) mmp mrg mme msn mbg mhd mfo mfi mmy mwa mwn mba mdy mkn (0 : Int32) (-1 : Int32) men mpg mct mim)) _
        refine Run.blk (gs := [True]) (S' := ([some (.ref 16), some (.int v), q2], [.int (243 : Int32), .int (nI (hN t z 18))], Ac fp le lp lb il tf tz bf rfc fr mp sc ifp ib ie pw dh rl rb re sy sb rc sg (Bc mth mfr (nI z) (nif t) mmp mrg mme msn mbg mhd mfo mfi mmy mwa mwn mba mdy mkn (0 : Int32) (-1 : Int32) men mpg mct mim))) k_M_isHeader_125 kc_M_isHeader_125 rfl ⟨trivial, trivial⟩ ?_
        refine Run.br (tgt := 139) d_M_isHeader_128 rfl (by decide) (fun c_3 => ?_) (fun c_3 => ?_)
        · have c_3 := (nI_eq (a := (hN t z 18)) (b := 243) (Nat.lt_of_lt_of_le (hN_lt ht z _) (by decide)) (by decide)).mp c_3
          refine Run.blk (gs := [True, True]) (S' := ([some (.ref 16), some (.int v), q2], [.int (20 : Int32), .ref 16], Ac fp le lp lb il tf tz bf rfc fr mp sc ifp ib ie pw dh rl rb re sy sb rc sg (Bc mth mfr (nI z) (nif t) mmp mrg mme msn mbg mhd mfo mfi mmy mwa mwn mba mdy mkn (0 : Int32) (-1 : Int32) men mpg mct mim))) k_M_isHeader_139 kc_M_isHeader_139 rfl ⟨trivial, trivial, trivial⟩ ?_
          refine Run.callV (b := 16) (As := [.int (20 : Int32)]) (rest := []) v_M_isHeader_142 (c_M_word ht hz (p := 20) rfl (by omega)) rfl (Nat.le_of_ble_eq_true rfl) rfl rfl rfl rfl (fun r cs' hp => ?_)
          obtain ⟨rfl, rfl⟩ := hp
          show Run _ _ _ _ 145 ([some (.ref 16), some (.int v), q2], [.long (lN (wN t z 20))], Ac fp le lp lb il tf tz bf rfc fr mp sc ifp ib ie pw dh rl rb re sy sb rc sg (Bc mth mfr (nI z) (nif t) mmp mrg mme msn mbg mhd mfo mfi mmy mwa mwn mba mdy mkn (0 : Int32) (-1 : Int32) men mpg mct mim)) _
          refine Run.blk (gs := [True]) (S' := ([some (.ref 16), some (.int v), q2], [.long (1 : Int64), .long (lN (wN t z 20))], Ac fp le lp lb il tf tz bf rfc fr mp sc ifp ib ie pw dh rl rb re sy sb rc sg (Bc mth mfr (nI z) (nif t) mmp mrg mme msn mbg mhd mfo mfi mmy mwa mwn mba mdy mkn (0 : Int32) (-1 : Int32) men mpg mct mim))) k_M_isHeader_145 kc_M_isHeader_145 rfl ⟨trivial, trivial⟩ ?_
          refine Run.brl (tgt := 158) dl_M_isHeader_146 d_M_isHeader_146 rfl (by decide) (fun c_4 => ?_) (fun c_4 => ?_)
          · have c_4 := (pk_lEQ (a := (wN t z 20)) (b := 1) (Nat.lt_of_lt_of_le (wN_lt ht z _) (by decide)) (by decide)).mp c_4
            refine Run.blk (gs := [True, True]) (S' := ([some (.ref 16), some (.int v), q2], [.int (40 : Int32), .ref 16], Ac fp le lp lb il tf tz bf rfc fr mp sc ifp ib ie pw dh rl rb re sy sb rc sg (Bc mth mfr (nI z) (nif t) mmp mrg mme msn mbg mhd mfo mfi mmy mwa mwn mba mdy mkn (0 : Int32) (-1 : Int32) men mpg mct mim))) k_M_isHeader_158 kc_M_isHeader_158 rfl ⟨trivial, trivial, trivial⟩ ?_
            refine Run.callV (b := 16) (As := [.int (40 : Int32)]) (rest := []) v_M_isHeader_161 (c_M_half ht hz (p := 40) rfl (by omega)) rfl (Nat.le_of_ble_eq_true rfl) rfl rfl rfl rfl (fun r cs' hp => ?_)
            obtain ⟨rfl, rfl⟩ := hp
            show Run _ _ _ _ 164 ([some (.ref 16), some (.int v), q2], [.int (nI (hN t z 40))], Ac fp le lp lb il tf tz bf rfc fr mp sc ifp ib ie pw dh rl rb re sy sb rc sg (Bc mth mfr (nI z) (nif t) mmp mrg mme msn mbg mhd mfo mfi mmy mwa mwn mba mdy mkn (0 : Int32) (-1 : Int32) men mpg mct mim)) _
            refine Run.blk (gs := [True]) (S' := ([some (.ref 16), some (.int v), q2], [.int (52 : Int32), .int (nI (hN t z 40))], Ac fp le lp lb il tf tz bf rfc fr mp sc ifp ib ie pw dh rl rb re sy sb rc sg (Bc mth mfr (nI z) (nif t) mmp mrg mme msn mbg mhd mfo mfi mmy mwa mwn mba mdy mkn (0 : Int32) (-1 : Int32) men mpg mct mim))) k_M_isHeader_164 kc_M_isHeader_164 rfl ⟨trivial, trivial⟩ ?_
            refine Run.br (tgt := 178) d_M_isHeader_166 rfl (by decide) (fun c_5 => ?_) (fun c_5 => ?_)
            · have c_5 := (nI_eq (a := (hN t z 40)) (b := 52) (Nat.lt_of_lt_of_le (hN_lt ht z _) (by decide)) (by decide)).mp c_5
              refine Run.blk (gs := [True, True]) (S' := ([some (.ref 16), some (.int v), q2], [.int (42 : Int32), .ref 16], Ac fp le lp lb il tf tz bf rfc fr mp sc ifp ib ie pw dh rl rb re sy sb rc sg (Bc mth mfr (nI z) (nif t) mmp mrg mme msn mbg mhd mfo mfi mmy mwa mwn mba mdy mkn (0 : Int32) (-1 : Int32) men mpg mct mim))) k_M_isHeader_178 kc_M_isHeader_178 rfl ⟨trivial, trivial, trivial⟩ ?_
              refine Run.callV (b := 16) (As := [.int (42 : Int32)]) (rest := []) v_M_isHeader_181 (c_M_half ht hz (p := 42) rfl (by omega)) rfl (Nat.le_of_ble_eq_true rfl) rfl rfl rfl rfl (fun r cs' hp => ?_)
              obtain ⟨rfl, rfl⟩ := hp
              show Run _ _ _ _ 184 ([some (.ref 16), some (.int v), q2], [.int (nI (hN t z 42))], Ac fp le lp lb il tf tz bf rfc fr mp sc ifp ib ie pw dh rl rb re sy sb rc sg (Bc mth mfr (nI z) (nif t) mmp mrg mme msn mbg mhd mfo mfi mmy mwa mwn mba mdy mkn (0 : Int32) (-1 : Int32) men mpg mct mim)) _
              refine Run.blk (gs := [True]) (S' := ([some (.ref 16), some (.int v), q2], [.int (32 : Int32), .int (nI (hN t z 42))], Ac fp le lp lb il tf tz bf rfc fr mp sc ifp ib ie pw dh rl rb re sy sb rc sg (Bc mth mfr (nI z) (nif t) mmp mrg mme msn mbg mhd mfo mfi mmy mwa mwn mba mdy mkn (0 : Int32) (-1 : Int32) men mpg mct mim))) k_M_isHeader_184 kc_M_isHeader_184 rfl ⟨trivial, trivial⟩ ?_
              refine Run.br (tgt := 198) d_M_isHeader_186 rfl (by decide) (fun c_6 => ?_) (fun c_6 => ?_)
              · have c_6 := (nI_eq (a := (hN t z 42)) (b := 32) (Nat.lt_of_lt_of_le (hN_lt ht z _) (by decide)) (by decide)).mp c_6
                refine Run.blk (gs := [True, True]) (S' := ([some (.ref 16), some (.int v), q2], [.int (44 : Int32), .ref 16], Ac fp le lp lb il tf tz bf rfc fr mp sc ifp ib ie pw dh rl rb re sy sb rc sg (Bc mth mfr (nI z) (nif t) mmp mrg mme msn mbg mhd mfo mfi mmy mwa mwn mba mdy mkn (0 : Int32) (-1 : Int32) men mpg mct mim))) k_M_isHeader_198 kc_M_isHeader_198 rfl ⟨trivial, trivial, trivial⟩ ?_
                refine Run.callV (b := 16) (As := [.int (44 : Int32)]) (rest := []) v_M_isHeader_201 (c_M_half ht hz (p := 44) rfl (by omega)) rfl (Nat.le_of_ble_eq_true rfl) rfl rfl rfl rfl (fun r cs' hp => ?_)
                obtain ⟨rfl, rfl⟩ := hp
                show Run _ _ _ _ 204 ([some (.ref 16), some (.int v), q2], [.int (nI (hN t z 44))], Ac fp le lp lb il tf tz bf rfc fr mp sc ifp ib ie pw dh rl rb re sy sb rc sg (Bc mth mfr (nI z) (nif t) mmp mrg mme msn mbg mhd mfo mfi mmy mwa mwn mba mdy mkn (0 : Int32) (-1 : Int32) men mpg mct mim)) _
                refine Run.blk (gs := [True, True]) (S' := ([some (.ref 16), some (.int v), q2], [.int (8 : Int32), .int (1 : Int32), .int (nI (hN t z 44))], Ac fp le lp lb il tf tz bf rfc fr mp sc ifp ib ie pw dh rl rb re sy sb rc sg (Bc mth mfr (nI z) (nif t) mmp mrg mme msn mbg mhd mfo mfi mmy mwa mwn mba mdy mkn (0 : Int32) (-1 : Int32) men mpg mct mim))) k_M_isHeader_204 kc_M_isHeader_204 rfl ⟨trivial, trivial, trivial⟩ ?_
                refine Run.callS (As := [.int (nI (hN t z 44)), .int (1 : Int32), .int (8 : Int32)]) (rest := []) v_M_isHeader_207 (c_M_inN (a := hN t z 44) (lo := 1) (hi := 8) (Nat.lt_of_lt_of_le (hN_lt ht z _) (by decide)) (by decide) (by decide) rfl rfl rfl) rfl (Nat.le_of_ble_eq_true rfl) rfl (fun r cs' hp => ?_)
                obtain ⟨rfl, rfl⟩ := hp
                show Run _ _ _ _ 210 ([some (.ref 16), some (.int v), q2], [.int (if 1 ≤ hN t z 44 ∧ hN t z 44 ≤ 8 then 1 else 0)], Ac fp le lp lb il tf tz bf rfc fr mp sc ifp ib ie pw dh rl rb re sy sb rc sg (Bc mth mfr (nI z) (nif t) mmp mrg mme msn mbg mhd mfo mfi mmy mwa mwn mba mdy mkn (0 : Int32) (-1 : Int32) men mpg mct mim)) _
                refine Run.br (tgt := 222) d_M_isHeader_210 rfl (by decide) (fun c_7 => ?_) (fun c_7 => ?_)
                · have c_7 := zi_t c_7
                  refine Run.blk (gs := [True, True]) (S' := ([some (.ref 16), some (.int v), q2], [.int (28 : Int32), .ref 16], Ac fp le lp lb il tf tz bf rfc fr mp sc ifp ib ie pw dh rl rb re sy sb rc sg (Bc mth mfr (nI z) (nif t) mmp mrg mme msn mbg mhd mfo mfi mmy mwa mwn mba mdy mkn (0 : Int32) (-1 : Int32) men mpg mct mim))) k_M_isHeader_222 kc_M_isHeader_222 rfl ⟨trivial, trivial, trivial⟩ ?_
                  refine Run.callV (b := 16) (As := [.int (28 : Int32)]) (rest := []) v_M_isHeader_225 (c_M_word ht hz (p := 28) rfl (by omega)) rfl (Nat.le_of_ble_eq_true rfl) rfl rfl rfl rfl (fun r cs' hp => ?_)
                  obtain ⟨rfl, rfl⟩ := hp
                  show Run _ _ _ _ 228 ([some (.ref 16), some (.int v), q2], [.long (lN (wN t z 28))], Ac fp le lp lb il tf tz bf rfc fr mp sc ifp ib ie pw dh rl rb re sy sb rc sg (Bc mth mfr (nI z) (nif t) mmp mrg mme msn mbg mhd mfo mfi mmy mwa mwn mba mdy mkn (0 : Int32) (-1 : Int32) men mpg mct mim)) _
                  refine Run.blk (gs := [True, True, True]) (S' := ([some (.ref 16), some (.int v), q2], [.int (44 : Int32), .ref 16, .long (32 : Int64), .long (lN (wN t z 28))], Ac fp le lp lb il tf tz bf rfc fr mp sc ifp ib ie pw dh rl rb re sy sb rc sg (Bc mth mfr (nI z) (nif t) mmp mrg mme msn mbg mhd mfo mfi mmy mwa mwn mba mdy mkn (0 : Int32) (-1 : Int32) men mpg mct mim))) k_M_isHeader_228 kc_M_isHeader_228 rfl ⟨trivial, trivial, trivial, trivial⟩ ?_
                  refine Run.callV (b := 16) (As := [.int (44 : Int32)]) (rest := [.long (32 : Int64), .long (lN (wN t z 28))]) v_M_isHeader_234 (c_M_half ht hz (p := 44) rfl (by omega)) rfl (Nat.le_of_ble_eq_true rfl) rfl rfl rfl rfl (fun r cs' hp => ?_)
                  obtain ⟨rfl, rfl⟩ := hp
                  show Run _ _ _ _ 237 ([some (.ref 16), some (.int v), q2], [.int (nI (hN t z 44)), .long (32 : Int64), .long (lN (wN t z 28))], Ac fp le lp lb il tf tz bf rfc fr mp sc ifp ib ie pw dh rl rb re sy sb rc sg (Bc mth mfr (nI z) (nif t) mmp mrg mme msn mbg mhd mfo mfi mmy mwa mwn mba mdy mkn (0 : Int32) (-1 : Int32) men mpg mct mim)) _
                  refine Run.blk (gs := [True, True, True, True, True, True]) (S' := ([some (.ref 16), some (.int v), q2], [.long ((nI z).toInt64), .long ((lN (wN t z 28)) + ((32 : Int64) * ((nI (hN t z 44)).toInt64)))], Ac fp le lp lb il tf tz bf rfc fr mp sc ifp ib ie pw dh rl rb re sy sb rc sg (Bc mth mfr (nI z) (nif t) mmp mrg mme msn mbg mhd mfo mfi mmy mwa mwn mba mdy mkn (0 : Int32) (-1 : Int32) men mpg mct mim))) k_M_isHeader_237 kc_M_isHeader_237 rfl ⟨trivial, trivial, trivial, trivial, trivial, trivial, trivial⟩ ?_
                  refine Run.brl (tgt := 260) dl_M_isHeader_245 d_M_isHeader_245 rfl (by decide) (fun c_8 => ?_) (fun c_8 => ?_)
                  · rw [nI_l (n := hN t z 44) (by omega), nI_l (n := z) (by omega), show (32 : Int64) = lN 32 from rfl, lN_mul, lN_add, pk_lLE (by omega) (by omega)] at c_8
                    refine Run.blk (gs := [True]) (S' := ([some (.ref 16), some (.int v), q2], [.int (1 : Int32)], Ac fp le lp lb il tf tz bf rfc fr mp sc ifp ib ie pw dh rl rb re sy sb rc sg (Bc mth mfr (nI z) (nif t) mmp mrg mme msn mbg mhd mfo mfi mmy mwa mwn mba mdy mkn (0 : Int32) (-1 : Int32) men mpg mct mim))) k_M_isHeader_260 kc_M_isHeader_260 rfl ⟨trivial, trivial⟩ ?_
                    refine Run.goto (tgt := 265) d_M_isHeader_261 (by decide) ?_
                    rw [show hdL t z 0 i = ((0 : Int32), (-1 : Int32)) by show hdR t z = _; unfold hdR; rw [if_pos (by omega), if_pos (by omega), if_pos (by omega), if_pos (by omega), if_pos (by omega), if_pos (by omega), if_pos (by omega)]]
                    exact Run.ret (r := some (.int (1 : Int32))) ⟨d_M_isHeader_265, _, rfl, rfl⟩ ⟨(by first | rfl | rw [if_neg (by decide)] | rw [if_pos rfl]), rfl⟩
                  · rw [nI_l (n := hN t z 44) (by omega), nI_l (n := z) (by omega), show (32 : Int64) = lN 32 from rfl, lN_mul, lN_add, pk_lLE (by omega) (by omega)] at c_8
                    refine Run.blk (gs := [True, True, True]) (S' := ([some (.ref 16), some (.int v), q2], [.int (28 : Int32), .int (8 : Int32), .ref 16], Ac fp le lp lb il tf tz bf rfc fr mp sc ifp ib ie pw dh rl rb re sy sb rc sg (Bc mth mfr (nI z) (nif t) mmp mrg mme msn mbg mhd mfo mfi mmy mwa mwn mba mdy mkn (0 : Int32) (-1 : Int32) men mpg mct mim))) k_M_isHeader_249 kc_M_isHeader_249 rfl ⟨trivial, trivial, trivial, trivial⟩ ?_
                    refine Run.callV (b := 16) (As := [.int (8 : Int32), .int (28 : Int32)]) (rest := []) v_M_isHeader_254 c_M_fail rfl (Nat.le_of_ble_eq_true rfl) rfl rfl rfl rfl (fun r cs' hp => ?_)
                    obtain ⟨rfl, rfl⟩ := hp
                    show Run _ _ _ _ 257 ([some (.ref 16), some (.int v), q2], [.int (0 : Int32)], Ac fp le lp lb il tf tz bf rfc fr mp sc ifp ib ie pw dh rl rb re sy sb rc sg (Bc mth mfr (nI z) (nif t) mmp mrg mme msn mbg mhd mfo mfi mmy mwa mwn mba mdy mkn (8 : Int32) (28 : Int32) men mpg mct mim)) _
                    refine Run.br (tgt := 264) d_M_isHeader_257 rfl (by decide) (fun c_9 => ?_) (fun c_9 => ?_)
                    · have c_9 := (nI_eq (a := 0) (b := 0) (by decide) (by decide)).mp c_9
                      refine Run.blk (gs := [True]) (S' := ([some (.ref 16), some (.int v), q2], [.int (0 : Int32)], Ac fp le lp lb il tf tz bf rfc fr mp sc ifp ib ie pw dh rl rb re sy sb rc sg (Bc mth mfr (nI z) (nif t) mmp mrg mme msn mbg mhd mfo mfi mmy mwa mwn mba mdy mkn (8 : Int32) (28 : Int32) men mpg mct mim))) k_M_isHeader_264 kc_M_isHeader_264 rfl ⟨trivial, trivial⟩ ?_
                      rw [show hdL t z 0 i = ((8 : Int32), (28 : Int32)) by show hdR t z = _; unfold hdR; rw [if_pos (by omega), if_pos (by omega), if_pos (by omega), if_pos (by omega), if_pos (by omega), if_pos (by omega), if_neg (by omega)]]
                      exact Run.ret (r := some (.int (0 : Int32))) ⟨d_M_isHeader_265, _, rfl, rfl⟩ ⟨(by first | rfl | rw [if_neg (by decide)] | rw [if_pos rfl]), rfl⟩
                    · have c_9 : ¬ (0 = 0) := fun w_ => c_9 ((nI_eq (a := 0) (b := 0) (by decide) (by decide)).mpr w_)
                      exact absurd c_9 (by decide)
                · have c_7 := zi_f (Classical.not_not.mp c_7)
                  refine Run.blk (gs := [True, True, True]) (S' := ([some (.ref 16), some (.int v), q2], [.int (44 : Int32), .int (7 : Int32), .ref 16], Ac fp le lp lb il tf tz bf rfc fr mp sc ifp ib ie pw dh rl rb re sy sb rc sg (Bc mth mfr (nI z) (nif t) mmp mrg mme msn mbg mhd mfo mfi mmy mwa mwn mba mdy mkn (0 : Int32) (-1 : Int32) men mpg mct mim))) k_M_isHeader_213 kc_M_isHeader_213 rfl ⟨trivial, trivial, trivial, trivial⟩ ?_
                  refine Run.callV (b := 16) (As := [.int (7 : Int32), .int (44 : Int32)]) (rest := []) v_M_isHeader_218 c_M_fail rfl (Nat.le_of_ble_eq_true rfl) rfl rfl rfl rfl (fun r cs' hp => ?_)
                  obtain ⟨rfl, rfl⟩ := hp
                  show Run _ _ _ _ 221 ([some (.ref 16), some (.int v), q2], [.int (0 : Int32)], Ac fp le lp lb il tf tz bf rfc fr mp sc ifp ib ie pw dh rl rb re sy sb rc sg (Bc mth mfr (nI z) (nif t) mmp mrg mme msn mbg mhd mfo mfi mmy mwa mwn mba mdy mkn (7 : Int32) (44 : Int32) men mpg mct mim)) _
                  rw [show hdL t z 0 i = ((7 : Int32), (44 : Int32)) by show hdR t z = _; unfold hdR; rw [if_pos (by omega), if_pos (by omega), if_pos (by omega), if_pos (by omega), if_pos (by omega), if_neg (by omega)]]
                  exact Run.ret (r := some (.int (0 : Int32))) ⟨d_M_isHeader_221, _, rfl, rfl⟩ ⟨(by first | rfl | rw [if_neg (by decide)] | rw [if_pos rfl]), rfl⟩
              · have c_6 : ¬ ((hN t z 42) = 32) := fun w_ => c_6 ((nI_eq (a := (hN t z 42)) (b := 32) (Nat.lt_of_lt_of_le (hN_lt ht z _) (by decide)) (by decide)).mpr w_)
                refine Run.blk (gs := [True, True, True]) (S' := ([some (.ref 16), some (.int v), q2], [.int (42 : Int32), .int (6 : Int32), .ref 16], Ac fp le lp lb il tf tz bf rfc fr mp sc ifp ib ie pw dh rl rb re sy sb rc sg (Bc mth mfr (nI z) (nif t) mmp mrg mme msn mbg mhd mfo mfi mmy mwa mwn mba mdy mkn (0 : Int32) (-1 : Int32) men mpg mct mim))) k_M_isHeader_189 kc_M_isHeader_189 rfl ⟨trivial, trivial, trivial, trivial⟩ ?_
                refine Run.callV (b := 16) (As := [.int (6 : Int32), .int (42 : Int32)]) (rest := []) v_M_isHeader_194 c_M_fail rfl (Nat.le_of_ble_eq_true rfl) rfl rfl rfl rfl (fun r cs' hp => ?_)
                obtain ⟨rfl, rfl⟩ := hp
                show Run _ _ _ _ 197 ([some (.ref 16), some (.int v), q2], [.int (0 : Int32)], Ac fp le lp lb il tf tz bf rfc fr mp sc ifp ib ie pw dh rl rb re sy sb rc sg (Bc mth mfr (nI z) (nif t) mmp mrg mme msn mbg mhd mfo mfi mmy mwa mwn mba mdy mkn (6 : Int32) (42 : Int32) men mpg mct mim)) _
                rw [show hdL t z 0 i = ((6 : Int32), (42 : Int32)) by show hdR t z = _; unfold hdR; rw [if_pos (by omega), if_pos (by omega), if_pos (by omega), if_pos (by omega), if_neg (by omega)]]
                exact Run.ret (r := some (.int (0 : Int32))) ⟨d_M_isHeader_197, _, rfl, rfl⟩ ⟨(by first | rfl | rw [if_neg (by decide)] | rw [if_pos rfl]), rfl⟩
            · have c_5 : ¬ ((hN t z 40) = 52) := fun w_ => c_5 ((nI_eq (a := (hN t z 40)) (b := 52) (Nat.lt_of_lt_of_le (hN_lt ht z _) (by decide)) (by decide)).mpr w_)
              refine Run.blk (gs := [True, True, True]) (S' := ([some (.ref 16), some (.int v), q2], [.int (40 : Int32), .int (6 : Int32), .ref 16], Ac fp le lp lb il tf tz bf rfc fr mp sc ifp ib ie pw dh rl rb re sy sb rc sg (Bc mth mfr (nI z) (nif t) mmp mrg mme msn mbg mhd mfo mfi mmy mwa mwn mba mdy mkn (0 : Int32) (-1 : Int32) men mpg mct mim))) k_M_isHeader_169 kc_M_isHeader_169 rfl ⟨trivial, trivial, trivial, trivial⟩ ?_
              refine Run.callV (b := 16) (As := [.int (6 : Int32), .int (40 : Int32)]) (rest := []) v_M_isHeader_174 c_M_fail rfl (Nat.le_of_ble_eq_true rfl) rfl rfl rfl rfl (fun r cs' hp => ?_)
              obtain ⟨rfl, rfl⟩ := hp
              show Run _ _ _ _ 177 ([some (.ref 16), some (.int v), q2], [.int (0 : Int32)], Ac fp le lp lb il tf tz bf rfc fr mp sc ifp ib ie pw dh rl rb re sy sb rc sg (Bc mth mfr (nI z) (nif t) mmp mrg mme msn mbg mhd mfo mfi mmy mwa mwn mba mdy mkn (6 : Int32) (40 : Int32) men mpg mct mim)) _
              rw [show hdL t z 0 i = ((6 : Int32), (40 : Int32)) by show hdR t z = _; unfold hdR; rw [if_pos (by omega), if_pos (by omega), if_pos (by omega), if_neg (by omega)]]
              exact Run.ret (r := some (.int (0 : Int32))) ⟨d_M_isHeader_177, _, rfl, rfl⟩ ⟨(by first | rfl | rw [if_neg (by decide)] | rw [if_pos rfl]), rfl⟩
          · have c_4 : ¬ ((wN t z 20) = 1) := fun w_ => c_4 ((pk_lEQ (a := (wN t z 20)) (b := 1) (Nat.lt_of_lt_of_le (wN_lt ht z _) (by decide)) (by decide)).mpr w_)
            refine Run.blk (gs := [True, True, True]) (S' := ([some (.ref 16), some (.int v), q2], [.int (20 : Int32), .int (5 : Int32), .ref 16], Ac fp le lp lb il tf tz bf rfc fr mp sc ifp ib ie pw dh rl rb re sy sb rc sg (Bc mth mfr (nI z) (nif t) mmp mrg mme msn mbg mhd mfo mfi mmy mwa mwn mba mdy mkn (0 : Int32) (-1 : Int32) men mpg mct mim))) k_M_isHeader_150 kc_M_isHeader_150 rfl ⟨trivial, trivial, trivial, trivial⟩ ?_
            refine Run.callV (b := 16) (As := [.int (5 : Int32), .int (20 : Int32)]) (rest := []) v_M_isHeader_154 c_M_fail rfl (Nat.le_of_ble_eq_true rfl) rfl rfl rfl rfl (fun r cs' hp => ?_)
            obtain ⟨rfl, rfl⟩ := hp
            show Run _ _ _ _ 157 ([some (.ref 16), some (.int v), q2], [.int (0 : Int32)], Ac fp le lp lb il tf tz bf rfc fr mp sc ifp ib ie pw dh rl rb re sy sb rc sg (Bc mth mfr (nI z) (nif t) mmp mrg mme msn mbg mhd mfo mfi mmy mwa mwn mba mdy mkn (5 : Int32) (20 : Int32) men mpg mct mim)) _
            rw [show hdL t z 0 i = ((5 : Int32), (20 : Int32)) by show hdR t z = _; unfold hdR; rw [if_pos (by omega), if_pos (by omega), if_neg (by omega)]]
            exact Run.ret (r := some (.int (0 : Int32))) ⟨d_M_isHeader_157, _, rfl, rfl⟩ ⟨(by first | rfl | rw [if_neg (by decide)] | rw [if_pos rfl]), rfl⟩
        · have c_3 : ¬ ((hN t z 18) = 243) := fun w_ => c_3 ((nI_eq (a := (hN t z 18)) (b := 243) (Nat.lt_of_lt_of_le (hN_lt ht z _) (by decide)) (by decide)).mpr w_)
          refine Run.blk (gs := [True, True, True]) (S' := ([some (.ref 16), some (.int v), q2], [.int (18 : Int32), .int (4 : Int32), .ref 16], Ac fp le lp lb il tf tz bf rfc fr mp sc ifp ib ie pw dh rl rb re sy sb rc sg (Bc mth mfr (nI z) (nif t) mmp mrg mme msn mbg mhd mfo mfi mmy mwa mwn mba mdy mkn (0 : Int32) (-1 : Int32) men mpg mct mim))) k_M_isHeader_131 kc_M_isHeader_131 rfl ⟨trivial, trivial, trivial, trivial⟩ ?_
          refine Run.callV (b := 16) (As := [.int (4 : Int32), .int (18 : Int32)]) (rest := []) v_M_isHeader_135 c_M_fail rfl (Nat.le_of_ble_eq_true rfl) rfl rfl rfl rfl (fun r cs' hp => ?_)
          obtain ⟨rfl, rfl⟩ := hp
          show Run _ _ _ _ 138 ([some (.ref 16), some (.int v), q2], [.int (0 : Int32)], Ac fp le lp lb il tf tz bf rfc fr mp sc ifp ib ie pw dh rl rb re sy sb rc sg (Bc mth mfr (nI z) (nif t) mmp mrg mme msn mbg mhd mfo mfi mmy mwa mwn mba mdy mkn (4 : Int32) (18 : Int32) men mpg mct mim)) _
          rw [show hdL t z 0 i = ((4 : Int32), (18 : Int32)) by show hdR t z = _; unfold hdR; rw [if_pos (by omega), if_neg (by omega)]]
          exact Run.ret (r := some (.int (0 : Int32))) ⟨d_M_isHeader_138, _, rfl, rfl⟩ ⟨(by first | rfl | rw [if_neg (by decide)] | rw [if_pos rfl]), rfl⟩
      · have c_2 : ¬ ((hN t z 16) = 2) := fun w_ => c_2 ((nI_eq (a := (hN t z 16)) (b := 2) (Nat.lt_of_lt_of_le (hN_lt ht z _) (by decide)) (by decide)).mpr w_)
        refine Run.blk (gs := [True, True]) (S' := ([some (.ref 16), some (.int v), q2], [.int (16 : Int32), .ref 16], Ac fp le lp lb il tf tz bf rfc fr mp sc ifp ib ie pw dh rl rb re sy sb rc sg (Bc mth mfr (nI z) (nif t) mmp mrg mme msn mbg mhd mfo mfi mmy mwa mwn mba mdy mkn (0 : Int32) (-1 : Int32) men mpg mct mim))) k_M_isHeader_101 kc_M_isHeader_101 rfl ⟨trivial, trivial, trivial⟩ ?_
        refine Run.callV (b := 16) (As := [.int (16 : Int32)]) (rest := []) v_M_isHeader_104 (c_M_half ht hz (p := 16) rfl (by omega)) rfl (Nat.le_of_ble_eq_true rfl) rfl rfl rfl rfl (fun r cs' hp => ?_)
        obtain ⟨rfl, rfl⟩ := hp
        show Run _ _ _ _ 107 ([some (.ref 16), some (.int v), q2], [.int (nI (hN t z 16))], Ac fp le lp lb il tf tz bf rfc fr mp sc ifp ib ie pw dh rl rb re sy sb rc sg (Bc mth mfr (nI z) (nif t) mmp mrg mme msn mbg mhd mfo mfi mmy mwa mwn mba mdy mkn (0 : Int32) (-1 : Int32) men mpg mct mim)) _
        refine Run.blk (gs := [True]) (S' := ([some (.ref 16), some (.int v), q2], [.int (3 : Int32), .int (nI (hN t z 16))], Ac fp le lp lb il tf tz bf rfc fr mp sc ifp ib ie pw dh rl rb re sy sb rc sg (Bc mth mfr (nI z) (nif t) mmp mrg mme msn mbg mhd mfo mfi mmy mwa mwn mba mdy mkn (0 : Int32) (-1 : Int32) men mpg mct mim))) k_M_isHeader_107 kc_M_isHeader_107 rfl ⟨trivial, trivial⟩ ?_
        refine Run.br (tgt := 119) d_M_isHeader_108 rfl (by decide) (fun c_10 => ?_) (fun c_10 => ?_)
        · have c_10 := (nI_eq (a := (hN t z 16)) (b := 3) (Nat.lt_of_lt_of_le (hN_lt ht z _) (by decide)) (by decide)).mp c_10
          refine Run.blk (gs := [True, True]) (S' := ([some (.ref 16), some (.int v), q2], [.int (18 : Int32), .ref 16], Ac fp le lp lb il tf tz bf rfc fr mp sc ifp ib ie pw dh rl rb re sy sb rc sg (Bc mth mfr (nI z) (nif t) mmp mrg mme msn mbg mhd mfo mfi mmy mwa mwn mba mdy mkn (0 : Int32) (-1 : Int32) men mpg mct mim))) k_M_isHeader_119 kc_M_isHeader_119 rfl ⟨trivial, trivial, trivial⟩ ?_
          refine Run.callV (b := 16) (As := [.int (18 : Int32)]) (rest := []) v_M_isHeader_122 (c_M_half ht hz (p := 18) rfl (by omega)) rfl (Nat.le_of_ble_eq_true rfl) rfl rfl rfl rfl (fun r cs' hp => ?_)
          obtain ⟨rfl, rfl⟩ := hp
          show Run _ _ _ _ 125 ([some (.ref 16), some (.int v), q2], [.int (nI (hN t z 18))], Ac fp le lp lb il tf tz bf rfc fr mp sc ifp ib ie pw dh rl rb re sy sb rc sg (Bc mth mfr (nI z) (nif t) mmp mrg mme msn mbg mhd mfo mfi mmy mwa mwn mba mdy mkn (0 : Int32) (-1 : Int32) men mpg mct mim)) _
          refine Run.blk (gs := [True]) (S' := ([some (.ref 16), some (.int v), q2], [.int (243 : Int32), .int (nI (hN t z 18))], Ac fp le lp lb il tf tz bf rfc fr mp sc ifp ib ie pw dh rl rb re sy sb rc sg (Bc mth mfr (nI z) (nif t) mmp mrg mme msn mbg mhd mfo mfi mmy mwa mwn mba mdy mkn (0 : Int32) (-1 : Int32) men mpg mct mim))) k_M_isHeader_125 kc_M_isHeader_125 rfl ⟨trivial, trivial⟩ ?_
          refine Run.br (tgt := 139) d_M_isHeader_128 rfl (by decide) (fun c_11 => ?_) (fun c_11 => ?_)
          · have c_11 := (nI_eq (a := (hN t z 18)) (b := 243) (Nat.lt_of_lt_of_le (hN_lt ht z _) (by decide)) (by decide)).mp c_11
            refine Run.blk (gs := [True, True]) (S' := ([some (.ref 16), some (.int v), q2], [.int (20 : Int32), .ref 16], Ac fp le lp lb il tf tz bf rfc fr mp sc ifp ib ie pw dh rl rb re sy sb rc sg (Bc mth mfr (nI z) (nif t) mmp mrg mme msn mbg mhd mfo mfi mmy mwa mwn mba mdy mkn (0 : Int32) (-1 : Int32) men mpg mct mim))) k_M_isHeader_139 kc_M_isHeader_139 rfl ⟨trivial, trivial, trivial⟩ ?_
            refine Run.callV (b := 16) (As := [.int (20 : Int32)]) (rest := []) v_M_isHeader_142 (c_M_word ht hz (p := 20) rfl (by omega)) rfl (Nat.le_of_ble_eq_true rfl) rfl rfl rfl rfl (fun r cs' hp => ?_)
            obtain ⟨rfl, rfl⟩ := hp
            show Run _ _ _ _ 145 ([some (.ref 16), some (.int v), q2], [.long (lN (wN t z 20))], Ac fp le lp lb il tf tz bf rfc fr mp sc ifp ib ie pw dh rl rb re sy sb rc sg (Bc mth mfr (nI z) (nif t) mmp mrg mme msn mbg mhd mfo mfi mmy mwa mwn mba mdy mkn (0 : Int32) (-1 : Int32) men mpg mct mim)) _
            refine Run.blk (gs := [True]) (S' := ([some (.ref 16), some (.int v), q2], [.long (1 : Int64), .long (lN (wN t z 20))], Ac fp le lp lb il tf tz bf rfc fr mp sc ifp ib ie pw dh rl rb re sy sb rc sg (Bc mth mfr (nI z) (nif t) mmp mrg mme msn mbg mhd mfo mfi mmy mwa mwn mba mdy mkn (0 : Int32) (-1 : Int32) men mpg mct mim))) k_M_isHeader_145 kc_M_isHeader_145 rfl ⟨trivial, trivial⟩ ?_
            refine Run.brl (tgt := 158) dl_M_isHeader_146 d_M_isHeader_146 rfl (by decide) (fun c_12 => ?_) (fun c_12 => ?_)
            · have c_12 := (pk_lEQ (a := (wN t z 20)) (b := 1) (Nat.lt_of_lt_of_le (wN_lt ht z _) (by decide)) (by decide)).mp c_12
              refine Run.blk (gs := [True, True]) (S' := ([some (.ref 16), some (.int v), q2], [.int (40 : Int32), .ref 16], Ac fp le lp lb il tf tz bf rfc fr mp sc ifp ib ie pw dh rl rb re sy sb rc sg (Bc mth mfr (nI z) (nif t) mmp mrg mme msn mbg mhd mfo mfi mmy mwa mwn mba mdy mkn (0 : Int32) (-1 : Int32) men mpg mct mim))) k_M_isHeader_158 kc_M_isHeader_158 rfl ⟨trivial, trivial, trivial⟩ ?_
              refine Run.callV (b := 16) (As := [.int (40 : Int32)]) (rest := []) v_M_isHeader_161 (c_M_half ht hz (p := 40) rfl (by omega)) rfl (Nat.le_of_ble_eq_true rfl) rfl rfl rfl rfl (fun r cs' hp => ?_)
              obtain ⟨rfl, rfl⟩ := hp
              show Run _ _ _ _ 164 ([some (.ref 16), some (.int v), q2], [.int (nI (hN t z 40))], Ac fp le lp lb il tf tz bf rfc fr mp sc ifp ib ie pw dh rl rb re sy sb rc sg (Bc mth mfr (nI z) (nif t) mmp mrg mme msn mbg mhd mfo mfi mmy mwa mwn mba mdy mkn (0 : Int32) (-1 : Int32) men mpg mct mim)) _
              refine Run.blk (gs := [True]) (S' := ([some (.ref 16), some (.int v), q2], [.int (52 : Int32), .int (nI (hN t z 40))], Ac fp le lp lb il tf tz bf rfc fr mp sc ifp ib ie pw dh rl rb re sy sb rc sg (Bc mth mfr (nI z) (nif t) mmp mrg mme msn mbg mhd mfo mfi mmy mwa mwn mba mdy mkn (0 : Int32) (-1 : Int32) men mpg mct mim))) k_M_isHeader_164 kc_M_isHeader_164 rfl ⟨trivial, trivial⟩ ?_
              refine Run.br (tgt := 178) d_M_isHeader_166 rfl (by decide) (fun c_13 => ?_) (fun c_13 => ?_)
              · have c_13 := (nI_eq (a := (hN t z 40)) (b := 52) (Nat.lt_of_lt_of_le (hN_lt ht z _) (by decide)) (by decide)).mp c_13
                refine Run.blk (gs := [True, True]) (S' := ([some (.ref 16), some (.int v), q2], [.int (42 : Int32), .ref 16], Ac fp le lp lb il tf tz bf rfc fr mp sc ifp ib ie pw dh rl rb re sy sb rc sg (Bc mth mfr (nI z) (nif t) mmp mrg mme msn mbg mhd mfo mfi mmy mwa mwn mba mdy mkn (0 : Int32) (-1 : Int32) men mpg mct mim))) k_M_isHeader_178 kc_M_isHeader_178 rfl ⟨trivial, trivial, trivial⟩ ?_
                refine Run.callV (b := 16) (As := [.int (42 : Int32)]) (rest := []) v_M_isHeader_181 (c_M_half ht hz (p := 42) rfl (by omega)) rfl (Nat.le_of_ble_eq_true rfl) rfl rfl rfl rfl (fun r cs' hp => ?_)
                obtain ⟨rfl, rfl⟩ := hp
                show Run _ _ _ _ 184 ([some (.ref 16), some (.int v), q2], [.int (nI (hN t z 42))], Ac fp le lp lb il tf tz bf rfc fr mp sc ifp ib ie pw dh rl rb re sy sb rc sg (Bc mth mfr (nI z) (nif t) mmp mrg mme msn mbg mhd mfo mfi mmy mwa mwn mba mdy mkn (0 : Int32) (-1 : Int32) men mpg mct mim)) _
                refine Run.blk (gs := [True]) (S' := ([some (.ref 16), some (.int v), q2], [.int (32 : Int32), .int (nI (hN t z 42))], Ac fp le lp lb il tf tz bf rfc fr mp sc ifp ib ie pw dh rl rb re sy sb rc sg (Bc mth mfr (nI z) (nif t) mmp mrg mme msn mbg mhd mfo mfi mmy mwa mwn mba mdy mkn (0 : Int32) (-1 : Int32) men mpg mct mim))) k_M_isHeader_184 kc_M_isHeader_184 rfl ⟨trivial, trivial⟩ ?_
                refine Run.br (tgt := 198) d_M_isHeader_186 rfl (by decide) (fun c_14 => ?_) (fun c_14 => ?_)
                · have c_14 := (nI_eq (a := (hN t z 42)) (b := 32) (Nat.lt_of_lt_of_le (hN_lt ht z _) (by decide)) (by decide)).mp c_14
                  refine Run.blk (gs := [True, True]) (S' := ([some (.ref 16), some (.int v), q2], [.int (44 : Int32), .ref 16], Ac fp le lp lb il tf tz bf rfc fr mp sc ifp ib ie pw dh rl rb re sy sb rc sg (Bc mth mfr (nI z) (nif t) mmp mrg mme msn mbg mhd mfo mfi mmy mwa mwn mba mdy mkn (0 : Int32) (-1 : Int32) men mpg mct mim))) k_M_isHeader_198 kc_M_isHeader_198 rfl ⟨trivial, trivial, trivial⟩ ?_
                  refine Run.callV (b := 16) (As := [.int (44 : Int32)]) (rest := []) v_M_isHeader_201 (c_M_half ht hz (p := 44) rfl (by omega)) rfl (Nat.le_of_ble_eq_true rfl) rfl rfl rfl rfl (fun r cs' hp => ?_)
                  obtain ⟨rfl, rfl⟩ := hp
                  show Run _ _ _ _ 204 ([some (.ref 16), some (.int v), q2], [.int (nI (hN t z 44))], Ac fp le lp lb il tf tz bf rfc fr mp sc ifp ib ie pw dh rl rb re sy sb rc sg (Bc mth mfr (nI z) (nif t) mmp mrg mme msn mbg mhd mfo mfi mmy mwa mwn mba mdy mkn (0 : Int32) (-1 : Int32) men mpg mct mim)) _
                  refine Run.blk (gs := [True, True]) (S' := ([some (.ref 16), some (.int v), q2], [.int (8 : Int32), .int (1 : Int32), .int (nI (hN t z 44))], Ac fp le lp lb il tf tz bf rfc fr mp sc ifp ib ie pw dh rl rb re sy sb rc sg (Bc mth mfr (nI z) (nif t) mmp mrg mme msn mbg mhd mfo mfi mmy mwa mwn mba mdy mkn (0 : Int32) (-1 : Int32) men mpg mct mim))) k_M_isHeader_204 kc_M_isHeader_204 rfl ⟨trivial, trivial, trivial⟩ ?_
                  refine Run.callS (As := [.int (nI (hN t z 44)), .int (1 : Int32), .int (8 : Int32)]) (rest := []) v_M_isHeader_207 (c_M_inN (a := hN t z 44) (lo := 1) (hi := 8) (Nat.lt_of_lt_of_le (hN_lt ht z _) (by decide)) (by decide) (by decide) rfl rfl rfl) rfl (Nat.le_of_ble_eq_true rfl) rfl (fun r cs' hp => ?_)
                  obtain ⟨rfl, rfl⟩ := hp
                  show Run _ _ _ _ 210 ([some (.ref 16), some (.int v), q2], [.int (if 1 ≤ hN t z 44 ∧ hN t z 44 ≤ 8 then 1 else 0)], Ac fp le lp lb il tf tz bf rfc fr mp sc ifp ib ie pw dh rl rb re sy sb rc sg (Bc mth mfr (nI z) (nif t) mmp mrg mme msn mbg mhd mfo mfi mmy mwa mwn mba mdy mkn (0 : Int32) (-1 : Int32) men mpg mct mim)) _
                  refine Run.br (tgt := 222) d_M_isHeader_210 rfl (by decide) (fun c_15 => ?_) (fun c_15 => ?_)
                  · have c_15 := zi_t c_15
                    refine Run.blk (gs := [True, True]) (S' := ([some (.ref 16), some (.int v), q2], [.int (28 : Int32), .ref 16], Ac fp le lp lb il tf tz bf rfc fr mp sc ifp ib ie pw dh rl rb re sy sb rc sg (Bc mth mfr (nI z) (nif t) mmp mrg mme msn mbg mhd mfo mfi mmy mwa mwn mba mdy mkn (0 : Int32) (-1 : Int32) men mpg mct mim))) k_M_isHeader_222 kc_M_isHeader_222 rfl ⟨trivial, trivial, trivial⟩ ?_
                    refine Run.callV (b := 16) (As := [.int (28 : Int32)]) (rest := []) v_M_isHeader_225 (c_M_word ht hz (p := 28) rfl (by omega)) rfl (Nat.le_of_ble_eq_true rfl) rfl rfl rfl rfl (fun r cs' hp => ?_)
                    obtain ⟨rfl, rfl⟩ := hp
                    show Run _ _ _ _ 228 ([some (.ref 16), some (.int v), q2], [.long (lN (wN t z 28))], Ac fp le lp lb il tf tz bf rfc fr mp sc ifp ib ie pw dh rl rb re sy sb rc sg (Bc mth mfr (nI z) (nif t) mmp mrg mme msn mbg mhd mfo mfi mmy mwa mwn mba mdy mkn (0 : Int32) (-1 : Int32) men mpg mct mim)) _
                    refine Run.blk (gs := [True, True, True]) (S' := ([some (.ref 16), some (.int v), q2], [.int (44 : Int32), .ref 16, .long (32 : Int64), .long (lN (wN t z 28))], Ac fp le lp lb il tf tz bf rfc fr mp sc ifp ib ie pw dh rl rb re sy sb rc sg (Bc mth mfr (nI z) (nif t) mmp mrg mme msn mbg mhd mfo mfi mmy mwa mwn mba mdy mkn (0 : Int32) (-1 : Int32) men mpg mct mim))) k_M_isHeader_228 kc_M_isHeader_228 rfl ⟨trivial, trivial, trivial, trivial⟩ ?_
                    refine Run.callV (b := 16) (As := [.int (44 : Int32)]) (rest := [.long (32 : Int64), .long (lN (wN t z 28))]) v_M_isHeader_234 (c_M_half ht hz (p := 44) rfl (by omega)) rfl (Nat.le_of_ble_eq_true rfl) rfl rfl rfl rfl (fun r cs' hp => ?_)
                    obtain ⟨rfl, rfl⟩ := hp
                    show Run _ _ _ _ 237 ([some (.ref 16), some (.int v), q2], [.int (nI (hN t z 44)), .long (32 : Int64), .long (lN (wN t z 28))], Ac fp le lp lb il tf tz bf rfc fr mp sc ifp ib ie pw dh rl rb re sy sb rc sg (Bc mth mfr (nI z) (nif t) mmp mrg mme msn mbg mhd mfo mfi mmy mwa mwn mba mdy mkn (0 : Int32) (-1 : Int32) men mpg mct mim)) _
                    refine Run.blk (gs := [True, True, True, True, True, True]) (S' := ([some (.ref 16), some (.int v), q2], [.long ((nI z).toInt64), .long ((lN (wN t z 28)) + ((32 : Int64) * ((nI (hN t z 44)).toInt64)))], Ac fp le lp lb il tf tz bf rfc fr mp sc ifp ib ie pw dh rl rb re sy sb rc sg (Bc mth mfr (nI z) (nif t) mmp mrg mme msn mbg mhd mfo mfi mmy mwa mwn mba mdy mkn (0 : Int32) (-1 : Int32) men mpg mct mim))) k_M_isHeader_237 kc_M_isHeader_237 rfl ⟨trivial, trivial, trivial, trivial, trivial, trivial, trivial⟩ ?_
                    refine Run.brl (tgt := 260) dl_M_isHeader_245 d_M_isHeader_245 rfl (by decide) (fun c_16 => ?_) (fun c_16 => ?_)
                    · rw [nI_l (n := hN t z 44) (by omega), nI_l (n := z) (by omega), show (32 : Int64) = lN 32 from rfl, lN_mul, lN_add, pk_lLE (by omega) (by omega)] at c_16
                      refine Run.blk (gs := [True]) (S' := ([some (.ref 16), some (.int v), q2], [.int (1 : Int32)], Ac fp le lp lb il tf tz bf rfc fr mp sc ifp ib ie pw dh rl rb re sy sb rc sg (Bc mth mfr (nI z) (nif t) mmp mrg mme msn mbg mhd mfo mfi mmy mwa mwn mba mdy mkn (0 : Int32) (-1 : Int32) men mpg mct mim))) k_M_isHeader_260 kc_M_isHeader_260 rfl ⟨trivial, trivial⟩ ?_
                      refine Run.goto (tgt := 265) d_M_isHeader_261 (by decide) ?_
                      rw [show hdL t z 0 i = ((0 : Int32), (-1 : Int32)) by show hdR t z = _; unfold hdR; rw [if_pos (by omega), if_pos (by omega), if_pos (by omega), if_pos (by omega), if_pos (by omega), if_pos (by omega), if_pos (by omega)]]
                      exact Run.ret (r := some (.int (1 : Int32))) ⟨d_M_isHeader_265, _, rfl, rfl⟩ ⟨(by first | rfl | rw [if_neg (by decide)] | rw [if_pos rfl]), rfl⟩
                    · rw [nI_l (n := hN t z 44) (by omega), nI_l (n := z) (by omega), show (32 : Int64) = lN 32 from rfl, lN_mul, lN_add, pk_lLE (by omega) (by omega)] at c_16
                      refine Run.blk (gs := [True, True, True]) (S' := ([some (.ref 16), some (.int v), q2], [.int (28 : Int32), .int (8 : Int32), .ref 16], Ac fp le lp lb il tf tz bf rfc fr mp sc ifp ib ie pw dh rl rb re sy sb rc sg (Bc mth mfr (nI z) (nif t) mmp mrg mme msn mbg mhd mfo mfi mmy mwa mwn mba mdy mkn (0 : Int32) (-1 : Int32) men mpg mct mim))) k_M_isHeader_249 kc_M_isHeader_249 rfl ⟨trivial, trivial, trivial, trivial⟩ ?_
                      refine Run.callV (b := 16) (As := [.int (8 : Int32), .int (28 : Int32)]) (rest := []) v_M_isHeader_254 c_M_fail rfl (Nat.le_of_ble_eq_true rfl) rfl rfl rfl rfl (fun r cs' hp => ?_)
                      obtain ⟨rfl, rfl⟩ := hp
                      show Run _ _ _ _ 257 ([some (.ref 16), some (.int v), q2], [.int (0 : Int32)], Ac fp le lp lb il tf tz bf rfc fr mp sc ifp ib ie pw dh rl rb re sy sb rc sg (Bc mth mfr (nI z) (nif t) mmp mrg mme msn mbg mhd mfo mfi mmy mwa mwn mba mdy mkn (8 : Int32) (28 : Int32) men mpg mct mim)) _
                      refine Run.br (tgt := 264) d_M_isHeader_257 rfl (by decide) (fun c_17 => ?_) (fun c_17 => ?_)
                      · have c_17 := (nI_eq (a := 0) (b := 0) (by decide) (by decide)).mp c_17
                        refine Run.blk (gs := [True]) (S' := ([some (.ref 16), some (.int v), q2], [.int (0 : Int32)], Ac fp le lp lb il tf tz bf rfc fr mp sc ifp ib ie pw dh rl rb re sy sb rc sg (Bc mth mfr (nI z) (nif t) mmp mrg mme msn mbg mhd mfo mfi mmy mwa mwn mba mdy mkn (8 : Int32) (28 : Int32) men mpg mct mim))) k_M_isHeader_264 kc_M_isHeader_264 rfl ⟨trivial, trivial⟩ ?_
                        rw [show hdL t z 0 i = ((8 : Int32), (28 : Int32)) by show hdR t z = _; unfold hdR; rw [if_pos (by omega), if_pos (by omega), if_pos (by omega), if_pos (by omega), if_pos (by omega), if_pos (by omega), if_neg (by omega)]]
                        exact Run.ret (r := some (.int (0 : Int32))) ⟨d_M_isHeader_265, _, rfl, rfl⟩ ⟨(by first | rfl | rw [if_neg (by decide)] | rw [if_pos rfl]), rfl⟩
                      · have c_17 : ¬ (0 = 0) := fun w_ => c_17 ((nI_eq (a := 0) (b := 0) (by decide) (by decide)).mpr w_)
                        exact absurd c_17 (by decide)
                  · have c_15 := zi_f (Classical.not_not.mp c_15)
                    refine Run.blk (gs := [True, True, True]) (S' := ([some (.ref 16), some (.int v), q2], [.int (44 : Int32), .int (7 : Int32), .ref 16], Ac fp le lp lb il tf tz bf rfc fr mp sc ifp ib ie pw dh rl rb re sy sb rc sg (Bc mth mfr (nI z) (nif t) mmp mrg mme msn mbg mhd mfo mfi mmy mwa mwn mba mdy mkn (0 : Int32) (-1 : Int32) men mpg mct mim))) k_M_isHeader_213 kc_M_isHeader_213 rfl ⟨trivial, trivial, trivial, trivial⟩ ?_
                    refine Run.callV (b := 16) (As := [.int (7 : Int32), .int (44 : Int32)]) (rest := []) v_M_isHeader_218 c_M_fail rfl (Nat.le_of_ble_eq_true rfl) rfl rfl rfl rfl (fun r cs' hp => ?_)
                    obtain ⟨rfl, rfl⟩ := hp
                    show Run _ _ _ _ 221 ([some (.ref 16), some (.int v), q2], [.int (0 : Int32)], Ac fp le lp lb il tf tz bf rfc fr mp sc ifp ib ie pw dh rl rb re sy sb rc sg (Bc mth mfr (nI z) (nif t) mmp mrg mme msn mbg mhd mfo mfi mmy mwa mwn mba mdy mkn (7 : Int32) (44 : Int32) men mpg mct mim)) _
                    rw [show hdL t z 0 i = ((7 : Int32), (44 : Int32)) by show hdR t z = _; unfold hdR; rw [if_pos (by omega), if_pos (by omega), if_pos (by omega), if_pos (by omega), if_pos (by omega), if_neg (by omega)]]
                    exact Run.ret (r := some (.int (0 : Int32))) ⟨d_M_isHeader_221, _, rfl, rfl⟩ ⟨(by first | rfl | rw [if_neg (by decide)] | rw [if_pos rfl]), rfl⟩
                · have c_14 : ¬ ((hN t z 42) = 32) := fun w_ => c_14 ((nI_eq (a := (hN t z 42)) (b := 32) (Nat.lt_of_lt_of_le (hN_lt ht z _) (by decide)) (by decide)).mpr w_)
                  refine Run.blk (gs := [True, True, True]) (S' := ([some (.ref 16), some (.int v), q2], [.int (42 : Int32), .int (6 : Int32), .ref 16], Ac fp le lp lb il tf tz bf rfc fr mp sc ifp ib ie pw dh rl rb re sy sb rc sg (Bc mth mfr (nI z) (nif t) mmp mrg mme msn mbg mhd mfo mfi mmy mwa mwn mba mdy mkn (0 : Int32) (-1 : Int32) men mpg mct mim))) k_M_isHeader_189 kc_M_isHeader_189 rfl ⟨trivial, trivial, trivial, trivial⟩ ?_
                  refine Run.callV (b := 16) (As := [.int (6 : Int32), .int (42 : Int32)]) (rest := []) v_M_isHeader_194 c_M_fail rfl (Nat.le_of_ble_eq_true rfl) rfl rfl rfl rfl (fun r cs' hp => ?_)
                  obtain ⟨rfl, rfl⟩ := hp
                  show Run _ _ _ _ 197 ([some (.ref 16), some (.int v), q2], [.int (0 : Int32)], Ac fp le lp lb il tf tz bf rfc fr mp sc ifp ib ie pw dh rl rb re sy sb rc sg (Bc mth mfr (nI z) (nif t) mmp mrg mme msn mbg mhd mfo mfi mmy mwa mwn mba mdy mkn (6 : Int32) (42 : Int32) men mpg mct mim)) _
                  rw [show hdL t z 0 i = ((6 : Int32), (42 : Int32)) by show hdR t z = _; unfold hdR; rw [if_pos (by omega), if_pos (by omega), if_pos (by omega), if_pos (by omega), if_neg (by omega)]]
                  exact Run.ret (r := some (.int (0 : Int32))) ⟨d_M_isHeader_197, _, rfl, rfl⟩ ⟨(by first | rfl | rw [if_neg (by decide)] | rw [if_pos rfl]), rfl⟩
              · have c_13 : ¬ ((hN t z 40) = 52) := fun w_ => c_13 ((nI_eq (a := (hN t z 40)) (b := 52) (Nat.lt_of_lt_of_le (hN_lt ht z _) (by decide)) (by decide)).mpr w_)
                refine Run.blk (gs := [True, True, True]) (S' := ([some (.ref 16), some (.int v), q2], [.int (40 : Int32), .int (6 : Int32), .ref 16], Ac fp le lp lb il tf tz bf rfc fr mp sc ifp ib ie pw dh rl rb re sy sb rc sg (Bc mth mfr (nI z) (nif t) mmp mrg mme msn mbg mhd mfo mfi mmy mwa mwn mba mdy mkn (0 : Int32) (-1 : Int32) men mpg mct mim))) k_M_isHeader_169 kc_M_isHeader_169 rfl ⟨trivial, trivial, trivial, trivial⟩ ?_
                refine Run.callV (b := 16) (As := [.int (6 : Int32), .int (40 : Int32)]) (rest := []) v_M_isHeader_174 c_M_fail rfl (Nat.le_of_ble_eq_true rfl) rfl rfl rfl rfl (fun r cs' hp => ?_)
                obtain ⟨rfl, rfl⟩ := hp
                show Run _ _ _ _ 177 ([some (.ref 16), some (.int v), q2], [.int (0 : Int32)], Ac fp le lp lb il tf tz bf rfc fr mp sc ifp ib ie pw dh rl rb re sy sb rc sg (Bc mth mfr (nI z) (nif t) mmp mrg mme msn mbg mhd mfo mfi mmy mwa mwn mba mdy mkn (6 : Int32) (40 : Int32) men mpg mct mim)) _
                rw [show hdL t z 0 i = ((6 : Int32), (40 : Int32)) by show hdR t z = _; unfold hdR; rw [if_pos (by omega), if_pos (by omega), if_pos (by omega), if_neg (by omega)]]
                exact Run.ret (r := some (.int (0 : Int32))) ⟨d_M_isHeader_177, _, rfl, rfl⟩ ⟨(by first | rfl | rw [if_neg (by decide)] | rw [if_pos rfl]), rfl⟩
            · have c_12 : ¬ ((wN t z 20) = 1) := fun w_ => c_12 ((pk_lEQ (a := (wN t z 20)) (b := 1) (Nat.lt_of_lt_of_le (wN_lt ht z _) (by decide)) (by decide)).mpr w_)
              refine Run.blk (gs := [True, True, True]) (S' := ([some (.ref 16), some (.int v), q2], [.int (20 : Int32), .int (5 : Int32), .ref 16], Ac fp le lp lb il tf tz bf rfc fr mp sc ifp ib ie pw dh rl rb re sy sb rc sg (Bc mth mfr (nI z) (nif t) mmp mrg mme msn mbg mhd mfo mfi mmy mwa mwn mba mdy mkn (0 : Int32) (-1 : Int32) men mpg mct mim))) k_M_isHeader_150 kc_M_isHeader_150 rfl ⟨trivial, trivial, trivial, trivial⟩ ?_
              refine Run.callV (b := 16) (As := [.int (5 : Int32), .int (20 : Int32)]) (rest := []) v_M_isHeader_154 c_M_fail rfl (Nat.le_of_ble_eq_true rfl) rfl rfl rfl rfl (fun r cs' hp => ?_)
              obtain ⟨rfl, rfl⟩ := hp
              show Run _ _ _ _ 157 ([some (.ref 16), some (.int v), q2], [.int (0 : Int32)], Ac fp le lp lb il tf tz bf rfc fr mp sc ifp ib ie pw dh rl rb re sy sb rc sg (Bc mth mfr (nI z) (nif t) mmp mrg mme msn mbg mhd mfo mfi mmy mwa mwn mba mdy mkn (5 : Int32) (20 : Int32) men mpg mct mim)) _
              rw [show hdL t z 0 i = ((5 : Int32), (20 : Int32)) by show hdR t z = _; unfold hdR; rw [if_pos (by omega), if_pos (by omega), if_neg (by omega)]]
              exact Run.ret (r := some (.int (0 : Int32))) ⟨d_M_isHeader_157, _, rfl, rfl⟩ ⟨(by first | rfl | rw [if_neg (by decide)] | rw [if_pos rfl]), rfl⟩
          · have c_11 : ¬ ((hN t z 18) = 243) := fun w_ => c_11 ((nI_eq (a := (hN t z 18)) (b := 243) (Nat.lt_of_lt_of_le (hN_lt ht z _) (by decide)) (by decide)).mpr w_)
            refine Run.blk (gs := [True, True, True]) (S' := ([some (.ref 16), some (.int v), q2], [.int (18 : Int32), .int (4 : Int32), .ref 16], Ac fp le lp lb il tf tz bf rfc fr mp sc ifp ib ie pw dh rl rb re sy sb rc sg (Bc mth mfr (nI z) (nif t) mmp mrg mme msn mbg mhd mfo mfi mmy mwa mwn mba mdy mkn (0 : Int32) (-1 : Int32) men mpg mct mim))) k_M_isHeader_131 kc_M_isHeader_131 rfl ⟨trivial, trivial, trivial, trivial⟩ ?_
            refine Run.callV (b := 16) (As := [.int (4 : Int32), .int (18 : Int32)]) (rest := []) v_M_isHeader_135 c_M_fail rfl (Nat.le_of_ble_eq_true rfl) rfl rfl rfl rfl (fun r cs' hp => ?_)
            obtain ⟨rfl, rfl⟩ := hp
            show Run _ _ _ _ 138 ([some (.ref 16), some (.int v), q2], [.int (0 : Int32)], Ac fp le lp lb il tf tz bf rfc fr mp sc ifp ib ie pw dh rl rb re sy sb rc sg (Bc mth mfr (nI z) (nif t) mmp mrg mme msn mbg mhd mfo mfi mmy mwa mwn mba mdy mkn (4 : Int32) (18 : Int32) men mpg mct mim)) _
            rw [show hdL t z 0 i = ((4 : Int32), (18 : Int32)) by show hdR t z = _; unfold hdR; rw [if_pos (by omega), if_neg (by omega)]]
            exact Run.ret (r := some (.int (0 : Int32))) ⟨d_M_isHeader_138, _, rfl, rfl⟩ ⟨(by first | rfl | rw [if_neg (by decide)] | rw [if_pos rfl]), rfl⟩
        · have c_10 : ¬ ((hN t z 16) = 3) := fun w_ => c_10 ((nI_eq (a := (hN t z 16)) (b := 3) (Nat.lt_of_lt_of_le (hN_lt ht z _) (by decide)) (by decide)).mpr w_)
          refine Run.blk (gs := [True, True, True]) (S' := ([some (.ref 16), some (.int v), q2], [.int (16 : Int32), .int (3 : Int32), .ref 16], Ac fp le lp lb il tf tz bf rfc fr mp sc ifp ib ie pw dh rl rb re sy sb rc sg (Bc mth mfr (nI z) (nif t) mmp mrg mme msn mbg mhd mfo mfi mmy mwa mwn mba mdy mkn (0 : Int32) (-1 : Int32) men mpg mct mim))) k_M_isHeader_111 kc_M_isHeader_111 rfl ⟨trivial, trivial, trivial, trivial⟩ ?_
          refine Run.callV (b := 16) (As := [.int (3 : Int32), .int (16 : Int32)]) (rest := []) v_M_isHeader_115 c_M_fail rfl (Nat.le_of_ble_eq_true rfl) rfl rfl rfl rfl (fun r cs' hp => ?_)
          obtain ⟨rfl, rfl⟩ := hp
          show Run _ _ _ _ 118 ([some (.ref 16), some (.int v), q2], [.int (0 : Int32)], Ac fp le lp lb il tf tz bf rfc fr mp sc ifp ib ie pw dh rl rb re sy sb rc sg (Bc mth mfr (nI z) (nif t) mmp mrg mme msn mbg mhd mfo mfi mmy mwa mwn mba mdy mkn (3 : Int32) (16 : Int32) men mpg mct mim)) _
          rw [show hdL t z 0 i = ((3 : Int32), (16 : Int32)) by show hdR t z = _; unfold hdR; rw [if_neg (by omega)]]
          exact Run.ret (r := some (.int (0 : Int32))) ⟨d_M_isHeader_118, _, rfl, rfl⟩ ⟨(by first | rfl | rw [if_neg (by decide)] | rw [if_pos rfl]), rfl⟩
    · exact absurd (by rw [hv, hik]; exact Int32.le_refl _) c_1
  | k + 1, i, v, q2, hv, h => by
    refine Run.blk (gs := [True, True]) (S' := ([some (.ref 16), some (.int v), q2], [.int (7 : Int32), .int v], Ac fp le lp lb il tf tz bf rfc fr mp sc ifp ib ie pw dh rl rb re sy sb rc sg (Bc mth mfr (nI z) (nif t) mmp mrg mme msn mbg mhd mfo mfi mmy mwa mwn mba mdy mkn (0 : Int32) (-1 : Int32) men mpg mct mim))) k_M_isHeader_21 kc_M_isHeader_21 rfl ⟨trivial, trivial, trivial⟩ ?_
    refine Run.br (tgt := 91) d_M_isHeader_24 rfl (by decide) (fun c_1 => ?_) (fun c_1 => ?_)
    · exact absurd c_1 (by rw [hv]; exact nI_ge (show i < 7 by omega) (by decide))
    · refine Run.blk (gs := [True]) (S' := ([some (.ref 16), some (.int v), q2], [.int v], Ac fp le lp lb il tf tz bf rfc fr mp sc ifp ib ie pw dh rl rb re sy sb rc sg (Bc mth mfr (nI z) (nif t) mmp mrg mme msn mbg mhd mfo mfi mmy mwa mwn mba mdy mkn (0 : Int32) (-1 : Int32) men mpg mct mim))) k_M_isHeader_27 kc_M_isHeader_27 rfl ⟨trivial, trivial⟩ ?_
      refine Run.br (tgt := 36) d_M_isHeader_28 rfl (by decide) (fun c_2 => ?_) (fun c_2 => ?_)
      · rw [hv, show (0 : Int32) = nI 0 from rfl, nI_eq (by omega) (by decide)] at c_2
        refine Run.blk (gs := [True, True]) (S' := ([some (.ref 16), some (.int v), q2], [.int (1 : Int32), .int v], Ac fp le lp lb il tf tz bf rfc fr mp sc ifp ib ie pw dh rl rb re sy sb rc sg (Bc mth mfr (nI z) (nif t) mmp mrg mme msn mbg mhd mfo mfi mmy mwa mwn mba mdy mkn (0 : Int32) (-1 : Int32) men mpg mct mim))) k_M_isHeader_36 kc_M_isHeader_36 rfl ⟨trivial, trivial, trivial⟩ ?_
        refine Run.br (tgt := 46) d_M_isHeader_38 rfl (by decide) (fun c_3 => ?_) (fun c_3 => ?_)
        · rw [hv, show (1 : Int32) = nI 1 from rfl, nI_eq (by omega) (by decide)] at c_3
          refine Run.blk (gs := [True, True]) (S' := ([some (.ref 16), some (.int v), q2], [.int (2 : Int32), .int v], Ac fp le lp lb il tf tz bf rfc fr mp sc ifp ib ie pw dh rl rb re sy sb rc sg (Bc mth mfr (nI z) (nif t) mmp mrg mme msn mbg mhd mfo mfi mmy mwa mwn mba mdy mkn (0 : Int32) (-1 : Int32) men mpg mct mim))) k_M_isHeader_46 kc_M_isHeader_46 rfl ⟨trivial, trivial, trivial⟩ ?_
          refine Run.br (tgt := 56) d_M_isHeader_48 rfl (by decide) (fun c_4 => ?_) (fun c_4 => ?_)
          · rw [hv, show (2 : Int32) = nI 2 from rfl, nI_eq (by omega) (by decide)] at c_4
            refine Run.blk (gs := [True, True]) (S' := ([some (.ref 16), some (.int v), q2], [.int (3 : Int32), .int v], Ac fp le lp lb il tf tz bf rfc fr mp sc ifp ib ie pw dh rl rb re sy sb rc sg (Bc mth mfr (nI z) (nif t) mmp mrg mme msn mbg mhd mfo mfi mmy mwa mwn mba mdy mkn (0 : Int32) (-1 : Int32) men mpg mct mim))) k_M_isHeader_56 kc_M_isHeader_56 rfl ⟨trivial, trivial, trivial⟩ ?_
            refine Run.br (tgt := 66) d_M_isHeader_58 rfl (by decide) (fun c_5 => ?_) (fun c_5 => ?_)
            · rw [hv, show (3 : Int32) = nI 3 from rfl, nI_eq (by omega) (by decide)] at c_5
              have eG : G_mag i = 1 := G_mag_ge (by omega)
              refine Run.blk (gs := [True]) (S' := ([some (.ref 16), some (.int v), q2], [.int (1 : Int32)], Ac fp le lp lb il tf tz bf rfc fr mp sc ifp ib ie pw dh rl rb re sy sb rc sg (Bc mth mfr (nI z) (nif t) mmp mrg mme msn mbg mhd mfo mfi mmy mwa mwn mba mdy mkn (0 : Int32) (-1 : Int32) men mpg mct mim))) k_M_isHeader_66 kc_M_isHeader_66 rfl ⟨trivial, trivial⟩ ?_
              refine Run.blk (gs := [True, True, True, True, vp_in v 900, True]) (S' := ([some (.ref 16), some (.int v), some (.int (1 : Int32))], [.int (1 : Int32), .int ((nif t) v.toNatClampNeg)], Ac fp le lp lb il tf tz bf rfc fr mp sc ifp ib ie pw dh rl rb re sy sb rc sg (Bc mth mfr (nI z) (nif t) mmp mrg mme msn mbg mhd mfo mfi mmy mwa mwn mba mdy mkn (0 : Int32) (-1 : Int32) men mpg mct mim))) k_M_isHeader_67 kc_M_isHeader_67 rfl ⟨trivial, trivial, trivial, trivial, (by rw [hv]; exact vp_in_nI (show i < 900 by omega) (by decide)), trivial, trivial⟩ ?_
              refine Run.br (tgt := 85) d_M_isHeader_75 rfl (by decide) (fun c_6 => ?_) (fun c_6 => ?_)
              · have c_6 : nI (t i) = G_mag i := by rw [hv, nI_clamp (by omega)] at c_6; rw [eG]; exact c_6
                refine Run.blk (gs := [True]) (S' := ([some (.ref 16), some (.int (v + (1 : Int32))), some (.int (1 : Int32))], [], Ac fp le lp lb il tf tz bf rfc fr mp sc ifp ib ie pw dh rl rb re sy sb rc sg (Bc mth mfr (nI z) (nif t) mmp mrg mme msn mbg mhd mfo mfi mmy mwa mwn mba mdy mkn (0 : Int32) (-1 : Int32) men mpg mct mim))) k_M_isHeader_85 kc_M_isHeader_85 rfl ⟨trivial, trivial⟩ ?_
                refine Run.goto (tgt := 21) d_M_isHeader_88 (by decide) ?_
                rw [show hdL t z (k + 1) i = hdL t z k (i + 1) by rw [hdL, if_pos c_6]]
                exact l_M_isHeader ht hz h52 k (i + 1) _ _ (by rw [hv, nI_1]) (by omega)
              · have c_6 : ¬ nI (t i) = G_mag i := by rw [hv, nI_clamp (by omega)] at c_6; rw [eG]; exact c_6
                refine Run.blk (gs := [True, True, True]) (S' := ([some (.ref 16), some (.int v), some (.int (1 : Int32))], [.int v, .int (2 : Int32), .ref 16], Ac fp le lp lb il tf tz bf rfc fr mp sc ifp ib ie pw dh rl rb re sy sb rc sg (Bc mth mfr (nI z) (nif t) mmp mrg mme msn mbg mhd mfo mfi mmy mwa mwn mba mdy mkn (0 : Int32) (-1 : Int32) men mpg mct mim))) k_M_isHeader_78 kc_M_isHeader_78 rfl ⟨trivial, trivial, trivial, trivial⟩ ?_
                refine Run.callV (b := 16) (As := [.int (2 : Int32), .int v]) (rest := []) v_M_isHeader_81 c_M_fail rfl (Nat.le_of_ble_eq_true rfl) rfl rfl rfl rfl (fun r cs' hp => ?_)
                obtain ⟨rfl, rfl⟩ := hp
                show Run _ _ _ _ 84 ([some (.ref 16), some (.int v), some (.int (1 : Int32))], [.int (0 : Int32)], Ac fp le lp lb il tf tz bf rfc fr mp sc ifp ib ie pw dh rl rb re sy sb rc sg (Bc mth mfr (nI z) (nif t) mmp mrg mme msn mbg mhd mfo mfi mmy mwa mwn mba mdy mkn (2 : Int32) v men mpg mct mim)) _
                rw [show hdL t z (k + 1) i = (2, nI i) by rw [hdL, if_neg c_6]]
                exact Run.ret (r := some (.int (0 : Int32))) ⟨d_M_isHeader_84, _, rfl, rfl⟩ ⟨rfl, by rw [hv]⟩
            · have c_5 := Classical.not_not.mp c_5
              rw [hv, show (3 : Int32) = nI 3 from rfl, nI_eq (by omega) (by decide)] at c_5
              have eG : G_mag i = 70 := by rw [c_5]; rfl
              refine Run.blk (gs := [True]) (S' := ([some (.ref 16), some (.int v), q2], [.int (70 : Int32)], Ac fp le lp lb il tf tz bf rfc fr mp sc ifp ib ie pw dh rl rb re sy sb rc sg (Bc mth mfr (nI z) (nif t) mmp mrg mme msn mbg mhd mfo mfi mmy mwa mwn mba mdy mkn (0 : Int32) (-1 : Int32) men mpg mct mim))) k_M_isHeader_61 kc_M_isHeader_61 rfl ⟨trivial, trivial⟩ ?_
              refine Run.goto (tgt := 67) d_M_isHeader_63 (by decide) ?_
              refine Run.blk (gs := [True, True, True, True, vp_in v 900, True]) (S' := ([some (.ref 16), some (.int v), some (.int (70 : Int32))], [.int (70 : Int32), .int ((nif t) v.toNatClampNeg)], Ac fp le lp lb il tf tz bf rfc fr mp sc ifp ib ie pw dh rl rb re sy sb rc sg (Bc mth mfr (nI z) (nif t) mmp mrg mme msn mbg mhd mfo mfi mmy mwa mwn mba mdy mkn (0 : Int32) (-1 : Int32) men mpg mct mim))) k_M_isHeader_67 kc_M_isHeader_67 rfl ⟨trivial, trivial, trivial, trivial, (by rw [hv]; exact vp_in_nI (show i < 900 by omega) (by decide)), trivial, trivial⟩ ?_
              refine Run.br (tgt := 85) d_M_isHeader_75 rfl (by decide) (fun c_7 => ?_) (fun c_7 => ?_)
              · have c_7 : nI (t i) = G_mag i := by rw [hv, nI_clamp (by omega)] at c_7; rw [eG]; exact c_7
                refine Run.blk (gs := [True]) (S' := ([some (.ref 16), some (.int (v + (1 : Int32))), some (.int (70 : Int32))], [], Ac fp le lp lb il tf tz bf rfc fr mp sc ifp ib ie pw dh rl rb re sy sb rc sg (Bc mth mfr (nI z) (nif t) mmp mrg mme msn mbg mhd mfo mfi mmy mwa mwn mba mdy mkn (0 : Int32) (-1 : Int32) men mpg mct mim))) k_M_isHeader_85 kc_M_isHeader_85 rfl ⟨trivial, trivial⟩ ?_
                refine Run.goto (tgt := 21) d_M_isHeader_88 (by decide) ?_
                rw [show hdL t z (k + 1) i = hdL t z k (i + 1) by rw [hdL, if_pos c_7]]
                exact l_M_isHeader ht hz h52 k (i + 1) _ _ (by rw [hv, nI_1]) (by omega)
              · have c_7 : ¬ nI (t i) = G_mag i := by rw [hv, nI_clamp (by omega)] at c_7; rw [eG]; exact c_7
                refine Run.blk (gs := [True, True, True]) (S' := ([some (.ref 16), some (.int v), some (.int (70 : Int32))], [.int v, .int (2 : Int32), .ref 16], Ac fp le lp lb il tf tz bf rfc fr mp sc ifp ib ie pw dh rl rb re sy sb rc sg (Bc mth mfr (nI z) (nif t) mmp mrg mme msn mbg mhd mfo mfi mmy mwa mwn mba mdy mkn (0 : Int32) (-1 : Int32) men mpg mct mim))) k_M_isHeader_78 kc_M_isHeader_78 rfl ⟨trivial, trivial, trivial, trivial⟩ ?_
                refine Run.callV (b := 16) (As := [.int (2 : Int32), .int v]) (rest := []) v_M_isHeader_81 c_M_fail rfl (Nat.le_of_ble_eq_true rfl) rfl rfl rfl rfl (fun r cs' hp => ?_)
                obtain ⟨rfl, rfl⟩ := hp
                show Run _ _ _ _ 84 ([some (.ref 16), some (.int v), some (.int (70 : Int32))], [.int (0 : Int32)], Ac fp le lp lb il tf tz bf rfc fr mp sc ifp ib ie pw dh rl rb re sy sb rc sg (Bc mth mfr (nI z) (nif t) mmp mrg mme msn mbg mhd mfo mfi mmy mwa mwn mba mdy mkn (2 : Int32) v men mpg mct mim)) _
                rw [show hdL t z (k + 1) i = (2, nI i) by rw [hdL, if_neg c_7]]
                exact Run.ret (r := some (.int (0 : Int32))) ⟨d_M_isHeader_84, _, rfl, rfl⟩ ⟨rfl, by rw [hv]⟩
          · have c_4 := Classical.not_not.mp c_4
            rw [hv, show (2 : Int32) = nI 2 from rfl, nI_eq (by omega) (by decide)] at c_4
            have eG : G_mag i = 76 := by rw [c_4]; rfl
            refine Run.blk (gs := [True]) (S' := ([some (.ref 16), some (.int v), q2], [.int (76 : Int32)], Ac fp le lp lb il tf tz bf rfc fr mp sc ifp ib ie pw dh rl rb re sy sb rc sg (Bc mth mfr (nI z) (nif t) mmp mrg mme msn mbg mhd mfo mfi mmy mwa mwn mba mdy mkn (0 : Int32) (-1 : Int32) men mpg mct mim))) k_M_isHeader_51 kc_M_isHeader_51 rfl ⟨trivial, trivial⟩ ?_
            refine Run.goto (tgt := 67) d_M_isHeader_53 (by decide) ?_
            refine Run.blk (gs := [True, True, True, True, vp_in v 900, True]) (S' := ([some (.ref 16), some (.int v), some (.int (76 : Int32))], [.int (76 : Int32), .int ((nif t) v.toNatClampNeg)], Ac fp le lp lb il tf tz bf rfc fr mp sc ifp ib ie pw dh rl rb re sy sb rc sg (Bc mth mfr (nI z) (nif t) mmp mrg mme msn mbg mhd mfo mfi mmy mwa mwn mba mdy mkn (0 : Int32) (-1 : Int32) men mpg mct mim))) k_M_isHeader_67 kc_M_isHeader_67 rfl ⟨trivial, trivial, trivial, trivial, (by rw [hv]; exact vp_in_nI (show i < 900 by omega) (by decide)), trivial, trivial⟩ ?_
            refine Run.br (tgt := 85) d_M_isHeader_75 rfl (by decide) (fun c_8 => ?_) (fun c_8 => ?_)
            · have c_8 : nI (t i) = G_mag i := by rw [hv, nI_clamp (by omega)] at c_8; rw [eG]; exact c_8
              refine Run.blk (gs := [True]) (S' := ([some (.ref 16), some (.int (v + (1 : Int32))), some (.int (76 : Int32))], [], Ac fp le lp lb il tf tz bf rfc fr mp sc ifp ib ie pw dh rl rb re sy sb rc sg (Bc mth mfr (nI z) (nif t) mmp mrg mme msn mbg mhd mfo mfi mmy mwa mwn mba mdy mkn (0 : Int32) (-1 : Int32) men mpg mct mim))) k_M_isHeader_85 kc_M_isHeader_85 rfl ⟨trivial, trivial⟩ ?_
              refine Run.goto (tgt := 21) d_M_isHeader_88 (by decide) ?_
              rw [show hdL t z (k + 1) i = hdL t z k (i + 1) by rw [hdL, if_pos c_8]]
              exact l_M_isHeader ht hz h52 k (i + 1) _ _ (by rw [hv, nI_1]) (by omega)
            · have c_8 : ¬ nI (t i) = G_mag i := by rw [hv, nI_clamp (by omega)] at c_8; rw [eG]; exact c_8
              refine Run.blk (gs := [True, True, True]) (S' := ([some (.ref 16), some (.int v), some (.int (76 : Int32))], [.int v, .int (2 : Int32), .ref 16], Ac fp le lp lb il tf tz bf rfc fr mp sc ifp ib ie pw dh rl rb re sy sb rc sg (Bc mth mfr (nI z) (nif t) mmp mrg mme msn mbg mhd mfo mfi mmy mwa mwn mba mdy mkn (0 : Int32) (-1 : Int32) men mpg mct mim))) k_M_isHeader_78 kc_M_isHeader_78 rfl ⟨trivial, trivial, trivial, trivial⟩ ?_
              refine Run.callV (b := 16) (As := [.int (2 : Int32), .int v]) (rest := []) v_M_isHeader_81 c_M_fail rfl (Nat.le_of_ble_eq_true rfl) rfl rfl rfl rfl (fun r cs' hp => ?_)
              obtain ⟨rfl, rfl⟩ := hp
              show Run _ _ _ _ 84 ([some (.ref 16), some (.int v), some (.int (76 : Int32))], [.int (0 : Int32)], Ac fp le lp lb il tf tz bf rfc fr mp sc ifp ib ie pw dh rl rb re sy sb rc sg (Bc mth mfr (nI z) (nif t) mmp mrg mme msn mbg mhd mfo mfi mmy mwa mwn mba mdy mkn (2 : Int32) v men mpg mct mim)) _
              rw [show hdL t z (k + 1) i = (2, nI i) by rw [hdL, if_neg c_8]]
              exact Run.ret (r := some (.int (0 : Int32))) ⟨d_M_isHeader_84, _, rfl, rfl⟩ ⟨rfl, by rw [hv]⟩
        · have c_3 := Classical.not_not.mp c_3
          rw [hv, show (1 : Int32) = nI 1 from rfl, nI_eq (by omega) (by decide)] at c_3
          have eG : G_mag i = 69 := by rw [c_3]; rfl
          refine Run.blk (gs := [True]) (S' := ([some (.ref 16), some (.int v), q2], [.int (69 : Int32)], Ac fp le lp lb il tf tz bf rfc fr mp sc ifp ib ie pw dh rl rb re sy sb rc sg (Bc mth mfr (nI z) (nif t) mmp mrg mme msn mbg mhd mfo mfi mmy mwa mwn mba mdy mkn (0 : Int32) (-1 : Int32) men mpg mct mim))) k_M_isHeader_41 kc_M_isHeader_41 rfl ⟨trivial, trivial⟩ ?_
          refine Run.goto (tgt := 67) d_M_isHeader_43 (by decide) ?_
          refine Run.blk (gs := [True, True, True, True, vp_in v 900, True]) (S' := ([some (.ref 16), some (.int v), some (.int (69 : Int32))], [.int (69 : Int32), .int ((nif t) v.toNatClampNeg)], Ac fp le lp lb il tf tz bf rfc fr mp sc ifp ib ie pw dh rl rb re sy sb rc sg (Bc mth mfr (nI z) (nif t) mmp mrg mme msn mbg mhd mfo mfi mmy mwa mwn mba mdy mkn (0 : Int32) (-1 : Int32) men mpg mct mim))) k_M_isHeader_67 kc_M_isHeader_67 rfl ⟨trivial, trivial, trivial, trivial, (by rw [hv]; exact vp_in_nI (show i < 900 by omega) (by decide)), trivial, trivial⟩ ?_
          refine Run.br (tgt := 85) d_M_isHeader_75 rfl (by decide) (fun c_9 => ?_) (fun c_9 => ?_)
          · have c_9 : nI (t i) = G_mag i := by rw [hv, nI_clamp (by omega)] at c_9; rw [eG]; exact c_9
            refine Run.blk (gs := [True]) (S' := ([some (.ref 16), some (.int (v + (1 : Int32))), some (.int (69 : Int32))], [], Ac fp le lp lb il tf tz bf rfc fr mp sc ifp ib ie pw dh rl rb re sy sb rc sg (Bc mth mfr (nI z) (nif t) mmp mrg mme msn mbg mhd mfo mfi mmy mwa mwn mba mdy mkn (0 : Int32) (-1 : Int32) men mpg mct mim))) k_M_isHeader_85 kc_M_isHeader_85 rfl ⟨trivial, trivial⟩ ?_
            refine Run.goto (tgt := 21) d_M_isHeader_88 (by decide) ?_
            rw [show hdL t z (k + 1) i = hdL t z k (i + 1) by rw [hdL, if_pos c_9]]
            exact l_M_isHeader ht hz h52 k (i + 1) _ _ (by rw [hv, nI_1]) (by omega)
          · have c_9 : ¬ nI (t i) = G_mag i := by rw [hv, nI_clamp (by omega)] at c_9; rw [eG]; exact c_9
            refine Run.blk (gs := [True, True, True]) (S' := ([some (.ref 16), some (.int v), some (.int (69 : Int32))], [.int v, .int (2 : Int32), .ref 16], Ac fp le lp lb il tf tz bf rfc fr mp sc ifp ib ie pw dh rl rb re sy sb rc sg (Bc mth mfr (nI z) (nif t) mmp mrg mme msn mbg mhd mfo mfi mmy mwa mwn mba mdy mkn (0 : Int32) (-1 : Int32) men mpg mct mim))) k_M_isHeader_78 kc_M_isHeader_78 rfl ⟨trivial, trivial, trivial, trivial⟩ ?_
            refine Run.callV (b := 16) (As := [.int (2 : Int32), .int v]) (rest := []) v_M_isHeader_81 c_M_fail rfl (Nat.le_of_ble_eq_true rfl) rfl rfl rfl rfl (fun r cs' hp => ?_)
            obtain ⟨rfl, rfl⟩ := hp
            show Run _ _ _ _ 84 ([some (.ref 16), some (.int v), some (.int (69 : Int32))], [.int (0 : Int32)], Ac fp le lp lb il tf tz bf rfc fr mp sc ifp ib ie pw dh rl rb re sy sb rc sg (Bc mth mfr (nI z) (nif t) mmp mrg mme msn mbg mhd mfo mfi mmy mwa mwn mba mdy mkn (2 : Int32) v men mpg mct mim)) _
            rw [show hdL t z (k + 1) i = (2, nI i) by rw [hdL, if_neg c_9]]
            exact Run.ret (r := some (.int (0 : Int32))) ⟨d_M_isHeader_84, _, rfl, rfl⟩ ⟨rfl, by rw [hv]⟩
      · have c_2 := Classical.not_not.mp c_2
        rw [hv, show (0 : Int32) = nI 0 from rfl, nI_eq (by omega) (by decide)] at c_2
        have eG : G_mag i = 127 := by rw [c_2]; rfl
        refine Run.blk (gs := [True]) (S' := ([some (.ref 16), some (.int v), q2], [.int (127 : Int32)], Ac fp le lp lb il tf tz bf rfc fr mp sc ifp ib ie pw dh rl rb re sy sb rc sg (Bc mth mfr (nI z) (nif t) mmp mrg mme msn mbg mhd mfo mfi mmy mwa mwn mba mdy mkn (0 : Int32) (-1 : Int32) men mpg mct mim))) k_M_isHeader_31 kc_M_isHeader_31 rfl ⟨trivial, trivial⟩ ?_
        refine Run.goto (tgt := 67) d_M_isHeader_33 (by decide) ?_
        refine Run.blk (gs := [True, True, True, True, vp_in v 900, True]) (S' := ([some (.ref 16), some (.int v), some (.int (127 : Int32))], [.int (127 : Int32), .int ((nif t) v.toNatClampNeg)], Ac fp le lp lb il tf tz bf rfc fr mp sc ifp ib ie pw dh rl rb re sy sb rc sg (Bc mth mfr (nI z) (nif t) mmp mrg mme msn mbg mhd mfo mfi mmy mwa mwn mba mdy mkn (0 : Int32) (-1 : Int32) men mpg mct mim))) k_M_isHeader_67 kc_M_isHeader_67 rfl ⟨trivial, trivial, trivial, trivial, (by rw [hv]; exact vp_in_nI (show i < 900 by omega) (by decide)), trivial, trivial⟩ ?_
        refine Run.br (tgt := 85) d_M_isHeader_75 rfl (by decide) (fun c_10 => ?_) (fun c_10 => ?_)
        · have c_10 : nI (t i) = G_mag i := by rw [hv, nI_clamp (by omega)] at c_10; rw [eG]; exact c_10
          refine Run.blk (gs := [True]) (S' := ([some (.ref 16), some (.int (v + (1 : Int32))), some (.int (127 : Int32))], [], Ac fp le lp lb il tf tz bf rfc fr mp sc ifp ib ie pw dh rl rb re sy sb rc sg (Bc mth mfr (nI z) (nif t) mmp mrg mme msn mbg mhd mfo mfi mmy mwa mwn mba mdy mkn (0 : Int32) (-1 : Int32) men mpg mct mim))) k_M_isHeader_85 kc_M_isHeader_85 rfl ⟨trivial, trivial⟩ ?_
          refine Run.goto (tgt := 21) d_M_isHeader_88 (by decide) ?_
          rw [show hdL t z (k + 1) i = hdL t z k (i + 1) by rw [hdL, if_pos c_10]]
          exact l_M_isHeader ht hz h52 k (i + 1) _ _ (by rw [hv, nI_1]) (by omega)
        · have c_10 : ¬ nI (t i) = G_mag i := by rw [hv, nI_clamp (by omega)] at c_10; rw [eG]; exact c_10
          refine Run.blk (gs := [True, True, True]) (S' := ([some (.ref 16), some (.int v), some (.int (127 : Int32))], [.int v, .int (2 : Int32), .ref 16], Ac fp le lp lb il tf tz bf rfc fr mp sc ifp ib ie pw dh rl rb re sy sb rc sg (Bc mth mfr (nI z) (nif t) mmp mrg mme msn mbg mhd mfo mfi mmy mwa mwn mba mdy mkn (0 : Int32) (-1 : Int32) men mpg mct mim))) k_M_isHeader_78 kc_M_isHeader_78 rfl ⟨trivial, trivial, trivial, trivial⟩ ?_
          refine Run.callV (b := 16) (As := [.int (2 : Int32), .int v]) (rest := []) v_M_isHeader_81 c_M_fail rfl (Nat.le_of_ble_eq_true rfl) rfl rfl rfl rfl (fun r cs' hp => ?_)
          obtain ⟨rfl, rfl⟩ := hp
          show Run _ _ _ _ 84 ([some (.ref 16), some (.int v), some (.int (127 : Int32))], [.int (0 : Int32)], Ac fp le lp lb il tf tz bf rfc fr mp sc ifp ib ie pw dh rl rb re sy sb rc sg (Bc mth mfr (nI z) (nif t) mmp mrg mme msn mbg mhd mfo mfi mmy mwa mwn mba mdy mkn (2 : Int32) v men mpg mct mim)) _
          rw [show hdL t z (k + 1) i = (2, nI i) by rw [hdL, if_neg c_10]]
          exact Run.ret (r := some (.int (0 : Int32))) ⟨d_M_isHeader_84, _, rfl, rfl⟩ ⟨rfl, by rw [hv]⟩
set_option maxRecDepth 100000 in
set_option maxHeartbeats 4000000 in
theorem c_M_isHeader (ht : ∀ j, t j < 256) (hz : z ≤ 900) : Ct m_M_isHeader 0 0 [.ref 16] (Ac fp le lp lb il tf tz bf rfc fr mp sc ifp ib ie pw dh rl rb re sy sb rc sg (Bc mth mfr (nI z) (nif t) mmp mrg mme msn mbg mhd mfo mfi mmy mwa mwn mba mdy mkn (0 : Int32) (-1 : Int32) men mpg mct mim)) (vm_is (some (.int (if (hdF t z).1 = 0 then 1 else 0))) (Ac fp le lp lb il tf tz bf rfc fr mp sc ifp ib ie pw dh rl rb re sy sb rc sg (Bc mth mfr (nI z) (nif t) mmp mrg mme msn mbg mhd mfo mfi mmy mwa mwn mba mdy mkn ((hdF t z).1) ((hdF t z).2) men mpg mct mim))) := by
  refine Ct.of ⟨by decide +kernel, rfl⟩ (Nat.le_of_ble_eq_true rfl) (lv := [some (.ref 16), none, none]) rfl ?_
  refine Run.blk (gs := [True, True, True]) (S' := ([some (.ref 16), none, none], [.int (52 : Int32), .int (nI z)], Ac fp le lp lb il tf tz bf rfc fr mp sc ifp ib ie pw dh rl rb re sy sb rc sg (Bc mth mfr (nI z) (nif t) mmp mrg mme msn mbg mhd mfo mfi mmy mwa mwn mba mdy mkn (0 : Int32) (-1 : Int32) men mpg mct mim))) k_M_isHeader_0 kc_M_isHeader_0 rfl ⟨trivial, trivial, trivial, trivial⟩ ?_
  refine Run.br (tgt := 19) d_M_isHeader_6 rfl (by decide) (fun c_1 => ?_) (fun c_1 => ?_)
  · have c_1 := (nI_leI (a := 52) (b := z) (by decide) (by omega)).mp c_1
    refine Run.blk (gs := [True, True]) (S' := ([some (.ref 16), some (.int (0 : Int32)), none], [], Ac fp le lp lb il tf tz bf rfc fr mp sc ifp ib ie pw dh rl rb re sy sb rc sg (Bc mth mfr (nI z) (nif t) mmp mrg mme msn mbg mhd mfo mfi mmy mwa mwn mba mdy mkn (0 : Int32) (-1 : Int32) men mpg mct mim))) k_M_isHeader_19 kc_M_isHeader_19 rfl ⟨trivial, trivial, trivial⟩ ?_
    rw [show hdF t z = hdL t z 7 0 by unfold hdF; rw [if_neg (by omega)]]
    exact l_M_isHeader ht hz (by omega) 7 0 _ _ rfl rfl
  · have c_1 : ¬ (52 ≤ z) := fun w_ => c_1 ((nI_leI (a := 52) (b := z) (by decide) (by omega)).mpr w_)
    refine Run.blk (gs := [True, True, True, True]) (S' := ([some (.ref 16), none, none], [.int (nI z), .int (1 : Int32), .ref 16], Ac fp le lp lb il tf tz bf rfc fr mp sc ifp ib ie pw dh rl rb re sy sb rc sg (Bc mth mfr (nI z) (nif t) mmp mrg mme msn mbg mhd mfo mfi mmy mwa mwn mba mdy mkn (0 : Int32) (-1 : Int32) men mpg mct mim))) k_M_isHeader_9 kc_M_isHeader_9 rfl ⟨trivial, trivial, trivial, trivial, trivial⟩ ?_
    refine Run.callV (b := 16) (As := [.int (1 : Int32), .int (nI z)]) (rest := []) v_M_isHeader_15 c_M_fail rfl (Nat.le_of_ble_eq_true rfl) rfl rfl rfl rfl (fun r cs' hp => ?_)
    obtain ⟨rfl, rfl⟩ := hp
    show Run _ _ _ _ 18 ([some (.ref 16), none, none], [.int (0 : Int32)], Ac fp le lp lb il tf tz bf rfc fr mp sc ifp ib ie pw dh rl rb re sy sb rc sg (Bc mth mfr (nI z) (nif t) mmp mrg mme msn mbg mhd mfo mfi mmy mwa mwn mba mdy mkn (1 : Int32) (nI z) men mpg mct mim)) _
    rw [show hdF t z = (1, nI z) by unfold hdF; rw [if_pos (by omega)]]
    exact Run.ret (r := some (.int (0 : Int32))) ⟨d_M_isHeader_18, _, rfl, rfl⟩ ⟨rfl, rfl⟩
set_option maxRecDepth 100000 in
set_option maxHeartbeats 4000000 in
theorem c_M_isDynamic (ht : ∀ k, t k < 256) (hz : z ≤ 900) {p : Nat} {x : Int32} (hx : x = nI p) (hp : p + 32 ≤ z) : Ct m_M_isDynamic 0 0 [.ref 16, .int x] (Ac fp le lp lb il tf tz bf rfc fr mp sc ifp ib ie pw dh rl rb re sy sb rc sg (Bc mth mfr (nI z) (nif t) mmp mrg mme msn mbg mhd mfo mfi mmy mwa mwn mba mdy mkn (0 : Int32) (-1 : Int32) men mpg mct mim)) (fun r cs' => ∃ (d' a' i' : Int32), r = some (.int (if (dyH t z p).1 = 0 then 1 else 0)) ∧ cs' = Ac fp le lp lb il tf tz bf rfc fr mp sc ifp ib ie pw dh rl rb re sy sb rc sg (Bc mth mfr (nI z) (nif t) mmp mrg mme msn mbg mhd mfo mfi mmy mwa mwn mba (d') mkn (a') (i') men mpg mct mim) ∧ (((dyH t z p).1 = 0 ∧ d' = nI p ∧ a' = 0 ∧ i' = -1) ∨ (¬ (dyH t z p).1 = 0 ∧ d' = mdy ∧ a' = (dyH t z p).1 ∧ i' = (dyH t z p).2))) := by
  subst hx
  have h16 := wN_lt ht z (p + 16)
  have h4 := wN_lt ht z (p + 4)
  refine Ct.of ⟨by decide +kernel, rfl⟩ (Nat.le_of_ble_eq_true rfl) (lv := [some (.ref 16), some (.int (nI p))]) rfl ?_
  refine Run.blk (gs := [True, True, True, True]) (S' := ([some (.ref 16), some (.int (nI p))], [.int ((nI p) + (4 : Int32)), .ref 16], Ac fp le lp lb il tf tz bf rfc fr mp sc ifp ib ie pw dh rl rb re sy sb rc sg (Bc mth mfr (nI z) (nif t) mmp mrg mme msn mbg mhd mfo mfi mmy mwa mwn mba mdy mkn (0 : Int32) (-1 : Int32) men mpg mct mim))) k_M_isDynamic_0 kc_M_isDynamic_0 rfl ⟨trivial, trivial, trivial, trivial, trivial⟩ ?_
  refine Run.callV (b := 16) (As := [.int ((nI p) + (4 : Int32))]) (rest := []) v_M_isDynamic_4 (c_M_word ht hz (p := p + 4) (nI_add p 4) (by omega)) rfl (Nat.le_of_ble_eq_true rfl) rfl rfl rfl rfl (fun r cs' hp => ?_)
  obtain ⟨rfl, rfl⟩ := hp
  show Run _ _ _ _ 7 ([some (.ref 16), some (.int (nI p))], [.long (lN (wN t z (p + 4)))], Ac fp le lp lb il tf tz bf rfc fr mp sc ifp ib ie pw dh rl rb re sy sb rc sg (Bc mth mfr (nI z) (nif t) mmp mrg mme msn mbg mhd mfo mfi mmy mwa mwn mba mdy mkn (0 : Int32) (-1 : Int32) men mpg mct mim)) _
  refine Run.blk (gs := [True, True, True, True]) (S' := ([some (.ref 16), some (.int (nI p))], [.int ((nI p) + (16 : Int32)), .ref 16, .long (lN (wN t z (p + 4)))], Ac fp le lp lb il tf tz bf rfc fr mp sc ifp ib ie pw dh rl rb re sy sb rc sg (Bc mth mfr (nI z) (nif t) mmp mrg mme msn mbg mhd mfo mfi mmy mwa mwn mba mdy mkn (0 : Int32) (-1 : Int32) men mpg mct mim))) k_M_isDynamic_7 kc_M_isDynamic_7 rfl ⟨trivial, trivial, trivial, trivial, trivial⟩ ?_
  refine Run.callV (b := 16) (As := [.int ((nI p) + (16 : Int32))]) (rest := [.long (lN (wN t z (p + 4)))]) v_M_isDynamic_12 (c_M_word ht hz (p := p + 16) (nI_add p 16) (by omega)) rfl (Nat.le_of_ble_eq_true rfl) rfl rfl rfl rfl (fun r cs' hp => ?_)
  obtain ⟨rfl, rfl⟩ := hp
  show Run _ _ _ _ 15 ([some (.ref 16), some (.int (nI p))], [.long (lN (wN t z (p + 16))), .long (lN (wN t z (p + 4)))], Ac fp le lp lb il tf tz bf rfc fr mp sc ifp ib ie pw dh rl rb re sy sb rc sg (Bc mth mfr (nI z) (nif t) mmp mrg mme msn mbg mhd mfo mfi mmy mwa mwn mba mdy mkn (0 : Int32) (-1 : Int32) men mpg mct mim)) _
  refine Run.blk (gs := [True, True, True, True]) (S' := ([some (.ref 16), some (.int (nI p))], [.long ((nI z).toInt64), .long ((lN (wN t z (p + 4))) + (lN (wN t z (p + 16))))], Ac fp le lp lb il tf tz bf rfc fr mp sc ifp ib ie pw dh rl rb re sy sb rc sg (Bc mth mfr (nI z) (nif t) mmp mrg mme msn mbg mhd mfo mfi mmy mwa mwn mba mdy mkn (0 : Int32) (-1 : Int32) men mpg mct mim))) k_M_isDynamic_15 kc_M_isDynamic_15 rfl ⟨trivial, trivial, trivial, trivial, trivial⟩ ?_
  refine Run.brl (tgt := 35) dl_M_isDynamic_21 d_M_isDynamic_21 rfl (by decide) (fun c_1 => ?_) (fun c_1 => ?_)
  · rw [lN_add, nI_l (by omega), pk_lLE (by omega) (by omega)] at c_1
    refine Run.blk (gs := [True, True, True, True]) (S' := ([some (.ref 16), some (.int (nI p))], [.int ((nI p) + (16 : Int32)), .ref 16], Ac fp le lp lb il tf tz bf rfc fr mp sc ifp ib ie pw dh rl rb re sy sb rc sg (Bc mth mfr (nI z) (nif t) mmp mrg mme msn mbg mhd mfo mfi mmy mwa mwn mba mdy mkn (0 : Int32) (-1 : Int32) men mpg mct mim))) k_M_isDynamic_35 kc_M_isDynamic_35 rfl ⟨trivial, trivial, trivial, trivial, trivial⟩ ?_
    refine Run.callV (b := 16) (As := [.int ((nI p) + (16 : Int32))]) (rest := []) v_M_isDynamic_40 (c_M_word ht hz (p := p + 16) (nI_add p 16) (by omega)) rfl (Nat.le_of_ble_eq_true rfl) rfl rfl rfl rfl (fun r cs' hp => ?_)
    obtain ⟨rfl, rfl⟩ := hp
    show Run _ _ _ _ 43 ([some (.ref 16), some (.int (nI p))], [.long (lN (wN t z (p + 16)))], Ac fp le lp lb il tf tz bf rfc fr mp sc ifp ib ie pw dh rl rb re sy sb rc sg (Bc mth mfr (nI z) (nif t) mmp mrg mme msn mbg mhd mfo mfi mmy mwa mwn mba mdy mkn (0 : Int32) (-1 : Int32) men mpg mct mim)) _
    refine Run.blk (gs := [True, ¬ (8 : Int64) = 0, True]) (S' := ([some (.ref 16), some (.int (nI p))], [.long (0 : Int64), .long ((lN (wN t z (p + 16))) - (lN (wN t z (p + 16))) / (8 : Int64) * (8 : Int64))], Ac fp le lp lb il tf tz bf rfc fr mp sc ifp ib ie pw dh rl rb re sy sb rc sg (Bc mth mfr (nI z) (nif t) mmp mrg mme msn mbg mhd mfo mfi mmy mwa mwn mba mdy mkn (0 : Int32) (-1 : Int32) men mpg mct mim))) k_M_isDynamic_43 kc_M_isDynamic_43 rfl ⟨trivial, (by decide), trivial, trivial⟩ ?_
    refine Run.brl (tgt := 63) dl_M_isDynamic_48 d_M_isDynamic_48 rfl (by decide) (fun c_2 => ?_) (fun c_2 => ?_)
    · rw [show (8 : Int64) = lN 8 from rfl, pk_lRem (by omega) (by decide) (by decide), show (0 : Int64) = lN 0 from rfl, pk_lEQ (Nat.lt_of_le_of_lt (Nat.mod_le _ _) (by omega)) (by decide)] at c_2
      refine Run.blk (gs := [True, True, True, True]) (S' := ([some (.ref 16), some (.int (nI p))], [.int (1 : Int32)], Ac fp le lp lb il tf tz bf rfc fr mp sc ifp ib ie pw dh rl rb re sy sb rc sg (Bc mth mfr (nI z) (nif t) mmp mrg mme msn mbg mhd mfo mfi mmy mwa mwn mba (nI p) mkn (0 : Int32) (-1 : Int32) men mpg mct mim))) k_M_isDynamic_63 kc_M_isDynamic_63 rfl ⟨trivial, trivial, trivial, trivial, trivial⟩ ?_
      have e : (dyH t z p) = (0, -1) := by rw [dyH, if_pos c_1, if_pos c_2]
      exact Run.ret (r := some (.int (1 : Int32))) ⟨d_M_isDynamic_69, _, rfl, rfl⟩ ⟨_, _, _, by rw [e]; rfl, rfl, Or.inl ⟨congrArg Prod.fst e, rfl, rfl, rfl⟩⟩
    · rw [show (8 : Int64) = lN 8 from rfl, pk_lRem (by omega) (by decide) (by decide), show (0 : Int64) = lN 0 from rfl, pk_lEQ (Nat.lt_of_le_of_lt (Nat.mod_le _ _) (by omega)) (by decide)] at c_2
      refine Run.blk (gs := [True, True, True, True, True]) (S' := ([some (.ref 16), some (.int (nI p))], [.int ((nI p) + (16 : Int32)), .int (16 : Int32), .ref 16], Ac fp le lp lb il tf tz bf rfc fr mp sc ifp ib ie pw dh rl rb re sy sb rc sg (Bc mth mfr (nI z) (nif t) mmp mrg mme msn mbg mhd mfo mfi mmy mwa mwn mba mdy mkn (0 : Int32) (-1 : Int32) men mpg mct mim))) k_M_isDynamic_52 kc_M_isDynamic_52 rfl ⟨trivial, trivial, trivial, trivial, trivial, trivial⟩ ?_
      refine Run.callV (b := 16) (As := [.int (16 : Int32), .int ((nI p) + (16 : Int32))]) (rest := []) v_M_isDynamic_59 c_M_fail rfl (Nat.le_of_ble_eq_true rfl) rfl rfl rfl rfl (fun r cs' hp => ?_)
      obtain ⟨rfl, rfl⟩ := hp
      show Run _ _ _ _ 62 ([some (.ref 16), some (.int (nI p))], [.int (0 : Int32)], Ac fp le lp lb il tf tz bf rfc fr mp sc ifp ib ie pw dh rl rb re sy sb rc sg (Bc mth mfr (nI z) (nif t) mmp mrg mme msn mbg mhd mfo mfi mmy mwa mwn mba mdy mkn (16 : Int32) ((nI p) + (16 : Int32)) men mpg mct mim)) _
      have e : (dyH t z p) = (16, nI (p + 16)) := by rw [dyH, if_pos c_1, if_neg c_2]
      exact Run.ret (r := some (.int (0 : Int32))) ⟨d_M_isDynamic_62, _, rfl, rfl⟩ ⟨_, _, _, by rw [e]; rfl, rfl, Or.inr ⟨fun w => absurd ((congrArg Prod.fst e).symm.trans w) (show ¬ (16 : Int32) = 0 by decide), rfl, (congrArg Prod.fst e).symm, (nI_add p 16).trans (congrArg Prod.snd e).symm⟩⟩
  · rw [lN_add, nI_l (by omega), pk_lLE (by omega) (by omega)] at c_1
    refine Run.blk (gs := [True, True, True, True, True]) (S' := ([some (.ref 16), some (.int (nI p))], [.int ((nI p) + (4 : Int32)), .int (10 : Int32), .ref 16], Ac fp le lp lb il tf tz bf rfc fr mp sc ifp ib ie pw dh rl rb re sy sb rc sg (Bc mth mfr (nI z) (nif t) mmp mrg mme msn mbg mhd mfo mfi mmy mwa mwn mba mdy mkn (0 : Int32) (-1 : Int32) men mpg mct mim))) k_M_isDynamic_25 kc_M_isDynamic_25 rfl ⟨trivial, trivial, trivial, trivial, trivial, trivial⟩ ?_
    refine Run.callV (b := 16) (As := [.int (10 : Int32), .int ((nI p) + (4 : Int32))]) (rest := []) v_M_isDynamic_31 c_M_fail rfl (Nat.le_of_ble_eq_true rfl) rfl rfl rfl rfl (fun r cs' hp => ?_)
    obtain ⟨rfl, rfl⟩ := hp
    show Run _ _ _ _ 34 ([some (.ref 16), some (.int (nI p))], [.int (0 : Int32)], Ac fp le lp lb il tf tz bf rfc fr mp sc ifp ib ie pw dh rl rb re sy sb rc sg (Bc mth mfr (nI z) (nif t) mmp mrg mme msn mbg mhd mfo mfi mmy mwa mwn mba mdy mkn (10 : Int32) ((nI p) + (4 : Int32)) men mpg mct mim)) _
    have e : (dyH t z p) = (10, nI (p + 4)) := by rw [dyH, if_neg c_1]
    exact Run.ret (r := some (.int (0 : Int32))) ⟨d_M_isDynamic_34, _, rfl, rfl⟩ ⟨_, _, _, by rw [e]; rfl, rfl, Or.inr ⟨fun w => absurd ((congrArg Prod.fst e).symm.trans w) (show ¬ (10 : Int32) = 0 by decide), rfl, (congrArg Prod.fst e).symm, (nI_add p 4).trans (congrArg Prod.snd e).symm⟩⟩
end P42
