section P28
variable {fp le lp lb il : Int32} {tf bf rf : Nat → Int32} {tz fr mp sc ifp ib ie pw dh rc : Int32} {rl rb re sy sb : Int64} {sg : Nat → A_G} {ex : List va_E}
variable {cs : List va_E} {q n : Nat} {O Ad St Fi He Al : Nat} {fl : Int32}
variable {t b : Nat → Nat} {z : Nat}
def pSeg (O Ad St Fi He Al : Nat) (fl : Int32) : va_E := Ag (lN O, lN Ad, lN St, lN Fi, lN He, lN Al, fl)
/-- first page, and one behind the last -/
def pgA (St He : Nat) : Nat := if He = 0 then 0 else St / 256
def pgC (St He : Nat) : Nat := if He = 0 then 0 else (St + He - 1) / 256 + 1
theorem l_m1 {a : Nat} (h : 1 ≤ a) : lN a - 1 = lN (a - 1) := lN_sub (b := 1) h
set_option maxRecDepth 100000 in
set_option maxHeartbeats 4000000 in
theorem c_S_isAlignSound (hq : vm_g cs q = some (pSeg O Ad St Fi He Al fl)) (hO : O < 2 ^ 32) (hAd : Ad < 2 ^ 32) (hSt : St < 2 ^ 33) (hHe : He < 2 ^ 32) (hAl : Al < 2 ^ 32)  : Ct m_S_isAlignSound 0 0 [.ref q] (cs) (vm_is (some (.int (if Al ≤ 1 ∨ (Al ≤ 4096 ∧ apw Al = true) then 1 else 0))) (cs)) := by
  refine Ct.of ⟨by decide +kernel, rfl⟩ (Nat.le_of_ble_eq_true rfl) (lv := [some (.ref q)]) rfl ?_
  refine Run.blk (gs := [True]) (S' := ([some (.ref q)], [.ref q], cs)) k_S_isAlignSound_0 kc_S_isAlignSound_0 rfl ⟨trivial, trivial⟩ ?_
  refine Run.blk (S' := ([some (.ref q)], [.long (lN Al)], cs)) k_S_isAlignSound_1 kc_S_isAlignSound_1 (vm_x_gf (by decide) hq rfl) ⟨trivial, trivial⟩ ?_
  refine Run.blk (gs := [True]) (S' := ([some (.ref q)], [.long (1 : Int64), .long (lN Al)], cs)) k_S_isAlignSound_4 kc_S_isAlignSound_4 rfl ⟨trivial, trivial⟩ ?_
  refine Run.brl (tgt := 31) dl_S_isAlignSound_5 d_S_isAlignSound_5 rfl (by decide) (fun c_1 => ?_) (fun c_1 => ?_)
  · have c_1 := (pk_lLE (a := Al) (b := 1) (by omega) (by decide)).mp c_1
    refine Run.blk (gs := [True]) (S' := ([some (.ref q)], [.int (1 : Int32)], cs)) k_S_isAlignSound_31 kc_S_isAlignSound_31 rfl ⟨trivial, trivial⟩ ?_
    refine Run.goto (tgt := 36) d_S_isAlignSound_32 (by decide) ?_
    exact Run.ret (r := some (.int (1 : Int32))) ⟨d_S_isAlignSound_36, _, rfl, rfl⟩ ⟨by rw [if_pos (by first | omega | (simp_all; done) | (intro w; rcases w with w | w <;> simp_all; done))], rfl⟩
  · have c_1 : ¬ (Al ≤ 1) := fun w_ => c_1 ((pk_lLE (a := Al) (b := 1) (by omega) (by decide)).mpr w_)
    refine Run.blk (gs := [True]) (S' := ([some (.ref q)], [.ref q], cs)) k_S_isAlignSound_9 kc_S_isAlignSound_9 rfl ⟨trivial, trivial⟩ ?_
    refine Run.blk (S' := ([some (.ref q)], [.long (lN Al)], cs)) k_S_isAlignSound_10 kc_S_isAlignSound_10 (vm_x_gf (by decide) hq rfl) ⟨trivial, trivial⟩ ?_
    refine Run.blk (gs := [True]) (S' := ([some (.ref q)], [.long (4096 : Int64), .long (lN Al)], cs)) k_S_isAlignSound_13 kc_S_isAlignSound_13 rfl ⟨trivial, trivial⟩ ?_
    refine Run.brl (tgt := 35) dl_S_isAlignSound_16 d_S_isAlignSound_16 rfl (by decide) (fun c_2 => ?_) (fun c_2 => ?_)
    · have c_2 := (pk_lLT (a := 4096) (b := Al) (by decide) (by omega)).mp c_2
      refine Run.blk (gs := [True]) (S' := ([some (.ref q)], [.int (0 : Int32)], cs)) k_S_isAlignSound_35 kc_S_isAlignSound_35 rfl ⟨trivial, trivial⟩ ?_
      exact Run.ret (r := some (.int (0 : Int32))) ⟨d_S_isAlignSound_36, _, rfl, rfl⟩ ⟨by rw [if_neg (by first | omega | (simp_all; done) | (intro w; rcases w with w | w <;> simp_all; done))], rfl⟩
    · have c_2 : ¬ (4096 < Al) := fun w_ => c_2 ((pk_lLT (a := 4096) (b := Al) (by decide) (by omega)).mpr w_)
      refine Run.blk (gs := [True]) (S' := ([some (.ref q)], [.ref q], cs)) k_S_isAlignSound_20 kc_S_isAlignSound_20 rfl ⟨trivial, trivial⟩ ?_
      refine Run.blk (S' := ([some (.ref q)], [.long (lN Al)], cs)) k_S_isAlignSound_21 kc_S_isAlignSound_21 (vm_x_gf (by decide) hq rfl) ⟨trivial, trivial⟩ ?_
      refine Run.callS (As := [.long (lN Al)]) (rest := []) v_S_isAlignSound_24 (c_K_bitCount (lN Al)) rfl (Nat.le_of_ble_eq_true rfl) rfl (fun r cs' hp => ?_)
      obtain ⟨rfl, hcs⟩ := hp
      rw [hcs]
      show Run _ _ _ _ 27 ([some (.ref q)], [.int (f_K_bitCount (lN Al))], cs) _
      refine Run.blk (gs := [True]) (S' := ([some (.ref q)], [.int (1 : Int32), .int (f_K_bitCount (lN Al))], cs)) k_S_isAlignSound_27 kc_S_isAlignSound_27 rfl ⟨trivial, trivial⟩ ?_
      refine Run.br (tgt := 35) d_S_isAlignSound_28 rfl (by decide) (fun c_3 => ?_) (fun c_3 => ?_)
      · have h9 : ¬ (apw Al = true ∧ 0 < Al) := fun w => c_3 ((bc_apw Al (by omega)).mpr w)
        refine Run.blk (gs := [True]) (S' := ([some (.ref q)], [.int (0 : Int32)], cs)) k_S_isAlignSound_35 kc_S_isAlignSound_35 rfl ⟨trivial, trivial⟩ ?_
        exact Run.ret (r := some (.int (0 : Int32))) ⟨d_S_isAlignSound_36, _, rfl, rfl⟩ ⟨by rw [if_neg (by first | omega | (simp_all; done) | (intro w; rcases w with w | w <;> simp_all; done))], rfl⟩
      · have c_3 := Classical.not_not.mp c_3
        have h9 := (bc_apw Al (by omega)).mp c_3
        refine Run.blk (gs := [True]) (S' := ([some (.ref q)], [.int (1 : Int32)], cs)) k_S_isAlignSound_31 kc_S_isAlignSound_31 rfl ⟨trivial, trivial⟩ ?_
        refine Run.goto (tgt := 36) d_S_isAlignSound_32 (by decide) ?_
        exact Run.ret (r := some (.int (1 : Int32))) ⟨d_S_isAlignSound_36, _, rfl, rfl⟩ ⟨by rw [if_pos (by first | omega | (simp_all; done) | (intro w; rcases w with w | w <;> simp_all; done))], rfl⟩
theorem l_rem {a d : Nat} (ha : a < 2 ^ 63) (h0 : 0 < d) (hd : d < 2 ^ 63) : lN a - lN a / lN d * lN d = lN (a % d) := pk_lRem ha h0 hd
set_option maxRecDepth 100000 in
set_option maxHeartbeats 4000000 in
theorem c_S_isAligned (hq : vm_g cs q = some (pSeg O Ad St Fi He Al fl)) (hO : O < 2 ^ 32) (hAd : Ad < 2 ^ 32) (hSt : St < 2 ^ 33) (hHe : He < 2 ^ 32) (hAl : Al < 2 ^ 32)  : Ct m_S_isAligned 0 0 [.ref q] (cs) (vm_is (some (.int (if Al ≤ 1 ∨ Ad % Al = O % Al then 1 else 0))) (cs)) := by
  refine Ct.of ⟨by decide +kernel, rfl⟩ (Nat.le_of_ble_eq_true rfl) (lv := [some (.ref q)]) rfl ?_
  refine Run.blk (gs := [True]) (S' := ([some (.ref q)], [.ref q], cs)) k_S_isAligned_0 kc_S_isAligned_0 rfl ⟨trivial, trivial⟩ ?_
  refine Run.blk (S' := ([some (.ref q)], [.long (lN Al)], cs)) k_S_isAligned_1 kc_S_isAligned_1 (vm_x_gf (by decide) hq rfl) ⟨trivial, trivial⟩ ?_
  refine Run.blk (gs := [True]) (S' := ([some (.ref q)], [.long (1 : Int64), .long (lN Al)], cs)) k_S_isAligned_4 kc_S_isAligned_4 rfl ⟨trivial, trivial⟩ ?_
  refine Run.brl (tgt := 31) dl_S_isAligned_5 d_S_isAligned_5 rfl (by decide) (fun c_1 => ?_) (fun c_1 => ?_)
  · have c_1 := (pk_lLE (a := Al) (b := 1) (by omega) (by decide)).mp c_1
    refine Run.blk (gs := [True]) (S' := ([some (.ref q)], [.int (1 : Int32)], cs)) k_S_isAligned_31 kc_S_isAligned_31 rfl ⟨trivial, trivial⟩ ?_
    refine Run.goto (tgt := 36) d_S_isAligned_32 (by decide) ?_
    exact Run.ret (r := some (.int (1 : Int32))) ⟨d_S_isAligned_36, _, rfl, rfl⟩ ⟨by rw [if_pos (by first | omega | exact Or.inr c_2 | exact (fun w => w.elim (by omega) (fun v => c_2 v)))], rfl⟩
  · have c_1 : ¬ (Al ≤ 1) := fun w_ => c_1 ((pk_lLE (a := Al) (b := 1) (by omega) (by decide)).mpr w_)
    refine Run.blk (gs := [True]) (S' := ([some (.ref q)], [.ref q], cs)) k_S_isAligned_9 kc_S_isAligned_9 rfl ⟨trivial, trivial⟩ ?_
    refine Run.blk (S' := ([some (.ref q)], [.long (lN Ad)], cs)) k_S_isAligned_10 kc_S_isAligned_10 (vm_x_gf (by decide) hq rfl) ⟨trivial, trivial⟩ ?_
    refine Run.blk (gs := [True]) (S' := ([some (.ref q)], [.ref q, .long (lN Ad)], cs)) k_S_isAligned_13 kc_S_isAligned_13 rfl ⟨trivial, trivial⟩ ?_
    refine Run.blk (S' := ([some (.ref q)], [.long (lN Al), .long (lN Ad)], cs)) k_S_isAligned_14 kc_S_isAligned_14 (vm_x_gf (by decide) hq rfl) ⟨trivial, trivial⟩ ?_
    refine Run.blk (gs := [¬ (lN Al) = 0, True]) (S' := ([some (.ref q)], [.ref q, .long ((lN Ad) - (lN Ad) / (lN Al) * (lN Al))], cs)) k_S_isAligned_17 kc_S_isAligned_17 rfl ⟨(fun w => absurd ((pk_lEQ (a := Al) (b := 0) (by omega) (by decide)).mp w) (by omega)), trivial, trivial⟩ ?_
    refine Run.blk (S' := ([some (.ref q)], [.long (lN O), .long ((lN Ad) - (lN Ad) / (lN Al) * (lN Al))], cs)) k_S_isAligned_19 kc_S_isAligned_19 (vm_x_gf (by decide) hq rfl) ⟨trivial, trivial⟩ ?_
    refine Run.blk (gs := [True]) (S' := ([some (.ref q)], [.ref q, .long (lN O), .long ((lN Ad) - (lN Ad) / (lN Al) * (lN Al))], cs)) k_S_isAligned_22 kc_S_isAligned_22 rfl ⟨trivial, trivial⟩ ?_
    refine Run.blk (S' := ([some (.ref q)], [.long (lN Al), .long (lN O), .long ((lN Ad) - (lN Ad) / (lN Al) * (lN Al))], cs)) k_S_isAligned_23 kc_S_isAligned_23 (vm_x_gf (by decide) hq rfl) ⟨trivial, trivial⟩ ?_
    refine Run.blk (gs := [¬ (lN Al) = 0]) (S' := ([some (.ref q)], [.long ((lN O) - (lN O) / (lN Al) * (lN Al)), .long ((lN Ad) - (lN Ad) / (lN Al) * (lN Al))], cs)) k_S_isAligned_26 kc_S_isAligned_26 rfl ⟨(fun w => absurd ((pk_lEQ (a := Al) (b := 0) (by omega) (by decide)).mp w) (by omega)), trivial⟩ ?_
    refine Run.brl (tgt := 35) dl_S_isAligned_27 d_S_isAligned_27 rfl (by decide) (fun c_2 => ?_) (fun c_2 => ?_)
    · rw [l_rem (by omega) (by omega) (by omega), l_rem (by omega) (by omega) (by omega), pk_lEQ (Nat.lt_of_le_of_lt (Nat.mod_le _ _) (by omega)) (Nat.lt_of_le_of_lt (Nat.mod_le _ _) (by omega))] at c_2
      refine Run.blk (gs := [True]) (S' := ([some (.ref q)], [.int (0 : Int32)], cs)) k_S_isAligned_35 kc_S_isAligned_35 rfl ⟨trivial, trivial⟩ ?_
      exact Run.ret (r := some (.int (0 : Int32))) ⟨d_S_isAligned_36, _, rfl, rfl⟩ ⟨by rw [if_neg (by first | omega | exact Or.inr c_2 | exact (fun w => w.elim (by omega) (fun v => c_2 v)))], rfl⟩
    · have c_2 := Classical.not_not.mp c_2
      rw [l_rem (by omega) (by omega) (by omega), l_rem (by omega) (by omega) (by omega), pk_lEQ (Nat.lt_of_le_of_lt (Nat.mod_le _ _) (by omega)) (Nat.lt_of_le_of_lt (Nat.mod_le _ _) (by omega))] at c_2
      refine Run.blk (gs := [True]) (S' := ([some (.ref q)], [.int (1 : Int32)], cs)) k_S_isAligned_31 kc_S_isAligned_31 rfl ⟨trivial, trivial⟩ ?_
      refine Run.goto (tgt := 36) d_S_isAligned_32 (by decide) ?_
      exact Run.ret (r := some (.int (1 : Int32))) ⟨d_S_isAligned_36, _, rfl, rfl⟩ ⟨by rw [if_pos (by first | omega | exact Or.inr c_2 | exact (fun w => w.elim (by omega) (fun v => c_2 v)))], rfl⟩
set_option maxRecDepth 100000 in
set_option maxHeartbeats 4000000 in
theorem c_S_isInSpace (hq : vm_g cs q = some (pSeg O Ad St Fi He Al fl)) (hO : O < 2 ^ 32) (hAd : Ad < 2 ^ 32) (hSt : St < 2 ^ 33) (hHe : He < 2 ^ 32) (hAl : Al < 2 ^ 32)  : Ct m_S_isInSpace 0 0 [.ref q] (cs) (vm_is (some (.int (if He = 0 ∨ St + He ≤ 16384 then 1 else 0))) (cs)) := by
  refine Ct.of ⟨by decide +kernel, rfl⟩ (Nat.le_of_ble_eq_true rfl) (lv := [some (.ref q)]) rfl ?_
  refine Run.blk (gs := [True]) (S' := ([some (.ref q)], [.ref q], cs)) k_S_isInSpace_0 kc_S_isInSpace_0 rfl ⟨trivial, trivial⟩ ?_
  refine Run.blk (S' := ([some (.ref q)], [.long (lN He)], cs)) k_S_isInSpace_1 kc_S_isInSpace_1 (vm_x_gf (by decide) hq rfl) ⟨trivial, trivial⟩ ?_
  refine Run.blk (gs := [True]) (S' := ([some (.ref q)], [.long (0 : Int64), .long (lN He)], cs)) k_S_isInSpace_4 kc_S_isInSpace_4 rfl ⟨trivial, trivial⟩ ?_
  refine Run.brl (tgt := 25) dl_S_isInSpace_5 d_S_isInSpace_5 rfl (by decide) (fun c_1 => ?_) (fun c_1 => ?_)
  · have c_1 := (pk_lEQ (a := He) (b := 0) (by omega) (by decide)).mp c_1
    refine Run.blk (gs := [True]) (S' := ([some (.ref q)], [.int (1 : Int32)], cs)) k_S_isInSpace_25 kc_S_isInSpace_25 rfl ⟨trivial, trivial⟩ ?_
    refine Run.goto (tgt := 30) d_S_isInSpace_26 (by decide) ?_
    exact Run.ret (r := some (.int (1 : Int32))) ⟨d_S_isInSpace_30, _, rfl, rfl⟩ ⟨by rw [if_pos (by omega)], rfl⟩
  · have c_1 : ¬ (He = 0) := fun w_ => c_1 ((pk_lEQ (a := He) (b := 0) (by omega) (by decide)).mpr w_)
    refine Run.blk (gs := [True]) (S' := ([some (.ref q)], [.ref q], cs)) k_S_isInSpace_9 kc_S_isInSpace_9 rfl ⟨trivial, trivial⟩ ?_
    refine Run.blk (S' := ([some (.ref q)], [.long (lN St)], cs)) k_S_isInSpace_10 kc_S_isInSpace_10 (vm_x_gf (by decide) hq rfl) ⟨trivial, trivial⟩ ?_
    refine Run.blk (gs := [True]) (S' := ([some (.ref q)], [.ref q, .long (lN St)], cs)) k_S_isInSpace_13 kc_S_isInSpace_13 rfl ⟨trivial, trivial⟩ ?_
    refine Run.blk (S' := ([some (.ref q)], [.long (lN He), .long (lN St)], cs)) k_S_isInSpace_14 kc_S_isInSpace_14 (vm_x_gf (by decide) hq rfl) ⟨trivial, trivial⟩ ?_
    refine Run.blk (gs := [True, True]) (S' := ([some (.ref q)], [.long (16384 : Int64), .long ((lN St) + (lN He))], cs)) k_S_isInSpace_17 kc_S_isInSpace_17 rfl ⟨trivial, trivial, trivial⟩ ?_
    refine Run.brl (tgt := 29) dl_S_isInSpace_21 d_S_isInSpace_21 rfl (by decide) (fun c_2 => ?_) (fun c_2 => ?_)
    · rw [lN_add, show (16384 : Int64) = lN 16384 from rfl, pk_lLT (by decide) (by omega)] at c_2
      refine Run.blk (gs := [True]) (S' := ([some (.ref q)], [.int (0 : Int32)], cs)) k_S_isInSpace_29 kc_S_isInSpace_29 rfl ⟨trivial, trivial⟩ ?_
      exact Run.ret (r := some (.int (0 : Int32))) ⟨d_S_isInSpace_30, _, rfl, rfl⟩ ⟨by rw [if_neg (by omega)], rfl⟩
    · rw [lN_add, show (16384 : Int64) = lN 16384 from rfl, pk_lLT (by decide) (by omega)] at c_2
      refine Run.blk (gs := [True]) (S' := ([some (.ref q)], [.int (1 : Int32)], cs)) k_S_isInSpace_25 kc_S_isInSpace_25 rfl ⟨trivial, trivial⟩ ?_
      refine Run.goto (tgt := 30) d_S_isInSpace_26 (by decide) ?_
      exact Run.ret (r := some (.int (1 : Int32))) ⟨d_S_isInSpace_30, _, rfl, rfl⟩ ⟨by rw [if_pos (by omega)], rfl⟩
set_option maxRecDepth 100000 in
set_option maxHeartbeats 4000000 in
theorem c_S_holds (hq : vm_g cs q = some (pSeg O Ad St Fi He Al fl)) (hO : O < 2 ^ 32) (hAd : Ad < 2 ^ 32) (hSt : St < 2 ^ 33) (hHe : He < 2 ^ 32) (hAl : Al < 2 ^ 32) {x : Int64}  : Ct m_S_holds 0 0 [.ref q, .long x] (cs) (vm_is (some (.int (if (St : Int) ≤ x.toInt ∧ x.toInt < (St : Int) + He then 1 else 0))) (cs)) := by
  refine Ct.of ⟨by decide +kernel, rfl⟩ (Nat.le_of_ble_eq_true rfl) (lv := [some (.ref q), some (.long x), none]) rfl ?_
  refine Run.blk (gs := [True, True]) (S' := ([some (.ref q), some (.long x), none], [.ref q, .long x], cs)) k_S_holds_0 kc_S_holds_0 rfl ⟨trivial, trivial, trivial⟩ ?_
  refine Run.blk (S' := ([some (.ref q), some (.long x), none], [.long (lN St), .long x], cs)) k_S_holds_2 kc_S_holds_2 (vm_x_gf (by decide) hq rfl) ⟨trivial, trivial⟩ ?_
  refine Run.brl (tgt := 27) dl_S_holds_5 d_S_holds_5 rfl (by decide) (fun c_1 => ?_) (fun c_1 => ?_)
  · rw [Int64.lt_iff_toInt_lt, pk_lT (by omega)] at c_1
    refine Run.blk (gs := [True]) (S' := ([some (.ref q), some (.long x), none], [.int (0 : Int32)], cs)) k_S_holds_27 kc_S_holds_27 rfl ⟨trivial, trivial⟩ ?_
    exact Run.ret (r := some (.int (0 : Int32))) ⟨d_S_holds_28, _, rfl, rfl⟩ ⟨by rw [if_neg (by omega)], rfl⟩
  · rw [Int64.lt_iff_toInt_lt, pk_lT (by omega)] at c_1
    refine Run.blk (gs := [True, True]) (S' := ([some (.ref q), some (.long x), none], [.ref q, .long x], cs)) k_S_holds_9 kc_S_holds_9 rfl ⟨trivial, trivial, trivial⟩ ?_
    refine Run.blk (S' := ([some (.ref q), some (.long x), none], [.long (lN St), .long x], cs)) k_S_holds_11 kc_S_holds_11 (vm_x_gf (by decide) hq rfl) ⟨trivial, trivial⟩ ?_
    refine Run.blk (gs := [True]) (S' := ([some (.ref q), some (.long x), none], [.ref q, .long (lN St), .long x], cs)) k_S_holds_14 kc_S_holds_14 rfl ⟨trivial, trivial⟩ ?_
    refine Run.blk (S' := ([some (.ref q), some (.long x), none], [.long (lN He), .long (lN St), .long x], cs)) k_S_holds_15 kc_S_holds_15 (vm_x_gf (by decide) hq rfl) ⟨trivial, trivial⟩ ?_
    refine Run.blk (gs := [True]) (S' := ([some (.ref q), some (.long x), none], [.long ((lN St) + (lN He)), .long x], cs)) k_S_holds_18 kc_S_holds_18 rfl ⟨trivial, trivial⟩ ?_
    refine Run.brl (tgt := 27) dl_S_holds_19 d_S_holds_19 rfl (by decide) (fun c_2 => ?_) (fun c_2 => ?_)
    · rw [lN_add, Int64.le_iff_toInt_le, pk_lT (by omega)] at c_2
      refine Run.blk (gs := [True]) (S' := ([some (.ref q), some (.long x), none], [.int (0 : Int32)], cs)) k_S_holds_27 kc_S_holds_27 rfl ⟨trivial, trivial⟩ ?_
      exact Run.ret (r := some (.int (0 : Int32))) ⟨d_S_holds_28, _, rfl, rfl⟩ ⟨by rw [if_neg (by omega)], rfl⟩
    · rw [lN_add, Int64.le_iff_toInt_le, pk_lT (by omega)] at c_2
      refine Run.blk (gs := [True]) (S' := ([some (.ref q), some (.long x), none], [.int (1 : Int32)], cs)) k_S_holds_23 kc_S_holds_23 rfl ⟨trivial, trivial⟩ ?_
      refine Run.goto (tgt := 28) d_S_holds_24 (by decide) ?_
      exact Run.ret (r := some (.int (1 : Int32))) ⟨d_S_holds_28, _, rfl, rfl⟩ ⟨by rw [if_pos (by omega)], rfl⟩
set_option maxRecDepth 100000 in
set_option maxHeartbeats 4000000 in
theorem c_S_firstPage (hq : vm_g cs q = some (pSeg O Ad St Fi He Al fl)) (hO : O < 2 ^ 32) (hAd : Ad < 2 ^ 32) (hSt : St < 2 ^ 33) (hHe : He < 2 ^ 32) (hAl : Al < 2 ^ 32) : Ct m_S_firstPage 0 0 [.ref q] (cs) (vm_is (some (.int (nI (pgA St He)))) (cs)) := by
  refine Ct.of ⟨by decide +kernel, rfl⟩ (Nat.le_of_ble_eq_true rfl) (lv := [some (.ref q)]) rfl ?_
  refine Run.blk (gs := [True]) (S' := ([some (.ref q)], [.ref q], cs)) k_S_firstPage_0 kc_S_firstPage_0 rfl ⟨trivial, trivial⟩ ?_
  refine Run.blk (S' := ([some (.ref q)], [.long (lN He)], cs)) k_S_firstPage_1 kc_S_firstPage_1 (vm_x_gf (by decide) hq rfl) ⟨trivial, trivial⟩ ?_
  refine Run.blk (gs := [True]) (S' := ([some (.ref q)], [.long (0 : Int64), .long (lN He)], cs)) k_S_firstPage_4 kc_S_firstPage_4 rfl ⟨trivial, trivial⟩ ?_
  refine Run.brl (tgt := 13) dl_S_firstPage_5 d_S_firstPage_5 rfl (by decide) (fun c_1 => ?_) (fun c_1 => ?_)
  · have c_1 : ¬ (He = 0) := fun w_ => c_1 ((pk_lEQ (a := He) (b := 0) (by omega) (by decide)).mpr w_)
    refine Run.blk (gs := [True]) (S' := ([some (.ref q)], [.ref q], cs)) k_S_firstPage_13 kc_S_firstPage_13 rfl ⟨trivial, trivial⟩ ?_
    refine Run.blk (S' := ([some (.ref q)], [.long (lN St)], cs)) k_S_firstPage_14 kc_S_firstPage_14 (vm_x_gf (by decide) hq rfl) ⟨trivial, trivial⟩ ?_
    refine Run.blk (gs := [True, ¬ (256 : Int64) = 0, True]) (S' := ([some (.ref q)], [.int (((lN St) / (256 : Int64)).toInt32)], cs)) k_S_firstPage_17 kc_S_firstPage_17 rfl ⟨trivial, (by decide), trivial, trivial⟩ ?_
    exact Run.ret (r := some (.int (((lN St) / (256 : Int64)).toInt32))) ⟨d_S_firstPage_22, _, rfl, rfl⟩ ⟨by rw [pgA, if_neg c_1, show lN St / (256 : Int64) = lN (St / 256) from pk_lDiv (b := 256) (by omega) (by decide) (by decide), lN_i], rfl⟩
  · have c_1 := Classical.not_not.mp c_1
    have c_1 := (pk_lEQ (a := He) (b := 0) (by omega) (by decide)).mp c_1
    refine Run.blk (gs := [True]) (S' := ([some (.ref q)], [.int (0 : Int32)], cs)) k_S_firstPage_9 kc_S_firstPage_9 rfl ⟨trivial, trivial⟩ ?_
    refine Run.goto (tgt := 22) d_S_firstPage_10 (by decide) ?_
    exact Run.ret (r := some (.int (0 : Int32))) ⟨d_S_firstPage_22, _, rfl, rfl⟩ ⟨by rw [pgA, if_pos c_1]; rfl, rfl⟩
def pgY (St He : Nat) : Int32 := if He = 0 then -1 else nI ((St + He - 1) / 256)
theorem pgY_t {St He : Nat} (h : St + He < 2 ^ 36) : (pgY St He).toInt = (pgC St He : Int) - 1 := by
  unfold pgY pgC
  by_cases h0 : He = 0
  · rw [if_pos h0, if_pos h0]; decide
  · rw [if_neg h0, if_neg h0, nI_toInt (by omega)]; omega
set_option maxRecDepth 100000 in
set_option maxHeartbeats 4000000 in
theorem c_S_lastPage (hq : vm_g cs q = some (pSeg O Ad St Fi He Al fl)) (hO : O < 2 ^ 32) (hAd : Ad < 2 ^ 32) (hSt : St < 2 ^ 33) (hHe : He < 2 ^ 32) (hAl : Al < 2 ^ 32) : Ct m_S_lastPage 0 0 [.ref q] (cs) (vm_is (some (.int (pgY St He))) (cs)) := by
  refine Ct.of ⟨by decide +kernel, rfl⟩ (Nat.le_of_ble_eq_true rfl) (lv := [some (.ref q)]) rfl ?_
  refine Run.blk (gs := [True]) (S' := ([some (.ref q)], [.ref q], cs)) k_S_lastPage_0 kc_S_lastPage_0 rfl ⟨trivial, trivial⟩ ?_
  refine Run.blk (S' := ([some (.ref q)], [.long (lN He)], cs)) k_S_lastPage_1 kc_S_lastPage_1 (vm_x_gf (by decide) hq rfl) ⟨trivial, trivial⟩ ?_
  refine Run.blk (gs := [True]) (S' := ([some (.ref q)], [.long (0 : Int64), .long (lN He)], cs)) k_S_lastPage_4 kc_S_lastPage_4 rfl ⟨trivial, trivial⟩ ?_
  refine Run.brl (tgt := 13) dl_S_lastPage_5 d_S_lastPage_5 rfl (by decide) (fun c_1 => ?_) (fun c_1 => ?_)
  · have c_1 : ¬ (He = 0) := fun w_ => c_1 ((pk_lEQ (a := He) (b := 0) (by omega) (by decide)).mpr w_)
    refine Run.blk (gs := [True]) (S' := ([some (.ref q)], [.ref q], cs)) k_S_lastPage_13 kc_S_lastPage_13 rfl ⟨trivial, trivial⟩ ?_
    refine Run.blk (S' := ([some (.ref q)], [.long (lN St)], cs)) k_S_lastPage_14 kc_S_lastPage_14 (vm_x_gf (by decide) hq rfl) ⟨trivial, trivial⟩ ?_
    refine Run.blk (gs := [True]) (S' := ([some (.ref q)], [.ref q, .long (lN St)], cs)) k_S_lastPage_17 kc_S_lastPage_17 rfl ⟨trivial, trivial⟩ ?_
    refine Run.blk (S' := ([some (.ref q)], [.long (lN He), .long (lN St)], cs)) k_S_lastPage_18 kc_S_lastPage_18 (vm_x_gf (by decide) hq rfl) ⟨trivial, trivial⟩ ?_
    refine Run.blk (gs := [True, True, True, True, ¬ (256 : Int64) = 0, True]) (S' := ([some (.ref q)], [.int (((((lN St) + (lN He)) - (1 : Int64)) / (256 : Int64)).toInt32)], cs)) k_S_lastPage_21 kc_S_lastPage_21 rfl ⟨trivial, trivial, trivial, trivial, (by decide), trivial, trivial⟩ ?_
    exact Run.ret (r := some (.int (((((lN St) + (lN He)) - (1 : Int64)) / (256 : Int64)).toInt32))) ⟨d_S_lastPage_29, _, rfl, rfl⟩ ⟨by rw [pgY, if_neg c_1, lN_add, l_m1 (by omega), show lN (St + He - 1) / (256 : Int64) = lN ((St + He - 1) / 256) from pk_lDiv (b := 256) (by omega) (by decide) (by decide), lN_i], rfl⟩
  · have c_1 := Classical.not_not.mp c_1
    have c_1 := (pk_lEQ (a := He) (b := 0) (by omega) (by decide)).mp c_1
    refine Run.blk (gs := [True]) (S' := ([some (.ref q)], [.int (-1 : Int32)], cs)) k_S_lastPage_9 kc_S_lastPage_9 rfl ⟨trivial, trivial⟩ ?_
    refine Run.goto (tgt := 29) d_S_lastPage_10 (by decide) ?_
    exact Run.ret (r := some (.int (-1 : Int32))) ⟨d_S_lastPage_29, _, rfl, rfl⟩ ⟨by rw [pgY, if_pos c_1], rfl⟩
theorem pg_n {St He : Nat} (h : St + He ≤ 2 ^ 20) : pgY St He - nI (pgA St He) + 1 = nI (pgC St He - pgA St He) := by
  unfold pgY pgA pgC
  by_cases h0 : He = 0
  · rw [if_pos h0, if_pos h0, if_pos h0]; decide
  · rw [if_neg h0, if_neg h0, if_neg h0, pk_sub (by omega), nI_1]
    congr 1; omega
set_option maxRecDepth 100000 in
set_option maxHeartbeats 4000000 in
theorem c_S_pages (hq : vm_g cs q = some (pSeg O Ad St Fi He Al fl)) (hO : O < 2 ^ 32) (hAd : Ad < 2 ^ 32) (hSt : St < 2 ^ 33) (hHe : He < 2 ^ 32) (hAl : Al < 2 ^ 32) (hsp : St + He ≤ 2 ^ 20) : Ct m_S_pages 0 0 [.ref q] (cs) (vm_is (some (.int (nI (pgC St He - pgA St He)))) (cs)) := by
  refine Ct.of ⟨by decide +kernel, rfl⟩ (Nat.le_of_ble_eq_true rfl) (lv := [some (.ref q)]) rfl ?_
  refine Run.blk (gs := [True]) (S' := ([some (.ref q)], [.ref q], cs)) k_S_pages_0 kc_S_pages_0 rfl ⟨trivial, trivial⟩ ?_
  refine Run.callV (b := q) (As := []) (rest := []) v_S_pages_1 (c_S_lastPage hq hO hAd hSt hHe hAl) rfl (Nat.le_of_ble_eq_true rfl) rfl hq rfl rfl (fun r cs' hp => ?_)
  obtain ⟨rfl, hcs⟩ := hp
  rw [hcs]
  show Run _ _ _ _ 4 ([some (.ref q)], [.int (pgY St He)], cs) _
  refine Run.blk (gs := [True]) (S' := ([some (.ref q)], [.ref q, .int (pgY St He)], cs)) k_S_pages_4 kc_S_pages_4 rfl ⟨trivial, trivial⟩ ?_
  refine Run.callV (b := q) (As := []) (rest := [.int (pgY St He)]) v_S_pages_5 (c_S_firstPage hq hO hAd hSt hHe hAl) rfl (Nat.le_of_ble_eq_true rfl) rfl hq rfl rfl (fun r cs' hp => ?_)
  obtain ⟨rfl, hcs⟩ := hp
  rw [hcs]
  show Run _ _ _ _ 8 ([some (.ref q)], [.int (nI (pgA St He)), .int (pgY St He)], cs) _
  refine Run.blk (gs := [True, True, True]) (S' := ([some (.ref q)], [.int (((pgY St He) - (nI (pgA St He))) + (1 : Int32))], cs)) k_S_pages_8 kc_S_pages_8 rfl ⟨trivial, trivial, trivial, trivial⟩ ?_
  exact Run.ret (r := some (.int (((pgY St He) - (nI (pgA St He))) + (1 : Int32)))) ⟨d_S_pages_11, _, rfl, rfl⟩ ⟨by rw [pg_n hsp], rfl⟩
end P28
