section P41
variable {fp le lp lb il : Int32} {tf bf rf : Nat → Int32} {tz fr mp sc ifp ib ie pw dh rc : Int32} {rl rb re sy sb : Int64} {sg : Nat → A_G} {ex : List va_E}
variable {cs : List va_E} {n : Nat} {t b : Nat → Nat} {z : Nat}
theorem t256 : (256 : Int32).toInt = 256 := by decide
theorem t16128 : (16128 : Int32).toInt = 16128 := by decide
theorem ldR_z {t : Nat → Nat} {z B : Nat} {rf : Nat → Int32} {b : Nat → Nat} {L : List SG} {w : Nat} {K : Nat → Nat} (h : (ldR t z B rf b L w K).1.1 = 0) : (ldR t z B rf b L w K).1 = (0, -1) := by
  unfold ldR at h ⊢
  by_cases c : (reL L B K (K 8 / 12) 0 (laB t L b)).1.1 = 0
  · rw [if_pos c]
  · rw [if_neg c] at h; exact absurd h c
theorem ldG_z {t : Nat → Nat} {z B : Nat} {rf : Nat → Int32} {fre : Nat} {b : Nat → Nat} (h : (ldG t z B rf fre b).1.1 = 0) : (ldG t z B rf fre b).1 = (0, -1) := by
  unfold ldG ldH at h ⊢
  by_cases c1 : (hsF t z B rf fre (hN t z 44) 0 [] 0 0).1.1 = 0
  · rw [if_pos c1] at h ⊢
    by_cases c2 : enB (wN t z 24 + B) (hsF t z B rf fre (hN t z 44) 0 [] 0 0).2.1 = true
    · rw [if_pos c2] at h ⊢
      by_cases c3 : (dyF (dyK t z (hsF t z B rf fre (hN t z 44) 0 [] 0 0).2.2.2) (hsF t z B rf fre (hN t z 44) 0 [] 0 0).2.2.2).1 = 0
      · rw [if_pos c3] at h ⊢; exact ldR_z h
      · rw [if_neg c3] at h; exact absurd h c3
    · rw [if_neg c2] at h; exact absurd (show (18 : Int32) = 0 from h) (by decide)
  · rw [if_neg c1] at h; exact absurd h c1
theorem ldF_z {t : Nat → Nat} {z B : Nat} {rf : Nat → Int32} {fre : Nat} {b : Nat → Nat} (h : (ldF t z B rf fre b).1.1 = 0) : (ldF t z B rf fre b).1 = (0, -1) := by
  unfold ldF at h ⊢
  by_cases c1 : (hdF t z).1 = 0
  · rw [if_pos c1] at h ⊢
    by_cases c2 : hN t z 16 = 2
    · rw [if_pos c2] at h ⊢; exact ldG_z h
    · rw [if_neg c2] at h ⊢; exact ldG_z h
  · rw [if_neg c1] at h; exact absurd h c1
set_option maxRecDepth 100000 in
set_option maxHeartbeats 4000000 in
theorem c_L_load_A {x : Int32} (hx : ¬ (0 ≤ x.toInt ∧ x.toInt ≤ 16128 ∧ x.toInt.tmod 256 = 0)) : Ct m_L_load 0 0 [.ref 0, .int x] (Ac fp le lp lb il tf tz bf rf fr mp sc ifp ib ie pw dh rl rb re sy sb rc sg ex) (vm_is (some (.int (-2 : Int32))) (Ac fp le lp lb il tf tz bf rf fr mp sc ifp ib ie pw dh rl rb re sy sb rc sg ex)) := by
  refine Ct.of ⟨by decide +kernel, rfl⟩ (Nat.le_of_ble_eq_true rfl) (lv := [some (.ref 0), some (.int x), none]) rfl ?_
  refine Run.blk (gs := [True]) (S' := ([some (.ref 0), some (.int x), none], [.int x], Ac fp le lp lb il tf tz bf rf fr mp sc ifp ib ie pw dh rl rb re sy sb rc sg ex)) k_L_load_0 kc_L_load_0 rfl ⟨trivial, trivial⟩ ?_
  refine Run.br (tgt := 19) d_L_load_1 rfl (by decide) (fun c_1 => ?_) (fun c_1 => ?_)
  · rw [Int32.lt_iff_toInt_lt, t0] at c_1
    refine Run.blk (gs := [True]) (S' := ([some (.ref 0), some (.int x), none], [.int (-2 : Int32)], Ac fp le lp lb il tf tz bf rf fr mp sc ifp ib ie pw dh rl rb re sy sb rc sg ex)) k_L_load_19 kc_L_load_19 rfl ⟨trivial, trivial⟩ ?_
    exact Run.ret (r := some (.int (-2 : Int32))) ⟨d_L_load_21, _, rfl, rfl⟩ ⟨rfl, rfl⟩
  · rw [Int32.lt_iff_toInt_lt, t0] at c_1
    refine Run.blk (gs := [True, True]) (S' := ([some (.ref 0), some (.int x), none], [.int (16128 : Int32), .int x], Ac fp le lp lb il tf tz bf rf fr mp sc ifp ib ie pw dh rl rb re sy sb rc sg ex)) k_L_load_4 kc_L_load_4 rfl ⟨trivial, trivial, trivial⟩ ?_
    refine Run.br (tgt := 19) d_L_load_8 rfl (by decide) (fun c_2 => ?_) (fun c_2 => ?_)
    · rw [Int32.lt_iff_toInt_lt, t16128] at c_2
      refine Run.blk (gs := [True]) (S' := ([some (.ref 0), some (.int x), none], [.int (-2 : Int32)], Ac fp le lp lb il tf tz bf rf fr mp sc ifp ib ie pw dh rl rb re sy sb rc sg ex)) k_L_load_19 kc_L_load_19 rfl ⟨trivial, trivial⟩ ?_
      exact Run.ret (r := some (.int (-2 : Int32))) ⟨d_L_load_21, _, rfl, rfl⟩ ⟨rfl, rfl⟩
    · rw [Int32.lt_iff_toInt_lt, t16128] at c_2
      refine Run.blk (gs := [True, True, ¬ (256 : Int32) = 0]) (S' := ([some (.ref 0), some (.int x), none], [.int (x - x / (256 : Int32) * (256 : Int32))], Ac fp le lp lb il tf tz bf rf fr mp sc ifp ib ie pw dh rl rb re sy sb rc sg ex)) k_L_load_11 kc_L_load_11 rfl ⟨trivial, trivial, (by decide), trivial⟩ ?_
      refine Run.br (tgt := 22) d_L_load_16 rfl (by decide) (fun c_3 => ?_) (fun c_3 => ?_)
      · rw [← Int32.toInt_inj, rem_toInt, t256, t0] at c_3
        exact absurd ⟨by omega, by omega, c_3⟩ hx
      · rw [← Int32.toInt_inj, rem_toInt, t256, t0] at c_3
        refine Run.blk (gs := [True]) (S' := ([some (.ref 0), some (.int x), none], [.int (-2 : Int32)], Ac fp le lp lb il tf tz bf rf fr mp sc ifp ib ie pw dh rl rb re sy sb rc sg ex)) k_L_load_19 kc_L_load_19 rfl ⟨trivial, trivial⟩ ?_
        exact Run.ret (r := some (.int (-2 : Int32))) ⟨d_L_load_21, _, rfl, rfl⟩ ⟨rfl, rfl⟩
set_option maxRecDepth 100000 in
set_option maxHeartbeats 4000000 in
theorem c_L_load_B (ht : ∀ k, t k < 256) (hz : z ≤ 900) (hb : ∀ j, b j < 256) {B f : Nat} (hB : B ≤ 16128) (hB2 : B % 256 = 0) (hf : f ≤ 64) (hm : cntM rf 0 64 ≤ f) {x : Int32} (hx : x = nI B) : Ct m_L_load 0 0 [.ref 0, .int x] (Ac fp le lp lb il (sbf t) (nI z) (sbf b) rf (nI f) (nI (cntM rf 0 64)) sc ifp ib ie pw dh rl rb re sy sb rc sg ex) (fun r cs' => ∃ (sc' ib' ie' pw' dh' rc' ifp' : Int32) (rl' rb' re' sy' sb' : Int64) (sg' : Nat → A_G), r = some (.int (if (ldF t z B rf (f - cntM rf 0 64) b).1.1 = 0 then (ldF t z B rf (f - cntM rf 0 64) b).2.2.2.2.2.2 else -10 - (ldF t z B rf (f - cntM rf 0 64) b).1.1)) ∧ cs' = Ac ((ldF t z B rf (f - cntM rf 0 64) b).1.2) (if (ldF t z B rf (f - cntM rf 0 64) b).1.1 = 0 then (ldF t z B rf (f - cntM rf 0 64) b).2.2.2.1 else le) (if (ldF t z B rf (f - cntM rf 0 64) b).1.1 = 0 then (ldF t z B rf (f - cntM rf 0 64) b).2.2.2.2.1 else lp) (if (ldF t z B rf (f - cntM rf 0 64) b).1.1 = 0 then (ldF t z B rf (f - cntM rf 0 64) b).2.2.2.2.2.1 else lb) (if (ldF t z B rf (f - cntM rf 0 64) b).1.1 = 0 then il + 1 else il) (sbf t) (nI z) (sbf (ldF t z B rf (f - cntM rf 0 64) b).2.1) ((ldF t z B rf (f - cntM rf 0 64) b).2.2.1) (nI f) (nI (cntM (ldF t z B rf (f - cntM rf 0 64) b).2.2.1 0 64)) (sc') (ifp') (ib') (ie') (pw') (dh') (rl') (rb') (re') (sy') (sb') (rc') (sg') ex) := by
  subst hx
  refine Ct.of ⟨by decide +kernel, rfl⟩ (Nat.le_of_ble_eq_true rfl) (lv := [some (.ref 0), some (.int (nI B)), none]) rfl ?_
  refine Run.blk (gs := [True]) (S' := ([some (.ref 0), some (.int (nI B)), none], [.int (nI B)], Ac fp le lp lb il (sbf t) (nI z) (sbf b) rf (nI f) (nI (cntM rf 0 64)) sc ifp ib ie pw dh rl rb re sy sb rc sg ex)) k_L_load_0 kc_L_load_0 rfl ⟨trivial, trivial⟩ ?_
  refine Run.br (tgt := 19) d_L_load_1 rfl (by decide) (fun c_1 => ?_) (fun c_1 => ?_)
  · have c_1 := (nI_ltI (a := B) (b := 0) (by omega) (by decide)).mp c_1
    exact absurd c_1 (by omega)
  · have c_1 : ¬ (B < 0) := fun w_ => c_1 ((nI_ltI (a := B) (b := 0) (by omega) (by decide)).mpr w_)
    refine Run.blk (gs := [True, True]) (S' := ([some (.ref 0), some (.int (nI B)), none], [.int (16128 : Int32), .int (nI B)], Ac fp le lp lb il (sbf t) (nI z) (sbf b) rf (nI f) (nI (cntM rf 0 64)) sc ifp ib ie pw dh rl rb re sy sb rc sg ex)) k_L_load_4 kc_L_load_4 rfl ⟨trivial, trivial, trivial⟩ ?_
    refine Run.br (tgt := 19) d_L_load_8 rfl (by decide) (fun c_2 => ?_) (fun c_2 => ?_)
    · have c_2 := (nI_ltI (a := 16128) (b := B) (by decide) (by omega)).mp c_2
      exact absurd c_2 (by omega)
    · have c_2 : ¬ (16128 < B) := fun w_ => c_2 ((nI_ltI (a := 16128) (b := B) (by decide) (by omega)).mpr w_)
      refine Run.blk (gs := [True, True, ¬ (256 : Int32) = 0]) (S' := ([some (.ref 0), some (.int (nI B)), none], [.int ((nI B) - (nI B) / (256 : Int32) * (256 : Int32))], Ac fp le lp lb il (sbf t) (nI z) (sbf b) rf (nI f) (nI (cntM rf 0 64)) sc ifp ib ie pw dh rl rb re sy sb rc sg ex)) k_L_load_11 kc_L_load_11 rfl ⟨trivial, trivial, (by decide), trivial⟩ ?_
      refine Run.br (tgt := 22) d_L_load_16 rfl (by decide) (fun c_3 => ?_) (fun c_3 => ?_)
      · rw [show (256 : Int32) = nI 256 from rfl, pk_rem (by omega) (by decide) (by decide), show (0 : Int32) = nI 0 from rfl, nI_eq (by omega) (by decide)] at c_3
        refine Run.blk (gs := [True, True, True, True, True, True, True]) (S' := ([some (.ref 0), some (.int (nI B)), none], [.int (nI B), .ref 3, .ref 1, .ref 6], Ac fp le lp lb il (sbf t) (nI z) (sbf b) rf (nI f) (nI (cntM rf 0 64)) sc ifp ib ie pw dh rl rb re sy sb rc sg ex)) k_L_load_22 kc_L_load_22 rfl ⟨trivial, trivial, trivial, trivial, trivial, trivial, trivial, trivial⟩ ?_
        refine Run.callV (b := 6) (As := [.ref 1, .ref 3, .int (nI B)]) (rest := []) v_L_load_35 (c_I_bring ht hz hb (B := B) (by omega) hf hm rfl) rfl (Nat.le_of_ble_eq_true rfl) rfl rfl rfl rfl (fun r cs' hp => ?_)
        obtain ⟨sc1, ib1, ie1, pw1, dh1, rc1, rl1, rb1, re1, sy1, sb1, sg1, rfl, rfl, hs9⟩ := hp
        show Run _ _ _ _ 38 ([some (.ref 0), some (.int (nI B)), none], [.int ((ldF t z B rf (f - cntM rf 0 64) b).1.1)], Ac fp le lp lb il (sbf t) (nI z) (sbf (ldF t z B rf (f - cntM rf 0 64) b).2.1) ((ldF t z B rf (f - cntM rf 0 64) b).2.2.1) (nI f) (nI (cntM (ldF t z B rf (f - cntM rf 0 64) b).2.2.1 0 64)) sc1 ((ldF t z B rf (f - cntM rf 0 64) b).1.2) ib1 ie1 pw1 dh1 rl1 rb1 re1 sy1 sb1 rc1 sg1 ex) _
        refine Run.blk (gs := [True, True]) (S' := ([some (.ref 0), some (.int (nI B)), some (.int ((ldF t z B rf (f - cntM rf 0 64) b).1.1))], [.int ((ldF t z B rf (f - cntM rf 0 64) b).1.1)], Ac fp le lp lb il (sbf t) (nI z) (sbf (ldF t z B rf (f - cntM rf 0 64) b).2.1) ((ldF t z B rf (f - cntM rf 0 64) b).2.2.1) (nI f) (nI (cntM (ldF t z B rf (f - cntM rf 0 64) b).2.2.1 0 64)) sc1 ((ldF t z B rf (f - cntM rf 0 64) b).1.2) ib1 ie1 pw1 dh1 rl1 rb1 re1 sy1 sb1 rc1 sg1 ex)) k_L_load_38 kc_L_load_38 rfl ⟨trivial, trivial, trivial⟩ ?_
        refine Run.br (tgt := 59) d_L_load_40 rfl (by decide) (fun c_4 => ?_) (fun c_4 => ?_)
        · refine Run.blk (gs := [True, True, True, True, True, True]) (S' := ([some (.ref 0), some (.int (nI B)), some (.int ((ldF t z B rf (f - cntM rf 0 64) b).1.1))], [.ref 6, .ref 0], Ac (-1 : Int32) le lp lb il (sbf t) (nI z) (sbf (ldF t z B rf (f - cntM rf 0 64) b).2.1) ((ldF t z B rf (f - cntM rf 0 64) b).2.2.1) (nI f) (nI (cntM (ldF t z B rf (f - cntM rf 0 64) b).2.2.1 0 64)) sc1 ((ldF t z B rf (f - cntM rf 0 64) b).1.2) ib1 ie1 pw1 dh1 rl1 rb1 re1 sy1 sb1 rc1 sg1 ex)) k_L_load_59 kc_L_load_59 rfl ⟨trivial, trivial, trivial, trivial, trivial, trivial, trivial⟩ ?_
          refine Run.callV (b := 6) (As := []) (rest := [.ref 0]) v_L_load_69 c_I_entry rfl (Nat.le_of_ble_eq_true rfl) rfl rfl rfl rfl (fun r cs' hp => ?_)
          obtain ⟨rfl, rfl⟩ := hp
          show Run _ _ _ _ 72 ([some (.ref 0), some (.int (nI B)), some (.int ((ldF t z B rf (f - cntM rf 0 64) b).1.1))], [.int ie1, .ref 0], Ac (-1 : Int32) le lp lb il (sbf t) (nI z) (sbf (ldF t z B rf (f - cntM rf 0 64) b).2.1) ((ldF t z B rf (f - cntM rf 0 64) b).2.2.1) (nI f) (nI (cntM (ldF t z B rf (f - cntM rf 0 64) b).2.2.1 0 64)) sc1 ((ldF t z B rf (f - cntM rf 0 64) b).1.2) ib1 ie1 pw1 dh1 rl1 rb1 re1 sy1 sb1 rc1 sg1 ex) _
          refine Run.blk (gs := [True, True, True, True]) (S' := ([some (.ref 0), some (.int (nI B)), some (.int ((ldF t z B rf (f - cntM rf 0 64) b).1.1))], [.ref 6, .ref 0], Ac (-1 : Int32) ie1 lp lb il (sbf t) (nI z) (sbf (ldF t z B rf (f - cntM rf 0 64) b).2.1) ((ldF t z B rf (f - cntM rf 0 64) b).2.2.1) (nI f) (nI (cntM (ldF t z B rf (f - cntM rf 0 64) b).2.2.1 0 64)) sc1 ((ldF t z B rf (f - cntM rf 0 64) b).1.2) ib1 ie1 pw1 dh1 rl1 rb1 re1 sy1 sb1 rc1 sg1 ex)) k_L_load_72 kc_L_load_72 rfl ⟨trivial, trivial, trivial, trivial, trivial⟩ ?_
          refine Run.callV (b := 6) (As := []) (rest := [.ref 0]) v_L_load_80 c_I_pagesWanted rfl (Nat.le_of_ble_eq_true rfl) rfl rfl rfl rfl (fun r cs' hp => ?_)
          obtain ⟨rfl, rfl⟩ := hp
          show Run _ _ _ _ 83 ([some (.ref 0), some (.int (nI B)), some (.int ((ldF t z B rf (f - cntM rf 0 64) b).1.1))], [.int pw1, .ref 0], Ac (-1 : Int32) ie1 lp lb il (sbf t) (nI z) (sbf (ldF t z B rf (f - cntM rf 0 64) b).2.1) ((ldF t z B rf (f - cntM rf 0 64) b).2.2.1) (nI f) (nI (cntM (ldF t z B rf (f - cntM rf 0 64) b).2.2.1 0 64)) sc1 ((ldF t z B rf (f - cntM rf 0 64) b).1.2) ib1 ie1 pw1 dh1 rl1 rb1 re1 sy1 sb1 rc1 sg1 ex) _
          refine Run.blk (gs := [True, True, True, True]) (S' := ([some (.ref 0), some (.int (nI B)), some (.int ((ldF t z B rf (f - cntM rf 0 64) b).1.1))], [.ref 6, .ref 0], Ac (-1 : Int32) ie1 pw1 lb il (sbf t) (nI z) (sbf (ldF t z B rf (f - cntM rf 0 64) b).2.1) ((ldF t z B rf (f - cntM rf 0 64) b).2.2.1) (nI f) (nI (cntM (ldF t z B rf (f - cntM rf 0 64) b).2.2.1 0 64)) sc1 ((ldF t z B rf (f - cntM rf 0 64) b).1.2) ib1 ie1 pw1 dh1 rl1 rb1 re1 sy1 sb1 rc1 sg1 ex)) k_L_load_83 kc_L_load_83 rfl ⟨trivial, trivial, trivial, trivial, trivial⟩ ?_
          refine Run.callV (b := 6) (As := []) (rest := [.ref 0]) v_L_load_91 c_I_base rfl (Nat.le_of_ble_eq_true rfl) rfl rfl rfl rfl (fun r cs' hp => ?_)
          obtain ⟨rfl, rfl⟩ := hp
          show Run _ _ _ _ 94 ([some (.ref 0), some (.int (nI B)), some (.int ((ldF t z B rf (f - cntM rf 0 64) b).1.1))], [.int ib1, .ref 0], Ac (-1 : Int32) ie1 pw1 lb il (sbf t) (nI z) (sbf (ldF t z B rf (f - cntM rf 0 64) b).2.1) ((ldF t z B rf (f - cntM rf 0 64) b).2.2.1) (nI f) (nI (cntM (ldF t z B rf (f - cntM rf 0 64) b).2.2.1 0 64)) sc1 ((ldF t z B rf (f - cntM rf 0 64) b).1.2) ib1 ie1 pw1 dh1 rl1 rb1 re1 sy1 sb1 rc1 sg1 ex) _
          refine Run.blk (gs := [True, True, True, True, True, True, True, True, True]) (S' := ([some (.ref 0), some (.int (nI B)), some (.int ((ldF t z B rf (f - cntM rf 0 64) b).1.1))], [.ref 6], Ac (-1 : Int32) ie1 pw1 ib1 (il + (1 : Int32)) (sbf t) (nI z) (sbf (ldF t z B rf (f - cntM rf 0 64) b).2.1) ((ldF t z B rf (f - cntM rf 0 64) b).2.2.1) (nI f) (nI (cntM (ldF t z B rf (f - cntM rf 0 64) b).2.2.1 0 64)) sc1 ((ldF t z B rf (f - cntM rf 0 64) b).1.2) ib1 ie1 pw1 dh1 rl1 rb1 re1 sy1 sb1 rc1 sg1 ex)) k_L_load_94 kc_L_load_94 rfl ⟨trivial, trivial, trivial, trivial, trivial, trivial, trivial, trivial, trivial, trivial⟩ ?_
          refine Run.callV (b := 6) (As := []) (rest := []) v_L_load_111 c_I_relocationCount rfl (Nat.le_of_ble_eq_true rfl) rfl rfl rfl rfl (fun r cs' hp => ?_)
          obtain ⟨rfl, rfl⟩ := hp
          show Run _ _ _ _ 114 ([some (.ref 0), some (.int (nI B)), some (.int ((ldF t z B rf (f - cntM rf 0 64) b).1.1))], [.int rc1], Ac (-1 : Int32) ie1 pw1 ib1 (il + (1 : Int32)) (sbf t) (nI z) (sbf (ldF t z B rf (f - cntM rf 0 64) b).2.1) ((ldF t z B rf (f - cntM rf 0 64) b).2.2.1) (nI f) (nI (cntM (ldF t z B rf (f - cntM rf 0 64) b).2.2.1 0 64)) sc1 ((ldF t z B rf (f - cntM rf 0 64) b).1.2) ib1 ie1 pw1 dh1 rl1 rb1 re1 sy1 sb1 rc1 sg1 ex) _
          obtain ⟨e1, e2, e3, e4⟩ := hs9 c_4
          have e5 := ldF_z c_4
          exact Run.ret (r := some (.int rc1)) ⟨d_L_load_114, _, rfl, rfl⟩ ⟨_, _, _, _, _, _, _, _, _, _, _, _, _, by rw [if_pos c_4, e4], by rw [if_pos c_4, if_pos c_4, if_pos c_4, if_pos c_4, show (ldF t z B rf (f - cntM rf 0 64) b).1.2 = -1 by rw [e5], e1, e2, e3]⟩
        · refine Run.blk (gs := [True, True, True]) (S' := ([some (.ref 0), some (.int (nI B)), some (.int ((ldF t z B rf (f - cntM rf 0 64) b).1.1))], [.ref 6, .ref 0], Ac fp le lp lb il (sbf t) (nI z) (sbf (ldF t z B rf (f - cntM rf 0 64) b).2.1) ((ldF t z B rf (f - cntM rf 0 64) b).2.2.1) (nI f) (nI (cntM (ldF t z B rf (f - cntM rf 0 64) b).2.2.1 0 64)) sc1 ((ldF t z B rf (f - cntM rf 0 64) b).1.2) ib1 ie1 pw1 dh1 rl1 rb1 re1 sy1 sb1 rc1 sg1 ex)) k_L_load_43 kc_L_load_43 rfl ⟨trivial, trivial, trivial, trivial⟩ ?_
          refine Run.callV (b := 6) (As := []) (rest := [.ref 0]) v_L_load_48 c_I_faultPlace rfl (Nat.le_of_ble_eq_true rfl) rfl rfl rfl rfl (fun r cs' hp => ?_)
          obtain ⟨rfl, rfl⟩ := hp
          show Run _ _ _ _ 51 ([some (.ref 0), some (.int (nI B)), some (.int ((ldF t z B rf (f - cntM rf 0 64) b).1.1))], [.int ((ldF t z B rf (f - cntM rf 0 64) b).1.2), .ref 0], Ac fp le lp lb il (sbf t) (nI z) (sbf (ldF t z B rf (f - cntM rf 0 64) b).2.1) ((ldF t z B rf (f - cntM rf 0 64) b).2.2.1) (nI f) (nI (cntM (ldF t z B rf (f - cntM rf 0 64) b).2.2.1 0 64)) sc1 ((ldF t z B rf (f - cntM rf 0 64) b).1.2) ib1 ie1 pw1 dh1 rl1 rb1 re1 sy1 sb1 rc1 sg1 ex) _
          refine Run.blk (gs := [True, True, True, True]) (S' := ([some (.ref 0), some (.int (nI B)), some (.int ((ldF t z B rf (f - cntM rf 0 64) b).1.1))], [.int ((-10 : Int32) - ((ldF t z B rf (f - cntM rf 0 64) b).1.1))], Ac ((ldF t z B rf (f - cntM rf 0 64) b).1.2) le lp lb il (sbf t) (nI z) (sbf (ldF t z B rf (f - cntM rf 0 64) b).2.1) ((ldF t z B rf (f - cntM rf 0 64) b).2.2.1) (nI f) (nI (cntM (ldF t z B rf (f - cntM rf 0 64) b).2.2.1 0 64)) sc1 ((ldF t z B rf (f - cntM rf 0 64) b).1.2) ib1 ie1 pw1 dh1 rl1 rb1 re1 sy1 sb1 rc1 sg1 ex)) k_L_load_51 kc_L_load_51 rfl ⟨trivial, trivial, trivial, trivial, trivial⟩ ?_
          exact Run.ret (r := some (.int ((-10 : Int32) - ((ldF t z B rf (f - cntM rf 0 64) b).1.1)))) ⟨d_L_load_58, _, rfl, rfl⟩ ⟨_, _, _, _, _, _, _, _, _, _, _, _, _, by rw [if_neg c_4], by rw [if_neg c_4, if_neg c_4, if_neg c_4, if_neg c_4]⟩
      · rw [show (256 : Int32) = nI 256 from rfl, pk_rem (by omega) (by decide) (by decide), show (0 : Int32) = nI 0 from rfl, nI_eq (by omega) (by decide)] at c_3
        exact absurd hB2 c_3
end P41
