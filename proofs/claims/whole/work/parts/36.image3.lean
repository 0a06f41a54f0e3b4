section P36
variable {fp le lp lb il : Int32} {tf bf rf : Nat → Int32} {tz fr mp sc ifp ib ie pw dh rc : Int32} {rl rb re sy sb : Int64} {sg : Nat → A_G} {ex : List va_E}
variable {cs : List va_E} {n : Nat} {t b : Nat → Nat} {z : Nat} {L : List SG} {O Ad St Fi He Al : Nat} {fl : Int32} {q : Nat} {K : Nat → Nat}
theorem c_S_holdsN (hq : vm_g cs q = some (pSeg O Ad St Fi He Al fl)) (hO : O < 2 ^ 32) (hAd : Ad < 2 ^ 32) (hSt : St < 2 ^ 33) (hHe : He < 2 ^ 32) (hAl : Al < 2 ^ 32) {e : Nat} {x : Int64} (hx : x = lN e) (he : e < 2 ^ 63) : Ct m_S_holds 0 0 [.ref q, .long x] cs (vm_is (some (.int (if St ≤ e ∧ e < St + He then 1 else 0))) cs) := by
  subst hx
  have h := c_S_holds (x := lN e) hq hO hAd hSt hHe hAl
  rw [pk_lT he] at h
  have e1 : (if (St : Int) ≤ (e : Int) ∧ (e : Int) < (St : Int) + (He : Int) then (1 : Int32) else 0) = if St ≤ e ∧ e < St + He then 1 else 0 := ite_congr (propext ⟨fun w => by omega, fun w => by omega⟩) (fun _ => rfl) (fun _ => rfl)
  rw [e1] at h
  exact h
theorem nI_m {a : Nat} (x : Int32) (hx : x = nI a) (ha : a < 2 ^ 32) : x.toInt = if a < 2 ^ 31 then (a : Int) else (a : Int) - 4294967296 := by
  by_cases h : a < 2 ^ 31
  · rw [if_pos h, hx, nI_toInt h]
  · rw [if_neg h, hx]
    show (BitVec.ofNat 32 a).toInt = _
    rw [BitVec.toInt_eq_msb_cond]
    have h1 : (BitVec.ofNat 32 a).toNat = a := by rw [BitVec.toNat_ofNat]; omega
    have h2 : (BitVec.ofNat 32 a).msb = true := by rw [BitVec.msb_eq_decide]; simp; omega
    rw [h2, h1]; simp
theorem nI_mod (a : Nat) : nI a = nI (a % 4294967296) := by
  apply Int32.toBitVec_inj.mp
  show BitVec.ofNat 32 a = BitVec.ofNat 32 (a % 4294967296)
  apply BitVec.eq_of_toNat_eq
  rw [BitVec.toNat_ofNat, BitVec.toNat_ofNat]; omega
theorem c_S_holdsI (hq : vm_g cs q = some (pSeg O Ad St Fi He Al fl)) (hO : O < 2 ^ 32) (hAd : Ad < 2 ^ 32) (hSt : St < 2 ^ 33) (hHe : He < 2 ^ 32) (hAl : Al < 2 ^ 32) (hsp : He = 0 ∨ St + He ≤ 16384) {a : Nat} {x : Int32} (hx : x = nI a) : Ct m_S_holds 0 0 [.ref q, .long x.toInt64] cs (vm_is (some (.int (if St ≤ a % 4294967296 ∧ a % 4294967296 < St + He then 1 else 0))) cs) := by
  have h := c_S_holds (x := x.toInt64) hq hO hAd hSt hHe hAl
  rw [i32_64, nI_m x (hx.trans (nI_mod a)) (Nat.mod_lt _ (by decide))] at h
  have e1 : (if (St : Int) ≤ (if a % 4294967296 < 2 ^ 31 then ((a % 4294967296 : Nat) : Int) else ((a % 4294967296 : Nat) : Int) - 4294967296) ∧ (if a % 4294967296 < 2 ^ 31 then ((a % 4294967296 : Nat) : Int) else ((a % 4294967296 : Nat) : Int) - 4294967296) < (St : Int) + (He : Int) then (1 : Int32) else 0) = if St ≤ a % 4294967296 ∧ a % 4294967296 < St + He then 1 else 0 := by
    refine ite_congr (propext ?_) (fun _ => rfl) (fun _ => rfl)
    have hl := Nat.mod_lt a (show 4294967296 > 0 by decide)
    by_cases h3 : a % 4294967296 < 2 ^ 31
    · rw [if_pos h3]; omega
    · rw [if_neg h3]; omega
  rw [e1] at h
  exact h
set_option maxRecDepth 100000 in
set_option maxHeartbeats 4000000 in
theorem l_I_entryFault {e B : Nat} (he : e < 2 ^ 40) (hS : hSg L sg) (hG : ∀ g, g ∈ L → Gd z rf g) (hL : L.length ≤ 8) : ∀ (R : List SG) (i : Nat) (v : Int32) (q5 : Option Value), v = nI i → L.drop i = R → i ≤ 8 → Run m_I_entryFault n 0 0 16 ([some (.ref 6), some (.ref 1), some (.long (lN e)), none, some (.int v), q5], [], Ac fp le lp lb il (sbf t) (nI z) bf rf fr mp (nI L.length) (-1 : Int32) (nI B) ie pw dh rl rb re sy sb rc sg ex) (vm_is (some (.int (if enB e R = true then 0 else 18))) (Ac fp le lp lb il (sbf t) (nI z) bf rf fr mp (nI L.length) (if enB e R = true then -1 else 24) (nI B) (if enB e R = true then nI e else ie) pw dh rl rb re sy sb rc sg ex))
  | [], i, v, q5, hv, hd, hi9 => by
    refine Run.blk (gs := [True, True, True]) (S' := ([some (.ref 6), some (.ref 1), some (.long (lN e)), none, some (.int v), q5], [.int (nI L.length), .int v], Ac fp le lp lb il (sbf t) (nI z) bf rf fr mp (nI L.length) (-1 : Int32) (nI B) ie pw dh rl rb re sy sb rc sg ex)) k_I_entryFault_16 kc_I_entryFault_16 rfl ⟨trivial, trivial, trivial, trivial⟩ ?_
    refine Run.br (tgt := 77) d_I_entryFault_22 rfl (by decide) (fun c_1 => ?_) (fun c_1 => ?_)
    · refine Run.blk (gs := [True, True, True]) (S' := ([some (.ref 6), some (.ref 1), some (.long (lN e)), none, some (.int v), q5], [.int (24 : Int32), .int (18 : Int32), .ref 6], Ac fp le lp lb il (sbf t) (nI z) bf rf fr mp (nI L.length) (-1 : Int32) (nI B) ie pw dh rl rb re sy sb rc sg ex)) k_I_entryFault_77 kc_I_entryFault_77 rfl ⟨trivial, trivial, trivial, trivial⟩ ?_
      refine Run.callV (b := 6) (As := [.int (18 : Int32), .int (24 : Int32)]) (rest := []) v_I_entryFault_82 c_I_fault rfl (Nat.le_of_ble_eq_true rfl) rfl rfl rfl rfl (fun r cs' hp => ?_)
      obtain ⟨rfl, rfl⟩ := hp
      show Run _ _ _ _ 85 ([some (.ref 6), some (.ref 1), some (.long (lN e)), none, some (.int v), q5], [.int (18 : Int32)], Ac fp le lp lb il (sbf t) (nI z) bf rf fr mp (nI L.length) (24 : Int32) (nI B) ie pw dh rl rb re sy sb rc sg ex) _
      exact Run.ret (r := some (.int (18 : Int32))) ⟨d_I_entryFault_85, _, rfl, rfl⟩ ⟨rfl, rfl⟩
    · exact absurd (by rw [hv]; exact (nI_leI (a := L.length) (b := i) (by omega) (by omega)).mpr (drop_n hd)) c_1
  | (O, Ad, St, Fi, He, Al, fl) :: R, i, v, q5, hv, hd, hi9 => by
    obtain ⟨hg, hd2, hi⟩ := drop_c hd
    obtain ⟨hO, hAd, hSt, hHe, hAl⟩ := (hG _ (List.mem_of_getElem? hg)).1
    refine Run.blk (gs := [True, True, True]) (S' := ([some (.ref 6), some (.ref 1), some (.long (lN e)), none, some (.int v), q5], [.int (nI L.length), .int v], Ac fp le lp lb il (sbf t) (nI z) bf rf fr mp (nI L.length) (-1 : Int32) (nI B) ie pw dh rl rb re sy sb rc sg ex)) k_I_entryFault_16 kc_I_entryFault_16 rfl ⟨trivial, trivial, trivial, trivial⟩ ?_
    refine Run.br (tgt := 77) d_I_entryFault_22 rfl (by decide) (fun c_1 => ?_) (fun c_1 => ?_)
    · exact absurd ((nI_leI (a := L.length) (b := i) (by omega) (by omega)).mp (by rw [← hv]; exact c_1)) (by omega)
    · refine Run.blk (gs := [True, True, True, True]) (S' := ([some (.ref 6), some (.ref 1), some (.long (lN e)), none, some (.int v), q5], [.int (nI 8), .int v], Ac fp le lp lb il (sbf t) (nI z) bf rf fr mp (nI L.length) (-1 : Int32) (nI B) ie pw dh rl rb re sy sb rc sg ex)) k_I_entryFault_25 kc_I_entryFault_25 rfl ⟨trivial, trivial, trivial, trivial, trivial⟩ ?_
      refine Run.br (tgt := 77) d_I_entryFault_32 rfl (by decide) (fun c_2 => ?_) (fun c_2 => ?_)
      · exact absurd ((nI_leI (a := 8) (b := i) (by omega) (by omega)).mp (by rw [← hv]; exact c_2)) (by omega)
      · refine Run.blk (gs := [True, True, True]) (S' := ([some (.ref 6), some (.ref 1), some (.long (lN e)), none, some (.int v), q5], [.int v, .ref 7], Ac fp le lp lb il (sbf t) (nI z) bf rf fr mp (nI L.length) (-1 : Int32) (nI B) ie pw dh rl rb re sy sb rc sg ex)) k_I_entryFault_35 kc_I_entryFault_35 rfl ⟨trivial, trivial, trivial, trivial⟩ ?_
        refine Run.aald (q := 8 + i) d_I_entryFault_41 rfl rfl (vp_j hv (by omega)) (sgf_at hv (by omega)) ?_
        refine Run.blk (gs := [True, True, True]) (S' := ([some (.ref 6), some (.ref 1), some (.long (lN e)), none, some (.int v), some (.ref (8 + i))], [.long (lN e), .ref (8 + i)], Ac fp le lp lb il (sbf t) (nI z) bf rf fr mp (nI L.length) (-1 : Int32) (nI B) ie pw dh rl rb re sy sb rc sg ex)) k_I_entryFault_42 kc_I_entryFault_42 rfl ⟨trivial, trivial, trivial, trivial⟩ ?_
        refine Run.callV (b := (8 + i)) (As := [.long (lN e)]) (rest := []) v_I_entryFault_47 (c_S_holdsN (Ac_segG (show i < 8 by omega) (hS _ _ hg)) hO hAd hSt hHe hAl rfl (by omega)) rfl (Nat.le_of_ble_eq_true rfl) rfl (Ac_segG (show i < 8 by omega) (hS _ _ hg)) rfl rfl (fun r cs' hp => ?_)
        obtain ⟨rfl, rfl⟩ := hp
        show Run _ _ _ _ 50 ([some (.ref 6), some (.ref 1), some (.long (lN e)), none, some (.int v), some (.ref (8 + i))], [.int (if St ≤ e ∧ e < St + He then 1 else 0)], Ac fp le lp lb il (sbf t) (nI z) bf rf fr mp (nI L.length) (-1 : Int32) (nI B) ie pw dh rl rb re sy sb rc sg ex) _
        refine Run.br (tgt := 71) d_I_entryFault_50 rfl (by decide) (fun c_3 => ?_) (fun c_3 => ?_)
        · have c_3 := zi_f c_3
          refine Run.blk (gs := [True]) (S' := ([some (.ref 6), some (.ref 1), some (.long (lN e)), none, some (.int (v + (1 : Int32))), some (.ref (8 + i))], [], Ac fp le lp lb il (sbf t) (nI z) bf rf fr mp (nI L.length) (-1 : Int32) (nI B) ie pw dh rl rb re sy sb rc sg ex)) k_I_entryFault_71 kc_I_entryFault_71 rfl ⟨trivial, trivial⟩ ?_
          refine Run.goto (tgt := 16) d_I_entryFault_74 (by decide) ?_
          rw [show enB e ((O, Ad, St, Fi, He, Al, fl) :: R) = enB e R by rw [enB, if_neg (fun w => c_3 w.1)]]
          exact l_I_entryFault he hS hG hL R (i + 1) _ _ (by rw [hv, nI_1]) hd2 (by omega)
        · have c_3 := zi_t c_3
          refine Run.blk (gs := [True]) (S' := ([some (.ref 6), some (.ref 1), some (.long (lN e)), none, some (.int v), some (.ref (8 + i))], [.ref (8 + i)], Ac fp le lp lb il (sbf t) (nI z) bf rf fr mp (nI L.length) (-1 : Int32) (nI B) ie pw dh rl rb re sy sb rc sg ex)) k_I_entryFault_53 kc_I_entryFault_53 rfl ⟨trivial, trivial⟩ ?_
          refine Run.blk (S' := ([some (.ref 6), some (.ref 1), some (.long (lN e)), none, some (.int v), some (.ref (8 + i))], [.int fl], Ac fp le lp lb il (sbf t) (nI z) bf rf fr mp (nI L.length) (-1 : Int32) (nI B) ie pw dh rl rb re sy sb rc sg ex)) k_I_entryFault_55 kc_I_entryFault_55 (vm_x_gf (by decide) (Ac_segG (show i < 8 by omega) (hS _ _ hg)) rfl) ⟨trivial, trivial⟩ ?_
          refine Run.blk (gs := [True, True]) (S' := ([some (.ref 6), some (.ref 1), some (.long (lN e)), none, some (.int v), some (.ref (8 + i))], [.int (fl &&& (1 : Int32))], Ac fp le lp lb il (sbf t) (nI z) bf rf fr mp (nI L.length) (-1 : Int32) (nI B) ie pw dh rl rb re sy sb rc sg ex)) k_I_entryFault_58 kc_I_entryFault_58 rfl ⟨trivial, trivial, trivial⟩ ?_
          refine Run.br (tgt := 71) d_I_entryFault_60 rfl (by decide) (fun c_4 => ?_) (fun c_4 => ?_)
          · refine Run.blk (gs := [True]) (S' := ([some (.ref 6), some (.ref 1), some (.long (lN e)), none, some (.int (v + (1 : Int32))), some (.ref (8 + i))], [], Ac fp le lp lb il (sbf t) (nI z) bf rf fr mp (nI L.length) (-1 : Int32) (nI B) ie pw dh rl rb re sy sb rc sg ex)) k_I_entryFault_71 kc_I_entryFault_71 rfl ⟨trivial, trivial⟩ ?_
            refine Run.goto (tgt := 16) d_I_entryFault_74 (by decide) ?_
            rw [show enB e ((O, Ad, St, Fi, He, Al, fl) :: R) = enB e R by rw [enB, if_neg (fun w => w.2 c_4)]]
            exact l_I_entryFault he hS hG hL R (i + 1) _ _ (by rw [hv, nI_1]) hd2 (by omega)
          · refine Run.blk (gs := [True, True, True, True, True]) (S' := ([some (.ref 6), some (.ref 1), some (.long (lN e)), none, some (.int v), some (.ref (8 + i))], [.int (0 : Int32)], Ac fp le lp lb il (sbf t) (nI z) bf rf fr mp (nI L.length) (-1 : Int32) (nI B) ((lN e).toInt32) pw dh rl rb re sy sb rc sg ex)) k_I_entryFault_63 kc_I_entryFault_63 rfl ⟨trivial, trivial, trivial, trivial, trivial, trivial⟩ ?_
            rw [show enB e ((O, Ad, St, Fi, He, Al, fl) :: R) = true by rw [enB, if_pos ⟨c_3, c_4⟩]]
            exact Run.ret (r := some (.int (0 : Int32))) ⟨d_I_entryFault_70, _, rfl, rfl⟩ ⟨rfl, by rw [lN_i]; rfl⟩
set_option maxRecDepth 100000 in
set_option maxHeartbeats 4000000 in
theorem c_I_entryFault (ht : ∀ k, t k < 256) (hz : z ≤ 900) {e B : Nat} (hB : B < 2 ^ 30) (he : wN t z 24 + B = e) (hS : hSg L sg) (hG : ∀ g, g ∈ L → Gd z rf g) (hL : L.length ≤ 8) : Ct m_I_entryFault 0 0 [.ref 6, .ref 1] (Ac fp le lp lb il (sbf t) (nI z) bf rf fr mp (nI L.length) (-1 : Int32) (nI B) ie pw dh rl rb re sy sb rc sg ex) (vm_is (some (.int (if enB e L = true then 0 else 18))) (Ac fp le lp lb il (sbf t) (nI z) bf rf fr mp (nI L.length) (if enB e L = true then -1 else 24) (nI B) (if enB e L = true then nI e else ie) pw dh rl rb re sy sb rc sg ex)) := by
  have hw := wN_lt ht z 24
  refine Ct.of ⟨by decide +kernel, rfl⟩ (Nat.le_of_ble_eq_true rfl) (lv := [some (.ref 6), some (.ref 1), none, none, none, none]) rfl ?_
  refine Run.blk (gs := [True, True]) (S' := ([some (.ref 6), some (.ref 1), none, none, none, none], [.int (24 : Int32), .ref 1], Ac fp le lp lb il (sbf t) (nI z) bf rf fr mp (nI L.length) (-1 : Int32) (nI B) ie pw dh rl rb re sy sb rc sg ex)) k_I_entryFault_0 kc_I_entryFault_0 rfl ⟨trivial, trivial, trivial⟩ ?_
  refine Run.callV (b := 1) (As := [.int (24 : Int32)]) (rest := []) v_I_entryFault_3 (c_T_word ht hz (p := 24) rfl (by decide)) rfl (Nat.le_of_ble_eq_true rfl) rfl rfl rfl rfl (fun r cs' hp => ?_)
  obtain ⟨rfl, rfl⟩ := hp
  show Run _ _ _ _ 6 ([some (.ref 6), some (.ref 1), none, none, none, none], [.long (lN (wN t z 24))], Ac fp le lp lb il (sbf t) (nI z) bf rf fr mp (nI L.length) (-1 : Int32) (nI B) ie pw dh rl rb re sy sb rc sg ex) _
  refine Run.blk (gs := [True, True, True, True, True, True, True]) (S' := ([some (.ref 6), some (.ref 1), some (.long ((lN (wN t z 24)) + ((nI B).toInt64))), none, some (.int (0 : Int32)), none], [], Ac fp le lp lb il (sbf t) (nI z) bf rf fr mp (nI L.length) (-1 : Int32) (nI B) ie pw dh rl rb re sy sb rc sg ex)) k_I_entryFault_6 kc_I_entryFault_6 rfl ⟨trivial, trivial, trivial, trivial, trivial, trivial, trivial, trivial⟩ ?_
  rw [nI_l (by omega), lN_add, he]
  exact l_I_entryFault (by omega) hS hG hL L 0 _ _ rfl rfl (by omega)
theorem kU_at (K : Nat → Nat) (a v : Nat) {j : Nat} (hj : j < 12) : kU K a v j = if a = j then v else K j := by
  unfold kU
  by_cases h : a < 12
  · rw [if_pos h]; unfold upN
    by_cases h2 : j = a
    · rw [if_pos h2, if_pos h2.symm]
    · rw [if_neg h2, if_neg (fun w => h2 w.symm)]
  · rw [if_neg h, if_neg (by omega)]
theorem kU_lt {K : Nat → Nat} (hK : ∀ j, K j < 2 ^ 32) (a : Nat) {v : Nat} (hv : v < 2 ^ 32) : ∀ j, kU K a v j < 2 ^ 32 := by
  intro j; unfold kU
  split
  · show (if j = a then v else K j) < _
    split
    · exact hv
    · exact hK j
  · exact hK j
theorem prF_lt (ht : ∀ k, t k < 256) (z fr : Nat) : ∀ (k i : Nat) (K : Nat → Nat), (∀ j, K j < 2 ^ 32) → ∀ j, prF t z fr k i K j < 2 ^ 32
  | 0, _, K, h, j => h j
  | k + 1, i, K, h, j => by
    unfold prF
    split
    · exact h j
    · exact prF_lt ht z fr k (i + 1) _ (kU_lt h _ (wN_lt ht z _)) j
theorem dyK_lt (ht : ∀ k, t k < 256) (z D : Nat) (j : Nat) : dyK t z D j < 2 ^ 32 := by
  unfold dyK
  split
  · exact (by decide : 0 < 2 ^ 32)
  · exact prF_lt ht z _ _ _ _ (fun _ => (by decide : 0 < 2 ^ 32)) j
theorem p8_at (a i : Nat) {v : Int32} (hv : v = nI i) : nI a + (8 : Int32) * v = nI (a + 8 * i) := by
  rw [hv, show (8 : Int32) * nI i = nI (8 * i) from pk_mul 8 i, nI_add]
theorem p84_at (a i : Nat) {v : Int32} (hv : v = nI i) : nI a + (8 : Int32) * v + 4 = nI (a + 8 * i + 4) := by
  rw [p8_at a i hv]; exact nI_add _ 4
theorem nI_m1n {a : Nat} (h : a < 2 ^ 31) : ¬ nI a = -1 := fun w => by
  have := congrArg Int32.toInt w
  rw [nI_toInt h, tim1] at this
  omega
set_option maxRecDepth 100000 in
set_option maxHeartbeats 4000000 in
theorem c_I_takeDynamicPair {a v : Nat} (ha : a < 2 ^ 32) : Ct m_I_takeDynamicPair 0 0 [.ref 6, .long (lN a), .long (lN v)] (Ac fp le lp lb il tf tz bf rf fr mp sc ifp ib ie pw dh (lN (K 7)) (lN (K 8)) (lN (K 9)) (lN (K 6)) (lN (K 11)) rc sg ex) (vm_is none (Ac fp le lp lb il tf tz bf rf fr mp sc ifp ib ie pw dh (lN ((kU K a v) 7)) (lN ((kU K a v) 8)) (lN ((kU K a v) 9)) (lN ((kU K a v) 6)) (lN ((kU K a v) 11)) rc sg ex)) := by
  refine Ct.of ⟨by decide +kernel, rfl⟩ (Nat.le_of_ble_eq_true rfl) (lv := [some (.ref 6), some (.long (lN a)), none, some (.long (lN v)), none]) rfl ?_
  refine Run.blk (gs := [True, True]) (S' := ([some (.ref 6), some (.long (lN a)), none, some (.long (lN v)), none], [.long (7 : Int64), .long (lN a)], Ac fp le lp lb il tf tz bf rf fr mp sc ifp ib ie pw dh (lN (K 7)) (lN (K 8)) (lN (K 9)) (lN (K 6)) (lN (K 11)) rc sg ex)) k_I_takeDynamicPair_0 kc_I_takeDynamicPair_0 rfl ⟨trivial, trivial, trivial⟩ ?_
  refine Run.brl (tgt := 16) dl_I_takeDynamicPair_4 d_I_takeDynamicPair_4 rfl (by decide) (fun c_1 => ?_) (fun c_1 => ?_)
  · have c_1 : ¬ (a = 7) := fun w_ => c_1 ((pk_lEQ (a := a) (b := 7) (by omega) (by decide)).mpr w_)
    refine Run.blk (gs := [True, True]) (S' := ([some (.ref 6), some (.long (lN a)), none, some (.long (lN v)), none], [.long (8 : Int64), .long (lN a)], Ac fp le lp lb il tf tz bf rf fr mp sc ifp ib ie pw dh (lN (K 7)) (lN (K 8)) (lN (K 9)) (lN (K 6)) (lN (K 11)) rc sg ex)) k_I_takeDynamicPair_16 kc_I_takeDynamicPair_16 rfl ⟨trivial, trivial, trivial⟩ ?_
    refine Run.brl (tgt := 32) dl_I_takeDynamicPair_20 d_I_takeDynamicPair_20 rfl (by decide) (fun c_2 => ?_) (fun c_2 => ?_)
    · have c_2 : ¬ (a = 8) := fun w_ => c_2 ((pk_lEQ (a := a) (b := 8) (by omega) (by decide)).mpr w_)
      refine Run.blk (gs := [True, True]) (S' := ([some (.ref 6), some (.long (lN a)), none, some (.long (lN v)), none], [.long (9 : Int64), .long (lN a)], Ac fp le lp lb il tf tz bf rf fr mp sc ifp ib ie pw dh (lN (K 7)) (lN (K 8)) (lN (K 9)) (lN (K 6)) (lN (K 11)) rc sg ex)) k_I_takeDynamicPair_32 kc_I_takeDynamicPair_32 rfl ⟨trivial, trivial, trivial⟩ ?_
      refine Run.brl (tgt := 48) dl_I_takeDynamicPair_36 d_I_takeDynamicPair_36 rfl (by decide) (fun c_3 => ?_) (fun c_3 => ?_)
      · have c_3 : ¬ (a = 9) := fun w_ => c_3 ((pk_lEQ (a := a) (b := 9) (by omega) (by decide)).mpr w_)
        refine Run.blk (gs := [True, True]) (S' := ([some (.ref 6), some (.long (lN a)), none, some (.long (lN v)), none], [.long (6 : Int64), .long (lN a)], Ac fp le lp lb il tf tz bf rf fr mp sc ifp ib ie pw dh (lN (K 7)) (lN (K 8)) (lN (K 9)) (lN (K 6)) (lN (K 11)) rc sg ex)) k_I_takeDynamicPair_48 kc_I_takeDynamicPair_48 rfl ⟨trivial, trivial, trivial⟩ ?_
        refine Run.brl (tgt := 64) dl_I_takeDynamicPair_52 d_I_takeDynamicPair_52 rfl (by decide) (fun c_4 => ?_) (fun c_4 => ?_)
        · have c_4 : ¬ (a = 6) := fun w_ => c_4 ((pk_lEQ (a := a) (b := 6) (by omega) (by decide)).mpr w_)
          refine Run.blk (gs := [True, True]) (S' := ([some (.ref 6), some (.long (lN a)), none, some (.long (lN v)), none], [.long (11 : Int64), .long (lN a)], Ac fp le lp lb il tf tz bf rf fr mp sc ifp ib ie pw dh (lN (K 7)) (lN (K 8)) (lN (K 9)) (lN (K 6)) (lN (K 11)) rc sg ex)) k_I_takeDynamicPair_64 kc_I_takeDynamicPair_64 rfl ⟨trivial, trivial, trivial⟩ ?_
          refine Run.brl (tgt := 77) dl_I_takeDynamicPair_68 d_I_takeDynamicPair_68 rfl (by decide) (fun c_5 => ?_) (fun c_5 => ?_)
          · have c_5 : ¬ (a = 11) := fun w_ => c_5 ((pk_lEQ (a := a) (b := 11) (by omega) (by decide)).mpr w_)
            exact Run.ret (r := none) ⟨d_I_takeDynamicPair_77, rfl⟩ ⟨rfl, by rw [kU_at K a v (j := 7) (by decide), if_neg (by omega), kU_at K a v (j := 8) (by decide), if_neg (by omega), kU_at K a v (j := 9) (by decide), if_neg (by omega), kU_at K a v (j := 6) (by decide), if_neg (by omega), kU_at K a v (j := 11) (by decide), if_neg (by omega)]⟩
          · have c_5 := Classical.not_not.mp c_5
            have c_5 := (pk_lEQ (a := a) (b := 11) (by omega) (by decide)).mp c_5
            refine Run.blk (gs := [True, True, True]) (S' := ([some (.ref 6), some (.long (lN a)), none, some (.long (lN v)), none], [], Ac fp le lp lb il tf tz bf rf fr mp sc ifp ib ie pw dh (lN (K 7)) (lN (K 8)) (lN (K 9)) (lN (K 6)) (lN v) rc sg ex)) k_I_takeDynamicPair_72 kc_I_takeDynamicPair_72 rfl ⟨trivial, trivial, trivial, trivial⟩ ?_
            exact Run.ret (r := none) ⟨d_I_takeDynamicPair_77, rfl⟩ ⟨rfl, by rw [kU_at K a v (j := 7) (by decide), if_neg (by omega), kU_at K a v (j := 8) (by decide), if_neg (by omega), kU_at K a v (j := 9) (by decide), if_neg (by omega), kU_at K a v (j := 6) (by decide), if_neg (by omega), kU_at K a v (j := 11) (by decide), if_pos (by omega)]⟩
        · have c_4 := Classical.not_not.mp c_4
          have c_4 := (pk_lEQ (a := a) (b := 6) (by omega) (by decide)).mp c_4
          refine Run.blk (gs := [True, True, True]) (S' := ([some (.ref 6), some (.long (lN a)), none, some (.long (lN v)), none], [], Ac fp le lp lb il tf tz bf rf fr mp sc ifp ib ie pw dh (lN (K 7)) (lN (K 8)) (lN (K 9)) (lN v) (lN (K 11)) rc sg ex)) k_I_takeDynamicPair_56 kc_I_takeDynamicPair_56 rfl ⟨trivial, trivial, trivial, trivial⟩ ?_
          refine Run.goto (tgt := 77) d_I_takeDynamicPair_61 (by decide) ?_
          exact Run.ret (r := none) ⟨d_I_takeDynamicPair_77, rfl⟩ ⟨rfl, by rw [kU_at K a v (j := 7) (by decide), if_neg (by omega), kU_at K a v (j := 8) (by decide), if_neg (by omega), kU_at K a v (j := 9) (by decide), if_neg (by omega), kU_at K a v (j := 6) (by decide), if_pos (by omega), kU_at K a v (j := 11) (by decide), if_neg (by omega)]⟩
      · have c_3 := Classical.not_not.mp c_3
        have c_3 := (pk_lEQ (a := a) (b := 9) (by omega) (by decide)).mp c_3
        refine Run.blk (gs := [True, True, True]) (S' := ([some (.ref 6), some (.long (lN a)), none, some (.long (lN v)), none], [], Ac fp le lp lb il tf tz bf rf fr mp sc ifp ib ie pw dh (lN (K 7)) (lN (K 8)) (lN v) (lN (K 6)) (lN (K 11)) rc sg ex)) k_I_takeDynamicPair_40 kc_I_takeDynamicPair_40 rfl ⟨trivial, trivial, trivial, trivial⟩ ?_
        refine Run.goto (tgt := 77) d_I_takeDynamicPair_45 (by decide) ?_
        exact Run.ret (r := none) ⟨d_I_takeDynamicPair_77, rfl⟩ ⟨rfl, by rw [kU_at K a v (j := 7) (by decide), if_neg (by omega), kU_at K a v (j := 8) (by decide), if_neg (by omega), kU_at K a v (j := 9) (by decide), if_pos (by omega), kU_at K a v (j := 6) (by decide), if_neg (by omega), kU_at K a v (j := 11) (by decide), if_neg (by omega)]⟩
    · have c_2 := Classical.not_not.mp c_2
      have c_2 := (pk_lEQ (a := a) (b := 8) (by omega) (by decide)).mp c_2
      refine Run.blk (gs := [True, True, True]) (S' := ([some (.ref 6), some (.long (lN a)), none, some (.long (lN v)), none], [], Ac fp le lp lb il tf tz bf rf fr mp sc ifp ib ie pw dh (lN (K 7)) (lN v) (lN (K 9)) (lN (K 6)) (lN (K 11)) rc sg ex)) k_I_takeDynamicPair_24 kc_I_takeDynamicPair_24 rfl ⟨trivial, trivial, trivial, trivial⟩ ?_
      refine Run.goto (tgt := 77) d_I_takeDynamicPair_29 (by decide) ?_
      exact Run.ret (r := none) ⟨d_I_takeDynamicPair_77, rfl⟩ ⟨rfl, by rw [kU_at K a v (j := 7) (by decide), if_neg (by omega), kU_at K a v (j := 8) (by decide), if_pos (by omega), kU_at K a v (j := 9) (by decide), if_neg (by omega), kU_at K a v (j := 6) (by decide), if_neg (by omega), kU_at K a v (j := 11) (by decide), if_neg (by omega)]⟩
  · have c_1 := Classical.not_not.mp c_1
    have c_1 := (pk_lEQ (a := a) (b := 7) (by omega) (by decide)).mp c_1
    refine Run.blk (gs := [True, True, True]) (S' := ([some (.ref 6), some (.long (lN a)), none, some (.long (lN v)), none], [], Ac fp le lp lb il tf tz bf rf fr mp sc ifp ib ie pw dh (lN v) (lN (K 8)) (lN (K 9)) (lN (K 6)) (lN (K 11)) rc sg ex)) k_I_takeDynamicPair_8 kc_I_takeDynamicPair_8 rfl ⟨trivial, trivial, trivial, trivial⟩ ?_
    refine Run.goto (tgt := 77) d_I_takeDynamicPair_13 (by decide) ?_
    exact Run.ret (r := none) ⟨d_I_takeDynamicPair_77, rfl⟩ ⟨rfl, by rw [kU_at K a v (j := 7) (by decide), if_pos (by omega), kU_at K a v (j := 8) (by decide), if_neg (by omega), kU_at K a v (j := 9) (by decide), if_neg (by omega), kU_at K a v (j := 6) (by decide), if_neg (by omega), kU_at K a v (j := 11) (by decide), if_neg (by omega)]⟩
set_option maxRecDepth 100000 in
set_option maxHeartbeats 4000000 in
theorem l_I_takeDynamicPairs (ht : ∀ k, t k < 256) (hz : z ≤ 900) {F N : Nat} (hFN : F + 8 * N ≤ z) : ∀ (k i : Nat) (v : Int32) (q5 : Option Value) (K : Nat → Nat), v = nI i → i + k = N → Run m_I_takeDynamicPairs n 0 0 32 ([some (.ref 6), some (.ref 1), some (.int (nI F)), some (.int (nI N)), some (.int v), q5, none], [], Ac fp le lp lb il (sbf t) (nI z) bf rf fr mp sc ifp ib ie pw dh (lN (K 7)) (lN (K 8)) (lN (K 9)) (lN (K 6)) (lN (K 11)) rc sg ex) (vm_is none (Ac fp le lp lb il (sbf t) (nI z) bf rf fr mp sc ifp ib ie pw dh (lN ((prF t z F k i K) 7)) (lN ((prF t z F k i K) 8)) (lN ((prF t z F k i K) 9)) (lN ((prF t z F k i K) 6)) (lN ((prF t z F k i K) 11)) rc sg ex))
  | 0, i, v, q5, K, hv, h => by
    refine Run.blk (gs := [True, True]) (S' := ([some (.ref 6), some (.ref 1), some (.int (nI F)), some (.int (nI N)), some (.int v), q5, none], [.int (nI N), .int v], Ac fp le lp lb il (sbf t) (nI z) bf rf fr mp sc ifp ib ie pw dh (lN (K 7)) (lN (K 8)) (lN (K 9)) (lN (K 6)) (lN (K 11)) rc sg ex)) k_I_takeDynamicPairs_32 kc_I_takeDynamicPairs_32 rfl ⟨trivial, trivial, trivial⟩ ?_
    refine Run.br (tgt := 84) d_I_takeDynamicPairs_35 rfl (by decide) (fun c_1 => ?_) (fun c_1 => ?_)
    · exact Run.ret (r := none) ⟨d_I_takeDynamicPairs_84, rfl⟩ ⟨rfl, rfl⟩
    · exact absurd (by rw [hv]; exact (nI_leI (a := N) (b := i) (by omega) (by omega)).mpr (by omega)) c_1
  | k + 1, i, v, q5, K, hv, h => by
    refine Run.blk (gs := [True, True]) (S' := ([some (.ref 6), some (.ref 1), some (.int (nI F)), some (.int (nI N)), some (.int v), q5, none], [.int (nI N), .int v], Ac fp le lp lb il (sbf t) (nI z) bf rf fr mp sc ifp ib ie pw dh (lN (K 7)) (lN (K 8)) (lN (K 9)) (lN (K 6)) (lN (K 11)) rc sg ex)) k_I_takeDynamicPairs_32 kc_I_takeDynamicPairs_32 rfl ⟨trivial, trivial, trivial⟩ ?_
    refine Run.br (tgt := 84) d_I_takeDynamicPairs_35 rfl (by decide) (fun c_1 => ?_) (fun c_1 => ?_)
    · exact absurd ((nI_leI (a := N) (b := i) (by omega) (by omega)).mp (by rw [← hv]; exact c_1)) (by omega)
    · refine Run.blk (gs := [True, True, True, True, True, True]) (S' := ([some (.ref 6), some (.ref 1), some (.int (nI F)), some (.int (nI N)), some (.int v), q5, none], [.int ((nI F) + ((8 : Int32) * v)), .ref 1], Ac fp le lp lb il (sbf t) (nI z) bf rf fr mp sc ifp ib ie pw dh (lN (K 7)) (lN (K 8)) (lN (K 9)) (lN (K 6)) (lN (K 11)) rc sg ex)) k_I_takeDynamicPairs_38 kc_I_takeDynamicPairs_38 rfl ⟨trivial, trivial, trivial, trivial, trivial, trivial, trivial⟩ ?_
      refine Run.callV (b := 1) (As := [.int ((nI F) + ((8 : Int32) * v))]) (rest := []) v_I_takeDynamicPairs_46 (c_T_word ht hz (p := F + 8 * i) (p8_at _ _ hv) (by omega)) rfl (Nat.le_of_ble_eq_true rfl) rfl rfl rfl rfl (fun r cs' hp => ?_)
      obtain ⟨rfl, rfl⟩ := hp
      show Run _ _ _ _ 49 ([some (.ref 6), some (.ref 1), some (.int (nI F)), some (.int (nI N)), some (.int v), q5, none], [.long (lN (wN t z (F + 8 * i)))], Ac fp le lp lb il (sbf t) (nI z) bf rf fr mp sc ifp ib ie pw dh (lN (K 7)) (lN (K 8)) (lN (K 9)) (lN (K 6)) (lN (K 11)) rc sg ex) _
      refine Run.blk (gs := [True, True, True]) (S' := ([some (.ref 6), some (.ref 1), some (.int (nI F)), some (.int (nI N)), some (.int v), some (.long (lN (wN t z (F + 8 * i)))), none], [.long (0 : Int64), .long (lN (wN t z (F + 8 * i)))], Ac fp le lp lb il (sbf t) (nI z) bf rf fr mp sc ifp ib ie pw dh (lN (K 7)) (lN (K 8)) (lN (K 9)) (lN (K 6)) (lN (K 11)) rc sg ex)) k_I_takeDynamicPairs_49 kc_I_takeDynamicPairs_49 rfl ⟨trivial, trivial, trivial, trivial⟩ ?_
      refine Run.brl (tgt := 59) dl_I_takeDynamicPairs_54 d_I_takeDynamicPairs_54 rfl (by decide) (fun c_2 => ?_) (fun c_2 => ?_)
      · have c_2 : ¬ ((wN t z (F + 8 * i)) = 0) := fun w_ => c_2 ((pk_lEQ (a := (wN t z (F + 8 * i))) (b := 0) (Nat.lt_of_lt_of_le (wN_lt ht z _) (by decide)) (by decide)).mpr w_)
        refine Run.blk (gs := [True, True, True, True, True, True, True, True, True, True]) (S' := ([some (.ref 6), some (.ref 1), some (.int (nI F)), some (.int (nI N)), some (.int v), some (.long (lN (wN t z (F + 8 * i)))), none], [.int (((nI F) + ((8 : Int32) * v)) + (4 : Int32)), .ref 1, .long (lN (wN t z (F + 8 * i))), .ref 6], Ac fp le lp lb il (sbf t) (nI z) bf rf fr mp sc ifp ib ie pw dh (lN (K 7)) (lN (K 8)) (lN (K 9)) (lN (K 6)) (lN (K 11)) rc sg ex)) k_I_takeDynamicPairs_59 kc_I_takeDynamicPairs_59 rfl ⟨trivial, trivial, trivial, trivial, trivial, trivial, trivial, trivial, trivial, trivial, trivial⟩ ?_
        refine Run.callV (b := 1) (As := [.int (((nI F) + ((8 : Int32) * v)) + (4 : Int32))]) (rest := [.long (lN (wN t z (F + 8 * i))), .ref 6]) v_I_takeDynamicPairs_72 (c_T_word ht hz (p := F + 8 * i + 4) (p84_at _ _ hv) (by omega)) rfl (Nat.le_of_ble_eq_true rfl) rfl rfl rfl rfl (fun r cs' hp => ?_)
        obtain ⟨rfl, rfl⟩ := hp
        show Run _ _ _ _ 75 ([some (.ref 6), some (.ref 1), some (.int (nI F)), some (.int (nI N)), some (.int v), some (.long (lN (wN t z (F + 8 * i)))), none], [.long (lN (wN t z (F + 8 * i + 4))), .long (lN (wN t z (F + 8 * i))), .ref 6], Ac fp le lp lb il (sbf t) (nI z) bf rf fr mp sc ifp ib ie pw dh (lN (K 7)) (lN (K 8)) (lN (K 9)) (lN (K 6)) (lN (K 11)) rc sg ex) _
        refine Run.callV (b := 6) (As := [.long (lN (wN t z (F + 8 * i))), .long (lN (wN t z (F + 8 * i + 4)))]) (rest := []) v_I_takeDynamicPairs_75 (c_I_takeDynamicPair (wN_lt ht z _)) rfl (Nat.le_of_ble_eq_true rfl) rfl rfl rfl rfl (fun r cs' hp => ?_)
        obtain ⟨rfl, rfl⟩ := hp
        show Run _ _ _ _ 78 ([some (.ref 6), some (.ref 1), some (.int (nI F)), some (.int (nI N)), some (.int v), some (.long (lN (wN t z (F + 8 * i)))), none], [], Ac fp le lp lb il (sbf t) (nI z) bf rf fr mp sc ifp ib ie pw dh (lN ((kU K (wN t z (F + 8 * i)) (wN t z (F + 8 * i + 4))) 7)) (lN ((kU K (wN t z (F + 8 * i)) (wN t z (F + 8 * i + 4))) 8)) (lN ((kU K (wN t z (F + 8 * i)) (wN t z (F + 8 * i + 4))) 9)) (lN ((kU K (wN t z (F + 8 * i)) (wN t z (F + 8 * i + 4))) 6)) (lN ((kU K (wN t z (F + 8 * i)) (wN t z (F + 8 * i + 4))) 11)) rc sg ex) _
        refine Run.blk (gs := [True]) (S' := ([some (.ref 6), some (.ref 1), some (.int (nI F)), some (.int (nI N)), some (.int (v + (1 : Int32))), some (.long (lN (wN t z (F + 8 * i)))), none], [], Ac fp le lp lb il (sbf t) (nI z) bf rf fr mp sc ifp ib ie pw dh (lN ((kU K (wN t z (F + 8 * i)) (wN t z (F + 8 * i + 4))) 7)) (lN ((kU K (wN t z (F + 8 * i)) (wN t z (F + 8 * i + 4))) 8)) (lN ((kU K (wN t z (F + 8 * i)) (wN t z (F + 8 * i + 4))) 9)) (lN ((kU K (wN t z (F + 8 * i)) (wN t z (F + 8 * i + 4))) 6)) (lN ((kU K (wN t z (F + 8 * i)) (wN t z (F + 8 * i + 4))) 11)) rc sg ex)) k_I_takeDynamicPairs_78 kc_I_takeDynamicPairs_78 rfl ⟨trivial, trivial⟩ ?_
        refine Run.goto (tgt := 32) d_I_takeDynamicPairs_81 (by decide) ?_
        rw [show prF t z F (k + 1) i K = prF t z F k (i + 1) (kU K (wN t z (F + 8 * i)) (wN t z (F + 8 * i + 4))) by rw [prF, if_neg c_2]]
        exact l_I_takeDynamicPairs ht hz hFN k (i + 1) _ _ _ (by rw [hv, nI_1]) (by omega)
      · have c_2 := Classical.not_not.mp c_2
        have c_2 := (pk_lEQ (a := (wN t z (F + 8 * i))) (b := 0) (Nat.lt_of_lt_of_le (wN_lt ht z _) (by decide)) (by decide)).mp c_2
        rw [show prF t z F (k + 1) i K = K by rw [prF, if_pos c_2]]
        exact Run.ret (r := none) ⟨d_I_takeDynamicPairs_58, rfl⟩ ⟨rfl, rfl⟩
set_option maxRecDepth 100000 in
set_option maxHeartbeats 4000000 in
theorem c_I_takeDynamicPairs (ht : ∀ k, t k < 256) (hz : z ≤ 900) (hq1 : q + 32 ≤ z) (hq2 : wN t z (q + 4) + wN t z (q + 16) ≤ z) : Ct m_I_takeDynamicPairs 0 0 [.ref 6, .ref 1] (Ac fp le lp lb il (sbf t) (nI z) bf rf fr mp sc ifp ib ie pw (nI q) (0 : Int64) (0 : Int64) (0 : Int64) (0 : Int64) (0 : Int64) rc sg ex) (vm_is none (Ac fp le lp lb il (sbf t) (nI z) bf rf fr mp sc ifp ib ie pw (nI q) (lN ((dyK t z (q + 1)) 7)) (lN ((dyK t z (q + 1)) 8)) (lN ((dyK t z (q + 1)) 9)) (lN ((dyK t z (q + 1)) 6)) (lN ((dyK t z (q + 1)) 11)) rc sg ex)) := by
  refine Ct.of ⟨by decide +kernel, rfl⟩ (Nat.le_of_ble_eq_true rfl) (lv := [some (.ref 6), some (.ref 1), none, none, none, none, none]) rfl ?_
  refine Run.blk (gs := [True, True, True, True, True]) (S' := ([some (.ref 6), some (.ref 1), none, none, none, none, none], [.int ((nI q) + (4 : Int32)), .ref 1], Ac fp le lp lb il (sbf t) (nI z) bf rf fr mp sc ifp ib ie pw (nI q) (0 : Int64) (0 : Int64) (0 : Int64) (0 : Int64) (0 : Int64) rc sg ex)) k_I_takeDynamicPairs_0 kc_I_takeDynamicPairs_0 rfl ⟨trivial, trivial, trivial, trivial, trivial, trivial⟩ ?_
  refine Run.callV (b := 1) (As := [.int ((nI q) + (4 : Int32))]) (rest := []) v_I_takeDynamicPairs_7 (c_T_word ht hz (p := q + 4) (nI_add q 4) (by omega)) rfl (Nat.le_of_ble_eq_true rfl) rfl rfl rfl rfl (fun r cs' hp => ?_)
  obtain ⟨rfl, rfl⟩ := hp
  show Run _ _ _ _ 10 ([some (.ref 6), some (.ref 1), none, none, none, none, none], [.long (lN (wN t z (q + 4)))], Ac fp le lp lb il (sbf t) (nI z) bf rf fr mp sc ifp ib ie pw (nI q) (0 : Int64) (0 : Int64) (0 : Int64) (0 : Int64) (0 : Int64) rc sg ex) _
  refine Run.blk (gs := [True, True, True, True, True, True, True]) (S' := ([some (.ref 6), some (.ref 1), some (.int ((lN (wN t z (q + 4))).toInt32)), none, none, none, none], [.int ((nI q) + (16 : Int32)), .ref 1], Ac fp le lp lb il (sbf t) (nI z) bf rf fr mp sc ifp ib ie pw (nI q) (0 : Int64) (0 : Int64) (0 : Int64) (0 : Int64) (0 : Int64) rc sg ex)) k_I_takeDynamicPairs_10 kc_I_takeDynamicPairs_10 rfl ⟨trivial, trivial, trivial, trivial, trivial, trivial, trivial, trivial⟩ ?_
  refine Run.callV (b := 1) (As := [.int ((nI q) + (16 : Int32))]) (rest := []) v_I_takeDynamicPairs_20 (c_T_word ht hz (p := q + 16) (nI_add q 16) (by omega)) rfl (Nat.le_of_ble_eq_true rfl) rfl rfl rfl rfl (fun r cs' hp => ?_)
  obtain ⟨rfl, rfl⟩ := hp
  show Run _ _ _ _ 23 ([some (.ref 6), some (.ref 1), some (.int ((lN (wN t z (q + 4))).toInt32)), none, none, none, none], [.long (lN (wN t z (q + 16)))], Ac fp le lp lb il (sbf t) (nI z) bf rf fr mp sc ifp ib ie pw (nI q) (0 : Int64) (0 : Int64) (0 : Int64) (0 : Int64) (0 : Int64) rc sg ex) _
  refine Run.blk (gs := [True, ¬ (8 : Int64) = 0, True, True, True, True]) (S' := ([some (.ref 6), some (.ref 1), some (.int ((lN (wN t z (q + 4))).toInt32)), some (.int (((lN (wN t z (q + 16))) / (8 : Int64)).toInt32)), some (.int (0 : Int32)), none, none], [], Ac fp le lp lb il (sbf t) (nI z) bf rf fr mp sc ifp ib ie pw (nI q) (0 : Int64) (0 : Int64) (0 : Int64) (0 : Int64) (0 : Int64) rc sg ex)) k_I_takeDynamicPairs_23 kc_I_takeDynamicPairs_23 rfl ⟨trivial, (by decide), trivial, trivial, trivial, trivial, trivial⟩ ?_
  rw [lN_i, show lN (wN t z (q + 16)) / (8 : Int64) = lN (wN t z (q + 16) / 8) from pk_lDiv (b := 8) (by omega) (by decide) (by decide), lN_i, show dyK t z (q + 1) = prF t z (wN t z (q + 4)) (wN t z (q + 16) / 8) 0 (fun _ => 0) by unfold dyK; rw [if_neg (by omega)]; rfl]
  exact l_I_takeDynamicPairs ht hz (by omega) _ 0 _ _ (fun _ => 0) rfl (by omega)
set_option maxRecDepth 100000 in
set_option maxHeartbeats 4000000 in
theorem c_I_dynamicFault_1 (ht : ∀ k, t k < 256) (hz : z ≤ 900) (hq1 : q + 32 ≤ z) (hq2 : wN t z (q + 4) + wN t z (q + 16) ≤ z) : Ct m_I_dynamicFault 0 0 [.ref 6, .ref 1] (Ac fp le lp lb il (sbf t) (nI z) bf rf fr mp sc (-1 : Int32) ib ie pw (nI q) (0 : Int64) (0 : Int64) (0 : Int64) (0 : Int64) (0 : Int64) (0 : Int32) sg ex) (fun r cs' => ∃ rc', r = some (.int (dyF (dyK t z (q + 1)) (q + 1)).1) ∧ cs' = Ac fp le lp lb il (sbf t) (nI z) bf rf fr mp sc ((dyF (dyK t z (q + 1)) (q + 1)).2) ib ie pw (nI q) (lN ((dyK t z (q + 1)) 7)) (lN ((dyK t z (q + 1)) 8)) (lN ((dyK t z (q + 1)) 9)) (lN ((dyK t z (q + 1)) 6)) (lN ((dyK t z (q + 1)) 11)) (rc') sg ex ∧ ((dyF (dyK t z (q + 1)) (q + 1)).1 = 0 → rc' = nI ((dyK t z (q + 1)) 8 / 12))) := by
  have h8 := dyK_lt ht z (q + 1) 8
  have h9 := dyK_lt ht z (q + 1) 9
  refine Ct.of ⟨by decide +kernel, rfl⟩ (Nat.le_of_ble_eq_true rfl) (lv := [some (.ref 6), some (.ref 1), none]) rfl ?_
  refine Run.blk (gs := [True, True, True]) (S' := ([some (.ref 6), some (.ref 1), none], [.int (-1 : Int32), .int (nI q)], Ac fp le lp lb il (sbf t) (nI z) bf rf fr mp sc (-1 : Int32) ib ie pw (nI q) (0 : Int64) (0 : Int64) (0 : Int64) (0 : Int64) (0 : Int64) (0 : Int32) sg ex)) k_I_dynamicFault_0 kc_I_dynamicFault_0 rfl ⟨trivial, trivial, trivial, trivial⟩ ?_
  refine Run.br (tgt := 10) d_I_dynamicFault_5 rfl (by decide) (fun c_1 => ?_) (fun c_1 => ?_)
  · refine Run.blk (gs := [True, True]) (S' := ([some (.ref 6), some (.ref 1), none], [.ref 1, .ref 6], Ac fp le lp lb il (sbf t) (nI z) bf rf fr mp sc (-1 : Int32) ib ie pw (nI q) (0 : Int64) (0 : Int64) (0 : Int64) (0 : Int64) (0 : Int64) (0 : Int32) sg ex)) k_I_dynamicFault_10 kc_I_dynamicFault_10 rfl ⟨trivial, trivial, trivial⟩ ?_
    refine Run.callV (b := 6) (As := [.ref 1]) (rest := []) v_I_dynamicFault_12 (c_I_takeDynamicPairs ht hz hq1 hq2) rfl (Nat.le_of_ble_eq_true rfl) rfl rfl rfl rfl (fun r cs' hp => ?_)
    obtain ⟨rfl, rfl⟩ := hp
    show Run _ _ _ _ 15 ([some (.ref 6), some (.ref 1), none], [], Ac fp le lp lb il (sbf t) (nI z) bf rf fr mp sc (-1 : Int32) ib ie pw (nI q) (lN ((dyK t z (q + 1)) 7)) (lN ((dyK t z (q + 1)) 8)) (lN ((dyK t z (q + 1)) 9)) (lN ((dyK t z (q + 1)) 6)) (lN ((dyK t z (q + 1)) 11)) (0 : Int32) sg ex) _
    refine Run.blk (gs := [True, True, True, ¬ (12 : Int64) = 0, True]) (S' := ([some (.ref 6), some (.ref 1), none], [.long (0 : Int64), .long ((lN ((dyK t z (q + 1)) 8)) - (lN ((dyK t z (q + 1)) 8)) / (12 : Int64) * (12 : Int64))], Ac fp le lp lb il (sbf t) (nI z) bf rf fr mp sc (-1 : Int32) ib ie pw (nI q) (lN ((dyK t z (q + 1)) 7)) (lN ((dyK t z (q + 1)) 8)) (lN ((dyK t z (q + 1)) 9)) (lN ((dyK t z (q + 1)) 6)) (lN ((dyK t z (q + 1)) 11)) (0 : Int32) sg ex)) k_I_dynamicFault_15 kc_I_dynamicFault_15 rfl ⟨trivial, trivial, trivial, (by decide), trivial, trivial⟩ ?_
    refine Run.brl (tgt := 67) dl_I_dynamicFault_24 d_I_dynamicFault_24 rfl (by decide) (fun c_2 => ?_) (fun c_2 => ?_)
    · rw [show (12 : Int64) = lN 12 from rfl, pk_lRem (by omega) (by decide) (by decide), show (0 : Int64) = lN 0 from rfl, pk_lEQ (Nat.lt_of_le_of_lt (Nat.mod_le _ _) (by omega)) (by decide)] at c_2
      refine Run.blk (gs := [True]) (S' := ([some (.ref 6), some (.ref 1), none], [.int (0 : Int32)], Ac fp le lp lb il (sbf t) (nI z) bf rf fr mp sc (-1 : Int32) ib ie pw (nI q) (lN ((dyK t z (q + 1)) 7)) (lN ((dyK t z (q + 1)) 8)) (lN ((dyK t z (q + 1)) 9)) (lN ((dyK t z (q + 1)) 6)) (lN ((dyK t z (q + 1)) 11)) (0 : Int32) sg ex)) k_I_dynamicFault_67 kc_I_dynamicFault_67 rfl ⟨trivial, trivial⟩ ?_
      refine Run.blk (gs := [True, True]) (S' := ([some (.ref 6), some (.ref 1), some (.int (0 : Int32))], [.int (0 : Int32)], Ac fp le lp lb il (sbf t) (nI z) bf rf fr mp sc (-1 : Int32) ib ie pw (nI q) (lN ((dyK t z (q + 1)) 7)) (lN ((dyK t z (q + 1)) 8)) (lN ((dyK t z (q + 1)) 9)) (lN ((dyK t z (q + 1)) 6)) (lN ((dyK t z (q + 1)) 11)) (0 : Int32) sg ex)) k_I_dynamicFault_68 kc_I_dynamicFault_68 rfl ⟨trivial, trivial, trivial⟩ ?_
      refine Run.br (tgt := 84) d_I_dynamicFault_70 rfl (by decide) (fun c_3 => ?_) (fun c_3 => ?_)
      · have c_3 : ¬ (0 = 0) := fun w_ => c_3 ((nI_eq (a := 0) (b := 0) (by decide) (by decide)).mpr w_)
        exact absurd c_3 (by decide)
      · have c_3 := Classical.not_not.mp c_3
        have c_3 := (nI_eq (a := 0) (b := 0) (by decide) (by decide)).mp c_3
        refine Run.blk (gs := [True, True, True, True]) (S' := ([some (.ref 6), some (.ref 1), some (.int (0 : Int32))], [.int (nI q), .int (19 : Int32), .ref 6], Ac fp le lp lb il (sbf t) (nI z) bf rf fr mp sc (-1 : Int32) ib ie pw (nI q) (lN ((dyK t z (q + 1)) 7)) (lN ((dyK t z (q + 1)) 8)) (lN ((dyK t z (q + 1)) 9)) (lN ((dyK t z (q + 1)) 6)) (lN ((dyK t z (q + 1)) 11)) (0 : Int32) sg ex)) k_I_dynamicFault_73 kc_I_dynamicFault_73 rfl ⟨trivial, trivial, trivial, trivial, trivial⟩ ?_
        refine Run.callV (b := 6) (As := [.int (19 : Int32), .int (nI q)]) (rest := []) v_I_dynamicFault_80 c_I_fault rfl (Nat.le_of_ble_eq_true rfl) rfl rfl rfl rfl (fun r cs' hp => ?_)
        obtain ⟨rfl, rfl⟩ := hp
        show Run _ _ _ _ 83 ([some (.ref 6), some (.ref 1), some (.int (0 : Int32))], [.int (19 : Int32)], Ac fp le lp lb il (sbf t) (nI z) bf rf fr mp sc (nI q) ib ie pw (nI q) (lN ((dyK t z (q + 1)) 7)) (lN ((dyK t z (q + 1)) 8)) (lN ((dyK t z (q + 1)) 9)) (lN ((dyK t z (q + 1)) 6)) (lN ((dyK t z (q + 1)) 11)) (0 : Int32) sg ex) _
        rw [show dyF (dyK t z (q + 1)) (q + 1) = (19, nI q) by unfold dyF; rw [if_neg (by omega)]; rfl]
        exact Run.ret (r := some (.int (19 : Int32))) ⟨d_I_dynamicFault_83, _, rfl, rfl⟩ ⟨_, rfl, rfl, fun w => absurd (show (19 : Int32) = 0 from w) (by decide)⟩
    · have c_2 := Classical.not_not.mp c_2
      rw [show (12 : Int64) = lN 12 from rfl, pk_lRem (by omega) (by decide) (by decide), show (0 : Int64) = lN 0 from rfl, pk_lEQ (Nat.lt_of_le_of_lt (Nat.mod_le _ _) (by omega)) (by decide)] at c_2
      refine Run.blk (gs := [True, True, True, ¬ (12 : Int64) = 0, True]) (S' := ([some (.ref 6), some (.ref 1), none], [.long (60 : Int64), .long ((lN ((dyK t z (q + 1)) 8)) / (12 : Int64))], Ac fp le lp lb il (sbf t) (nI z) bf rf fr mp sc (-1 : Int32) ib ie pw (nI q) (lN ((dyK t z (q + 1)) 7)) (lN ((dyK t z (q + 1)) 8)) (lN ((dyK t z (q + 1)) 9)) (lN ((dyK t z (q + 1)) 6)) (lN ((dyK t z (q + 1)) 11)) (0 : Int32) sg ex)) k_I_dynamicFault_28 kc_I_dynamicFault_28 rfl ⟨trivial, trivial, trivial, (by decide), trivial, trivial⟩ ?_
      refine Run.brl (tgt := 67) dl_I_dynamicFault_39 d_I_dynamicFault_39 rfl (by decide) (fun c_4 => ?_) (fun c_4 => ?_)
      · rw [show (12 : Int64) = lN 12 from rfl, pk_lDiv (by omega) (by decide) (by decide), show (60 : Int64) = lN 60 from rfl, pk_lLT (by decide) (Nat.lt_of_le_of_lt (Nat.div_le_self _ _) (by omega))] at c_4
        refine Run.blk (gs := [True]) (S' := ([some (.ref 6), some (.ref 1), none], [.int (0 : Int32)], Ac fp le lp lb il (sbf t) (nI z) bf rf fr mp sc (-1 : Int32) ib ie pw (nI q) (lN ((dyK t z (q + 1)) 7)) (lN ((dyK t z (q + 1)) 8)) (lN ((dyK t z (q + 1)) 9)) (lN ((dyK t z (q + 1)) 6)) (lN ((dyK t z (q + 1)) 11)) (0 : Int32) sg ex)) k_I_dynamicFault_67 kc_I_dynamicFault_67 rfl ⟨trivial, trivial⟩ ?_
        refine Run.blk (gs := [True, True]) (S' := ([some (.ref 6), some (.ref 1), some (.int (0 : Int32))], [.int (0 : Int32)], Ac fp le lp lb il (sbf t) (nI z) bf rf fr mp sc (-1 : Int32) ib ie pw (nI q) (lN ((dyK t z (q + 1)) 7)) (lN ((dyK t z (q + 1)) 8)) (lN ((dyK t z (q + 1)) 9)) (lN ((dyK t z (q + 1)) 6)) (lN ((dyK t z (q + 1)) 11)) (0 : Int32) sg ex)) k_I_dynamicFault_68 kc_I_dynamicFault_68 rfl ⟨trivial, trivial, trivial⟩ ?_
        refine Run.br (tgt := 84) d_I_dynamicFault_70 rfl (by decide) (fun c_5 => ?_) (fun c_5 => ?_)
        · have c_5 : ¬ (0 = 0) := fun w_ => c_5 ((nI_eq (a := 0) (b := 0) (by decide) (by decide)).mpr w_)
          exact absurd c_5 (by decide)
        · have c_5 := Classical.not_not.mp c_5
          have c_5 := (nI_eq (a := 0) (b := 0) (by decide) (by decide)).mp c_5
          refine Run.blk (gs := [True, True, True, True]) (S' := ([some (.ref 6), some (.ref 1), some (.int (0 : Int32))], [.int (nI q), .int (19 : Int32), .ref 6], Ac fp le lp lb il (sbf t) (nI z) bf rf fr mp sc (-1 : Int32) ib ie pw (nI q) (lN ((dyK t z (q + 1)) 7)) (lN ((dyK t z (q + 1)) 8)) (lN ((dyK t z (q + 1)) 9)) (lN ((dyK t z (q + 1)) 6)) (lN ((dyK t z (q + 1)) 11)) (0 : Int32) sg ex)) k_I_dynamicFault_73 kc_I_dynamicFault_73 rfl ⟨trivial, trivial, trivial, trivial, trivial⟩ ?_
          refine Run.callV (b := 6) (As := [.int (19 : Int32), .int (nI q)]) (rest := []) v_I_dynamicFault_80 c_I_fault rfl (Nat.le_of_ble_eq_true rfl) rfl rfl rfl rfl (fun r cs' hp => ?_)
          obtain ⟨rfl, rfl⟩ := hp
          show Run _ _ _ _ 83 ([some (.ref 6), some (.ref 1), some (.int (0 : Int32))], [.int (19 : Int32)], Ac fp le lp lb il (sbf t) (nI z) bf rf fr mp sc (nI q) ib ie pw (nI q) (lN ((dyK t z (q + 1)) 7)) (lN ((dyK t z (q + 1)) 8)) (lN ((dyK t z (q + 1)) 9)) (lN ((dyK t z (q + 1)) 6)) (lN ((dyK t z (q + 1)) 11)) (0 : Int32) sg ex) _
          rw [show dyF (dyK t z (q + 1)) (q + 1) = (19, nI q) by unfold dyF; rw [if_neg (by omega)]; rfl]
          exact Run.ret (r := some (.int (19 : Int32))) ⟨d_I_dynamicFault_83, _, rfl, rfl⟩ ⟨_, rfl, rfl, fun w => absurd (show (19 : Int32) = 0 from w) (by decide)⟩
      · rw [show (12 : Int64) = lN 12 from rfl, pk_lDiv (by omega) (by decide) (by decide), show (60 : Int64) = lN 60 from rfl, pk_lLT (by decide) (Nat.lt_of_le_of_lt (Nat.div_le_self _ _) (by omega))] at c_4
        refine Run.blk (gs := [True, True, True]) (S' := ([some (.ref 6), some (.ref 1), none], [.long (0 : Int64), .long (lN ((dyK t z (q + 1)) 8))], Ac fp le lp lb il (sbf t) (nI z) bf rf fr mp sc (-1 : Int32) ib ie pw (nI q) (lN ((dyK t z (q + 1)) 7)) (lN ((dyK t z (q + 1)) 8)) (lN ((dyK t z (q + 1)) 9)) (lN ((dyK t z (q + 1)) 6)) (lN ((dyK t z (q + 1)) 11)) (0 : Int32) sg ex)) k_I_dynamicFault_43 kc_I_dynamicFault_43 rfl ⟨trivial, trivial, trivial, trivial⟩ ?_
        refine Run.brl (tgt := 63) dl_I_dynamicFault_48 d_I_dynamicFault_48 rfl (by decide) (fun c_6 => ?_) (fun c_6 => ?_)
        · have c_6 := (pk_lEQ (a := ((dyK t z (q + 1)) 8)) (b := 0) (by omega) (by decide)).mp c_6
          refine Run.blk (gs := [True]) (S' := ([some (.ref 6), some (.ref 1), none], [.int (1 : Int32)], Ac fp le lp lb il (sbf t) (nI z) bf rf fr mp sc (-1 : Int32) ib ie pw (nI q) (lN ((dyK t z (q + 1)) 7)) (lN ((dyK t z (q + 1)) 8)) (lN ((dyK t z (q + 1)) 9)) (lN ((dyK t z (q + 1)) 6)) (lN ((dyK t z (q + 1)) 11)) (0 : Int32) sg ex)) k_I_dynamicFault_63 kc_I_dynamicFault_63 rfl ⟨trivial, trivial⟩ ?_
          refine Run.goto (tgt := 68) d_I_dynamicFault_64 (by decide) ?_
          refine Run.blk (gs := [True, True]) (S' := ([some (.ref 6), some (.ref 1), some (.int (1 : Int32))], [.int (1 : Int32)], Ac fp le lp lb il (sbf t) (nI z) bf rf fr mp sc (-1 : Int32) ib ie pw (nI q) (lN ((dyK t z (q + 1)) 7)) (lN ((dyK t z (q + 1)) 8)) (lN ((dyK t z (q + 1)) 9)) (lN ((dyK t z (q + 1)) 6)) (lN ((dyK t z (q + 1)) 11)) (0 : Int32) sg ex)) k_I_dynamicFault_68 kc_I_dynamicFault_68 rfl ⟨trivial, trivial, trivial⟩ ?_
          refine Run.br (tgt := 84) d_I_dynamicFault_70 rfl (by decide) (fun c_7 => ?_) (fun c_7 => ?_)
          · have c_7 : ¬ (1 = 0) := fun w_ => c_7 ((nI_eq (a := 1) (b := 0) (by decide) (by decide)).mpr w_)
            refine Run.blk (gs := [True, True, True, True, ¬ (12 : Int64) = 0, True, True, True]) (S' := ([some (.ref 6), some (.ref 1), some (.int (1 : Int32))], [.int (0 : Int32)], Ac fp le lp lb il (sbf t) (nI z) bf rf fr mp sc (-1 : Int32) ib ie pw (nI q) (lN ((dyK t z (q + 1)) 7)) (lN ((dyK t z (q + 1)) 8)) (lN ((dyK t z (q + 1)) 9)) (lN ((dyK t z (q + 1)) 6)) (lN ((dyK t z (q + 1)) 11)) (((lN ((dyK t z (q + 1)) 8)) / (12 : Int64)).toInt32) sg ex)) k_I_dynamicFault_84 kc_I_dynamicFault_84 rfl ⟨trivial, trivial, trivial, trivial, (by decide), trivial, trivial, trivial, trivial⟩ ?_
            rw [show dyF (dyK t z (q + 1)) (q + 1) = (0, -1) by unfold dyF; rw [if_pos (by omega)]]
            exact Run.ret (r := some (.int (0 : Int32))) ⟨d_I_dynamicFault_98, _, rfl, rfl⟩ ⟨_, rfl, rfl, fun _ => by rw [show (12 : Int64) = lN 12 from rfl, pk_lDiv (by omega) (by decide) (by decide), lN_i]⟩
          · have c_7 := Classical.not_not.mp c_7
            have c_7 := (nI_eq (a := 1) (b := 0) (by decide) (by decide)).mp c_7
            exact absurd c_7 (by decide)
        · have c_6 : ¬ (((dyK t z (q + 1)) 8) = 0) := fun w_ => c_6 ((pk_lEQ (a := ((dyK t z (q + 1)) 8)) (b := 0) (by omega) (by decide)).mpr w_)
          refine Run.blk (gs := [True, True, True]) (S' := ([some (.ref 6), some (.ref 1), none], [.long (12 : Int64), .long (lN ((dyK t z (q + 1)) 9))], Ac fp le lp lb il (sbf t) (nI z) bf rf fr mp sc (-1 : Int32) ib ie pw (nI q) (lN ((dyK t z (q + 1)) 7)) (lN ((dyK t z (q + 1)) 8)) (lN ((dyK t z (q + 1)) 9)) (lN ((dyK t z (q + 1)) 6)) (lN ((dyK t z (q + 1)) 11)) (0 : Int32) sg ex)) k_I_dynamicFault_52 kc_I_dynamicFault_52 rfl ⟨trivial, trivial, trivial, trivial⟩ ?_
          refine Run.brl (tgt := 67) dl_I_dynamicFault_59 d_I_dynamicFault_59 rfl (by decide) (fun c_8 => ?_) (fun c_8 => ?_)
          · have c_8 : ¬ (((dyK t z (q + 1)) 9) = 12) := fun w_ => c_8 ((pk_lEQ (a := ((dyK t z (q + 1)) 9)) (b := 12) (by omega) (by decide)).mpr w_)
            refine Run.blk (gs := [True]) (S' := ([some (.ref 6), some (.ref 1), none], [.int (0 : Int32)], Ac fp le lp lb il (sbf t) (nI z) bf rf fr mp sc (-1 : Int32) ib ie pw (nI q) (lN ((dyK t z (q + 1)) 7)) (lN ((dyK t z (q + 1)) 8)) (lN ((dyK t z (q + 1)) 9)) (lN ((dyK t z (q + 1)) 6)) (lN ((dyK t z (q + 1)) 11)) (0 : Int32) sg ex)) k_I_dynamicFault_67 kc_I_dynamicFault_67 rfl ⟨trivial, trivial⟩ ?_
            refine Run.blk (gs := [True, True]) (S' := ([some (.ref 6), some (.ref 1), some (.int (0 : Int32))], [.int (0 : Int32)], Ac fp le lp lb il (sbf t) (nI z) bf rf fr mp sc (-1 : Int32) ib ie pw (nI q) (lN ((dyK t z (q + 1)) 7)) (lN ((dyK t z (q + 1)) 8)) (lN ((dyK t z (q + 1)) 9)) (lN ((dyK t z (q + 1)) 6)) (lN ((dyK t z (q + 1)) 11)) (0 : Int32) sg ex)) k_I_dynamicFault_68 kc_I_dynamicFault_68 rfl ⟨trivial, trivial, trivial⟩ ?_
            refine Run.br (tgt := 84) d_I_dynamicFault_70 rfl (by decide) (fun c_9 => ?_) (fun c_9 => ?_)
            · have c_9 : ¬ (0 = 0) := fun w_ => c_9 ((nI_eq (a := 0) (b := 0) (by decide) (by decide)).mpr w_)
              exact absurd c_9 (by decide)
            · have c_9 := Classical.not_not.mp c_9
              have c_9 := (nI_eq (a := 0) (b := 0) (by decide) (by decide)).mp c_9
              refine Run.blk (gs := [True, True, True, True]) (S' := ([some (.ref 6), some (.ref 1), some (.int (0 : Int32))], [.int (nI q), .int (19 : Int32), .ref 6], Ac fp le lp lb il (sbf t) (nI z) bf rf fr mp sc (-1 : Int32) ib ie pw (nI q) (lN ((dyK t z (q + 1)) 7)) (lN ((dyK t z (q + 1)) 8)) (lN ((dyK t z (q + 1)) 9)) (lN ((dyK t z (q + 1)) 6)) (lN ((dyK t z (q + 1)) 11)) (0 : Int32) sg ex)) k_I_dynamicFault_73 kc_I_dynamicFault_73 rfl ⟨trivial, trivial, trivial, trivial, trivial⟩ ?_
              refine Run.callV (b := 6) (As := [.int (19 : Int32), .int (nI q)]) (rest := []) v_I_dynamicFault_80 c_I_fault rfl (Nat.le_of_ble_eq_true rfl) rfl rfl rfl rfl (fun r cs' hp => ?_)
              obtain ⟨rfl, rfl⟩ := hp
              show Run _ _ _ _ 83 ([some (.ref 6), some (.ref 1), some (.int (0 : Int32))], [.int (19 : Int32)], Ac fp le lp lb il (sbf t) (nI z) bf rf fr mp sc (nI q) ib ie pw (nI q) (lN ((dyK t z (q + 1)) 7)) (lN ((dyK t z (q + 1)) 8)) (lN ((dyK t z (q + 1)) 9)) (lN ((dyK t z (q + 1)) 6)) (lN ((dyK t z (q + 1)) 11)) (0 : Int32) sg ex) _
              rw [show dyF (dyK t z (q + 1)) (q + 1) = (19, nI q) by unfold dyF; rw [if_neg (by omega)]; rfl]
              exact Run.ret (r := some (.int (19 : Int32))) ⟨d_I_dynamicFault_83, _, rfl, rfl⟩ ⟨_, rfl, rfl, fun w => absurd (show (19 : Int32) = 0 from w) (by decide)⟩
          · have c_8 := Classical.not_not.mp c_8
            have c_8 := (pk_lEQ (a := ((dyK t z (q + 1)) 9)) (b := 12) (by omega) (by decide)).mp c_8
            refine Run.blk (gs := [True]) (S' := ([some (.ref 6), some (.ref 1), none], [.int (1 : Int32)], Ac fp le lp lb il (sbf t) (nI z) bf rf fr mp sc (-1 : Int32) ib ie pw (nI q) (lN ((dyK t z (q + 1)) 7)) (lN ((dyK t z (q + 1)) 8)) (lN ((dyK t z (q + 1)) 9)) (lN ((dyK t z (q + 1)) 6)) (lN ((dyK t z (q + 1)) 11)) (0 : Int32) sg ex)) k_I_dynamicFault_63 kc_I_dynamicFault_63 rfl ⟨trivial, trivial⟩ ?_
            refine Run.goto (tgt := 68) d_I_dynamicFault_64 (by decide) ?_
            refine Run.blk (gs := [True, True]) (S' := ([some (.ref 6), some (.ref 1), some (.int (1 : Int32))], [.int (1 : Int32)], Ac fp le lp lb il (sbf t) (nI z) bf rf fr mp sc (-1 : Int32) ib ie pw (nI q) (lN ((dyK t z (q + 1)) 7)) (lN ((dyK t z (q + 1)) 8)) (lN ((dyK t z (q + 1)) 9)) (lN ((dyK t z (q + 1)) 6)) (lN ((dyK t z (q + 1)) 11)) (0 : Int32) sg ex)) k_I_dynamicFault_68 kc_I_dynamicFault_68 rfl ⟨trivial, trivial, trivial⟩ ?_
            refine Run.br (tgt := 84) d_I_dynamicFault_70 rfl (by decide) (fun c_10 => ?_) (fun c_10 => ?_)
            · have c_10 : ¬ (1 = 0) := fun w_ => c_10 ((nI_eq (a := 1) (b := 0) (by decide) (by decide)).mpr w_)
              refine Run.blk (gs := [True, True, True, True, ¬ (12 : Int64) = 0, True, True, True]) (S' := ([some (.ref 6), some (.ref 1), some (.int (1 : Int32))], [.int (0 : Int32)], Ac fp le lp lb il (sbf t) (nI z) bf rf fr mp sc (-1 : Int32) ib ie pw (nI q) (lN ((dyK t z (q + 1)) 7)) (lN ((dyK t z (q + 1)) 8)) (lN ((dyK t z (q + 1)) 9)) (lN ((dyK t z (q + 1)) 6)) (lN ((dyK t z (q + 1)) 11)) (((lN ((dyK t z (q + 1)) 8)) / (12 : Int64)).toInt32) sg ex)) k_I_dynamicFault_84 kc_I_dynamicFault_84 rfl ⟨trivial, trivial, trivial, trivial, (by decide), trivial, trivial, trivial, trivial⟩ ?_
              rw [show dyF (dyK t z (q + 1)) (q + 1) = (0, -1) by unfold dyF; rw [if_pos (by omega)]]
              exact Run.ret (r := some (.int (0 : Int32))) ⟨d_I_dynamicFault_98, _, rfl, rfl⟩ ⟨_, rfl, rfl, fun _ => by rw [show (12 : Int64) = lN 12 from rfl, pk_lDiv (by omega) (by decide) (by decide), lN_i]⟩
            · have c_10 := Classical.not_not.mp c_10
              have c_10 := (nI_eq (a := 1) (b := 0) (by decide) (by decide)).mp c_10
              exact absurd c_10 (by decide)
  · have c_1 := Classical.not_not.mp c_1
    exact absurd c_1 (nI_m1n (by omega))
theorem dyK_0 : dyK t z 0 = fun _ => 0 := if_pos rfl
theorem dyF_0 : dyF (fun _ => 0) 0 = (0, -1) := by unfold dyF; exact if_pos ⟨rfl, Nat.zero_le _, Or.inl rfl⟩
set_option maxRecDepth 100000 in
set_option maxHeartbeats 4000000 in
theorem c_I_dynamicFault_0  : Ct m_I_dynamicFault 0 0 [.ref 6, .ref 1] (Ac fp le lp lb il (sbf t) (nI z) bf rf fr mp sc (-1 : Int32) ib ie pw (-1 : Int32) (0 : Int64) (0 : Int64) (0 : Int64) (0 : Int64) (0 : Int64) (0 : Int32) sg ex) (fun r cs' => ∃ rc', r = some (.int (dyF (dyK t z 0) 0).1) ∧ cs' = Ac fp le lp lb il (sbf t) (nI z) bf rf fr mp sc ((dyF (dyK t z 0) 0).2) ib ie pw (-1 : Int32) (lN ((dyK t z 0) 7)) (lN ((dyK t z 0) 8)) (lN ((dyK t z 0) 9)) (lN ((dyK t z 0) 6)) (lN ((dyK t z 0) 11)) (rc') sg ex ∧ ((dyF (dyK t z 0) 0).1 = 0 → rc' = nI ((dyK t z 0) 8 / 12))) := by
  refine Ct.of ⟨by decide +kernel, rfl⟩ (Nat.le_of_ble_eq_true rfl) (lv := [some (.ref 6), some (.ref 1), none]) rfl ?_
  refine Run.blk (gs := [True, True, True]) (S' := ([some (.ref 6), some (.ref 1), none], [.int (-1 : Int32), .int (-1 : Int32)], Ac fp le lp lb il (sbf t) (nI z) bf rf fr mp sc (-1 : Int32) ib ie pw (-1 : Int32) (0 : Int64) (0 : Int64) (0 : Int64) (0 : Int64) (0 : Int64) (0 : Int32) sg ex)) k_I_dynamicFault_0 kc_I_dynamicFault_0 rfl ⟨trivial, trivial, trivial, trivial⟩ ?_
  refine Run.br (tgt := 10) d_I_dynamicFault_5 rfl (by decide) (fun c_1 => ?_) (fun c_1 => ?_)
  · exact absurd rfl c_1
  · have c_1 := Classical.not_not.mp c_1
    refine Run.blk (gs := [True]) (S' := ([some (.ref 6), some (.ref 1), none], [.int (0 : Int32)], Ac fp le lp lb il (sbf t) (nI z) bf rf fr mp sc (-1 : Int32) ib ie pw (-1 : Int32) (0 : Int64) (0 : Int64) (0 : Int64) (0 : Int64) (0 : Int64) (0 : Int32) sg ex)) k_I_dynamicFault_8 kc_I_dynamicFault_8 rfl ⟨trivial, trivial⟩ ?_
    rw [dyK_0, dyF_0]
    exact Run.ret (r := some (.int (0 : Int32))) ⟨d_I_dynamicFault_9, _, rfl, rfl⟩ ⟨_, rfl, rfl, fun _ => rfl⟩
theorem c_I_dynamicFault (ht : ∀ k, t k < 256) (hz : z ≤ 900) {D : Nat} (hD : Dv t z D) : Ct m_I_dynamicFault 0 0 [.ref 6, .ref 1] (Ac fp le lp lb il (sbf t) (nI z) bf rf fr mp sc (-1 : Int32) ib ie pw (dhv D) (0 : Int64) (0 : Int64) (0 : Int64) (0 : Int64) (0 : Int64) (0 : Int32) sg ex) (fun r cs' => ∃ rc', r = some (.int (dyF (dyK t z D) D).1) ∧ cs' = Ac fp le lp lb il (sbf t) (nI z) bf rf fr mp sc ((dyF (dyK t z D) D).2) ib ie pw (dhv D) (lN ((dyK t z D) 7)) (lN ((dyK t z D) 8)) (lN ((dyK t z D) 9)) (lN ((dyK t z D) 6)) (lN ((dyK t z D) 11)) (rc') sg ex ∧ ((dyF (dyK t z D) D).1 = 0 → rc' = nI ((dyK t z D) 8 / 12))) := by
  rcases hD with rfl | ⟨h1, h2, h3⟩
  · exact c_I_dynamicFault_0
  · obtain ⟨q, rfl⟩ : ∃ q, D = q + 1 := ⟨D - 1, by omega⟩
    rw [Nat.add_sub_cancel] at h2 h3
    rw [dhv_s]
    exact c_I_dynamicFault_1 ht hz h2 h3
end P36
