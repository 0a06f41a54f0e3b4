section P29
variable {fp le lp lb il : Int32} {tf bf rf : Nat → Int32} {tz fr mp sc ifp ib ie pw dh rc : Int32} {rl rb re sy sb : Int64} {sg : Nat → A_G} {ex : List va_E}
variable {cs : List va_E} {q q2 n j : Nat} {O Ad St Fi He Al O2 Ad2 St2 Fi2 He2 Al2 : Nat} {fl fl2 : Int32}
variable {t b : Nat → Nat} {z : Nat}
def updG (sg : Nat → A_G) (j : Nat) (g : A_G) : Nat → A_G := fun k => if k = j then g else sg k
theorem updG_2 (sg : Nat → A_G) (j : Nat) (g h : A_G) : updG (updG sg j g) j h = updG sg j h := by
  funext k; unfold updG; split <;> rfl
theorem updG_s (sg : Nat → A_G) (j : Nat) (g : A_G) : updG sg j g j = g := if_pos rfl
theorem Ac_seg (hj : j < 8) : vm_g (Ac fp le lp lb il tf tz bf rf fr mp sc ifp ib ie pw dh rl rb re sy sb rc sg ex) (8 + j) = some (Ag (sg j)) := by
  have : j = 0 ∨ j = 1 ∨ j = 2 ∨ j = 3 ∨ j = 4 ∨ j = 5 ∨ j = 6 ∨ j = 7 := by omega
  rcases this with rfl | rfl | rfl | rfl | rfl | rfl | rfl | rfl <;> rfl
theorem Ac_set (hj : j < 8) (g : A_G) : vm_u (Ac fp le lp lb il tf tz bf rf fr mp sc ifp ib ie pw dh rl rb re sy sb rc sg ex) (8 + j) (Ag g) = Ac fp le lp lb il tf tz bf rf fr mp sc ifp ib ie pw dh rl rb re sy sb rc (updG sg j g) ex := by
  have : j = 0 ∨ j = 1 ∨ j = 2 ∨ j = 3 ∨ j = 4 ∨ j = 5 ∨ j = 6 ∨ j = 7 := by omega
  rcases this with rfl | rfl | rfl | rfl | rfl | rfl | rfl | rfl <;> rfl
theorem Ac_segU (hj : j < 8) (g : A_G) : vm_g (Ac fp le lp lb il tf tz bf rf fr mp sc ifp ib ie pw dh rl rb re sy sb rc (updG sg j g) ex) (8 + j) = some (Ag g) := by
  rw [Ac_seg hj, updG_s]
theorem Ac_pf {k pl idx : Nat} {v : Value} {g : A_G} {lv : List (Option Value)} {st : List Value} (hj : j < 8) (hk : Nat.blt k 7 = true) (hv : vm_fit (G_ft 1 k) v = true) (hg : (Sum.inr (1, vm_u [.long (sg j).1, .long (sg j).2.1, .long (sg j).2.2.1, .long (sg j).2.2.2.1, .long (sg j).2.2.2.2.1, .long (sg j).2.2.2.2.2.1, .int (sg j).2.2.2.2.2.2] k v) : va_E) = Ag g) : vm_x [.inr (.inr (.inl (1, pl, idx, 1, k)))] (lv, v :: .ref (8 + j) :: st, Ac fp le lp lb il tf tz bf rf fr mp sc ifp ib ie pw dh rl rb re sy sb rc sg ex) = some ([True], lv, st, Ac fp le lp lb il tf tz bf rf fr mp sc ifp ib ie pw dh rl rb re sy sb rc (updG sg j g) ex) := by
  rw [vm_x_pf (Ac_seg hj) hk hv, hg, Ac_set hj]
theorem AcU_pf {k pl idx : Nat} {v : Value} {g h : A_G} {lv : List (Option Value)} {st : List Value} (hj : j < 8) (hk : Nat.blt k 7 = true) (hv : vm_fit (G_ft 1 k) v = true) (hg : (Sum.inr (1, vm_u [.long g.1, .long g.2.1, .long g.2.2.1, .long g.2.2.2.1, .long g.2.2.2.2.1, .long g.2.2.2.2.2.1, .int g.2.2.2.2.2.2] k v) : va_E) = Ag h) : vm_x [.inr (.inr (.inl (1, pl, idx, 1, k)))] (lv, v :: .ref (8 + j) :: st, Ac fp le lp lb il tf tz bf rf fr mp sc ifp ib ie pw dh rl rb re sy sb rc (updG sg j g) ex) = some ([True], lv, st, Ac fp le lp lb il tf tz bf rf fr mp sc ifp ib ie pw dh rl rb re sy sb rc (updG sg j h) ex) := by
  rw [vm_x_pf (Ac_segU hj g) hk hv, hg, Ac_set hj, updG_2]
theorem pgA_lt {St He : Nat} (h : St < 2 ^ 33) : pgA St He < 2 ^ 31 := by
  unfold pgA; split
  · decide
  · omega
theorem pgY_lt {St He a : Nat} (hs : St + He < 2 ^ 36) (ha : a < 2 ^ 31) : pgY St He < nI a ↔ pgC St He ≤ a := nI_gt (pgY_t hs) ha
set_option maxRecDepth 100000 in
set_option maxHeartbeats 4000000 in
theorem c_S_sharesPageWith (hq : vm_g cs q = some (pSeg O Ad St Fi He Al fl)) (hq2 : vm_g cs q2 = some (pSeg O2 Ad2 St2 Fi2 He2 Al2 fl2)) (hO : O < 2 ^ 32) (hAd : Ad < 2 ^ 32) (hSt : St < 2 ^ 33) (hHe : He < 2 ^ 32) (hAl : Al < 2 ^ 32) (hO2 : O2 < 2 ^ 32) (hAd2 : Ad2 < 2 ^ 32) (hSt2 : St2 < 2 ^ 33) (hHe2 : He2 < 2 ^ 32) (hAl2 : Al2 < 2 ^ 32) : Ct m_S_sharesPageWith 0 0 [.ref q, .ref q2] (cs) (vm_is (some (.int (if pgA St He < pgC St2 He2 ∧ pgA St2 He2 < pgC St He then 1 else 0))) (cs)) := by
  refine Ct.of ⟨by decide +kernel, rfl⟩ (Nat.le_of_ble_eq_true rfl) (lv := [some (.ref q), some (.ref q2)]) rfl ?_
  refine Run.blk (gs := [True]) (S' := ([some (.ref q), some (.ref q2)], [.ref q], cs)) k_S_sharesPageWith_0 kc_S_sharesPageWith_0 rfl ⟨trivial, trivial⟩ ?_
  refine Run.callV (b := q) (As := []) (rest := []) v_S_sharesPageWith_1 (c_S_firstPage hq hO hAd hSt hHe hAl) rfl (Nat.le_of_ble_eq_true rfl) rfl hq rfl rfl (fun r cs' hp => ?_)
  obtain ⟨rfl, hcs⟩ := hp
  rw [hcs]
  show Run _ _ _ _ 4 ([some (.ref q), some (.ref q2)], [.int (nI (pgA St He))], cs) _
  refine Run.blk (gs := [True]) (S' := ([some (.ref q), some (.ref q2)], [.ref q2, .int (nI (pgA St He))], cs)) k_S_sharesPageWith_4 kc_S_sharesPageWith_4 rfl ⟨trivial, trivial⟩ ?_
  refine Run.callV (b := q2) (As := []) (rest := [.int (nI (pgA St He))]) v_S_sharesPageWith_5 (c_S_lastPage hq2 hO2 hAd2 hSt2 hHe2 hAl2) rfl (Nat.le_of_ble_eq_true rfl) rfl hq2 rfl rfl (fun r cs' hp => ?_)
  obtain ⟨rfl, hcs⟩ := hp
  rw [hcs]
  show Run _ _ _ _ 8 ([some (.ref q), some (.ref q2)], [.int (pgY St2 He2), .int (nI (pgA St He))], cs) _
  refine Run.br (tgt := 26) d_S_sharesPageWith_8 rfl (by decide) (fun c_1 => ?_) (fun c_1 => ?_)
  · rw [pgY_lt (by omega) (pgA_lt (by omega))] at c_1
    refine Run.blk (gs := [True]) (S' := ([some (.ref q), some (.ref q2)], [.int (0 : Int32)], cs)) k_S_sharesPageWith_26 kc_S_sharesPageWith_26 rfl ⟨trivial, trivial⟩ ?_
    exact Run.ret (r := some (.int (0 : Int32))) ⟨d_S_sharesPageWith_27, _, rfl, rfl⟩ ⟨by rw [if_neg (by omega)], rfl⟩
  · rw [pgY_lt (by omega) (pgA_lt (by omega))] at c_1
    refine Run.blk (gs := [True]) (S' := ([some (.ref q), some (.ref q2)], [.ref q2], cs)) k_S_sharesPageWith_11 kc_S_sharesPageWith_11 rfl ⟨trivial, trivial⟩ ?_
    refine Run.callV (b := q2) (As := []) (rest := []) v_S_sharesPageWith_12 (c_S_firstPage hq2 hO2 hAd2 hSt2 hHe2 hAl2) rfl (Nat.le_of_ble_eq_true rfl) rfl hq2 rfl rfl (fun r cs' hp => ?_)
    obtain ⟨rfl, hcs⟩ := hp
    rw [hcs]
    show Run _ _ _ _ 15 ([some (.ref q), some (.ref q2)], [.int (nI (pgA St2 He2))], cs) _
    refine Run.blk (gs := [True]) (S' := ([some (.ref q), some (.ref q2)], [.ref q, .int (nI (pgA St2 He2))], cs)) k_S_sharesPageWith_15 kc_S_sharesPageWith_15 rfl ⟨trivial, trivial⟩ ?_
    refine Run.callV (b := q) (As := []) (rest := [.int (nI (pgA St2 He2))]) v_S_sharesPageWith_16 (c_S_lastPage hq hO hAd hSt hHe hAl) rfl (Nat.le_of_ble_eq_true rfl) rfl hq rfl rfl (fun r cs' hp => ?_)
    obtain ⟨rfl, hcs⟩ := hp
    rw [hcs]
    show Run _ _ _ _ 19 ([some (.ref q), some (.ref q2)], [.int (pgY St He), .int (nI (pgA St2 He2))], cs) _
    refine Run.br (tgt := 26) d_S_sharesPageWith_19 rfl (by decide) (fun c_2 => ?_) (fun c_2 => ?_)
    · rw [pgY_lt (by omega) (pgA_lt (by omega))] at c_2
      refine Run.blk (gs := [True]) (S' := ([some (.ref q), some (.ref q2)], [.int (0 : Int32)], cs)) k_S_sharesPageWith_26 kc_S_sharesPageWith_26 rfl ⟨trivial, trivial⟩ ?_
      exact Run.ret (r := some (.int (0 : Int32))) ⟨d_S_sharesPageWith_27, _, rfl, rfl⟩ ⟨by rw [if_neg (by omega)], rfl⟩
    · rw [pgY_lt (by omega) (pgA_lt (by omega))] at c_2
      refine Run.blk (gs := [True]) (S' := ([some (.ref q), some (.ref q2)], [.int (1 : Int32)], cs)) k_S_sharesPageWith_22 kc_S_sharesPageWith_22 rfl ⟨trivial, trivial⟩ ?_
      refine Run.goto (tgt := 27) d_S_sharesPageWith_23 (by decide) ?_
      exact Run.ret (r := some (.int (1 : Int32))) ⟨d_S_sharesPageWith_27, _, rfl, rfl⟩ ⟨by rw [if_pos (by omega)], rfl⟩
def gN (t : Nat → Nat) (z p B : Nat) : A_G := (lN (wN t z (p + 4)), lN (wN t z (p + 8)), lN (wN t z (p + 8) + B), lN (wN t z (p + 16)), lN (wN t z (p + 20)), lN (wN t z (p + 28)), nI (wN t z (p + 24) % 8))
theorem and7 (a : Nat) : (lN a).toInt32 &&& 7 = nI (a % 8) := by
  rw [lN_i, pk_and (nI a) (m := 7) 3 (by decide)]
  congr 1
  show (BitVec.ofNat 32 a).toNat % 8 = a % 8
  rw [BitVec.toNat_ofNat]; omega
set_option maxRecDepth 100000 in
set_option maxHeartbeats 4000000 in
theorem c_S_take (hj : j < 8) (ht : ∀ k, t k < 256) (hz : z ≤ 900) {p B : Nat} {x y : Int32} (hx : x = nI p) (hy : y = nI B) (hp : p < 2 ^ 29) (hB : B < 2 ^ 30) : Ct m_S_take 0 0 [.ref (8 + j), .ref 1, .int x, .int y] (Ac fp le lp lb il (sbf t) (nI z) bf rf fr mp sc ifp ib ie pw dh rl rb re sy sb rc sg ex) (vm_is none (Ac fp le lp lb il (sbf t) (nI z) bf rf fr mp sc ifp ib ie pw dh rl rb re sy sb rc (updG sg j (gN t z p B)) ex)) := by
  subst hx
  subst hy
  refine Ct.of ⟨by decide +kernel, rfl⟩ (Nat.le_of_ble_eq_true rfl) (lv := [some (.ref (8 + j)), some (.ref 1), some (.int (nI p)), some (.int (nI B))]) rfl ?_
  refine Run.blk (gs := [True, True, True, True, True]) (S' := ([some (.ref (8 + j)), some (.ref 1), some (.int (nI p)), some (.int (nI B))], [.int ((nI p) + (4 : Int32)), .ref 1, .ref (8 + j)], Ac fp le lp lb il (sbf t) (nI z) bf rf fr mp sc ifp ib ie pw dh rl rb re sy sb rc sg ex)) k_S_take_0 kc_S_take_0 rfl ⟨trivial, trivial, trivial, trivial, trivial, trivial⟩ ?_
  refine Run.callV (b := 1) (As := [.int ((nI p) + (4 : Int32))]) (rest := [.ref (8 + j)]) v_S_take_5 (c_T_word ht hz (p := p + 4) (nI_add p 4) (by omega)) rfl (Nat.le_of_ble_eq_true rfl) rfl rfl rfl rfl (fun r cs' hp => ?_)
  obtain ⟨rfl, rfl⟩ := hp
  show Run _ _ _ _ 8 ([some (.ref (8 + j)), some (.ref 1), some (.int (nI p)), some (.int (nI B))], [.long (lN (wN t z (p + 4))), .ref (8 + j)], Ac fp le lp lb il (sbf t) (nI z) bf rf fr mp sc ifp ib ie pw dh rl rb re sy sb rc sg ex) _
  refine Run.blk (S' := ([some (.ref (8 + j)), some (.ref 1), some (.int (nI p)), some (.int (nI B))], [], Ac fp le lp lb il (sbf t) (nI z) bf rf fr mp sc ifp ib ie pw dh rl rb re sy sb rc (updG sg j ((lN (wN t z (p + 4))), (sg j).2.1, (sg j).2.2.1, (sg j).2.2.2.1, (sg j).2.2.2.2.1, (sg j).2.2.2.2.2.1, (sg j).2.2.2.2.2.2)) ex)) k_S_take_8 kc_S_take_8 (Ac_pf hj rfl rfl rfl) ⟨trivial, trivial⟩ ?_
  refine Run.blk (gs := [True, True, True, True, True]) (S' := ([some (.ref (8 + j)), some (.ref 1), some (.int (nI p)), some (.int (nI B))], [.int ((nI p) + (8 : Int32)), .ref 1, .ref (8 + j)], Ac fp le lp lb il (sbf t) (nI z) bf rf fr mp sc ifp ib ie pw dh rl rb re sy sb rc (updG sg j ((lN (wN t z (p + 4))), (sg j).2.1, (sg j).2.2.1, (sg j).2.2.2.1, (sg j).2.2.2.2.1, (sg j).2.2.2.2.2.1, (sg j).2.2.2.2.2.2)) ex)) k_S_take_11 kc_S_take_11 rfl ⟨trivial, trivial, trivial, trivial, trivial, trivial⟩ ?_
  refine Run.callV (b := 1) (As := [.int ((nI p) + (8 : Int32))]) (rest := [.ref (8 + j)]) v_S_take_17 (c_T_word ht hz (p := p + 8) (nI_add p 8) (by omega)) rfl (Nat.le_of_ble_eq_true rfl) rfl rfl rfl rfl (fun r cs' hp => ?_)
  obtain ⟨rfl, rfl⟩ := hp
  show Run _ _ _ _ 20 ([some (.ref (8 + j)), some (.ref 1), some (.int (nI p)), some (.int (nI B))], [.long (lN (wN t z (p + 8))), .ref (8 + j)], Ac fp le lp lb il (sbf t) (nI z) bf rf fr mp sc ifp ib ie pw dh rl rb re sy sb rc (updG sg j ((lN (wN t z (p + 4))), (sg j).2.1, (sg j).2.2.1, (sg j).2.2.2.1, (sg j).2.2.2.2.1, (sg j).2.2.2.2.2.1, (sg j).2.2.2.2.2.2)) ex) _
  refine Run.blk (S' := ([some (.ref (8 + j)), some (.ref 1), some (.int (nI p)), some (.int (nI B))], [], Ac fp le lp lb il (sbf t) (nI z) bf rf fr mp sc ifp ib ie pw dh rl rb re sy sb rc (updG sg j ((lN (wN t z (p + 4))), (lN (wN t z (p + 8))), (sg j).2.2.1, (sg j).2.2.2.1, (sg j).2.2.2.2.1, (sg j).2.2.2.2.2.1, (sg j).2.2.2.2.2.2)) ex)) k_S_take_20 kc_S_take_20 (AcU_pf hj rfl rfl rfl) ⟨trivial, trivial⟩ ?_
  refine Run.blk (gs := [True, True]) (S' := ([some (.ref (8 + j)), some (.ref 1), some (.int (nI p)), some (.int (nI B))], [.ref (8 + j), .ref (8 + j)], Ac fp le lp lb il (sbf t) (nI z) bf rf fr mp sc ifp ib ie pw dh rl rb re sy sb rc (updG sg j ((lN (wN t z (p + 4))), (lN (wN t z (p + 8))), (sg j).2.2.1, (sg j).2.2.2.1, (sg j).2.2.2.2.1, (sg j).2.2.2.2.2.1, (sg j).2.2.2.2.2.2)) ex)) k_S_take_23 kc_S_take_23 rfl ⟨trivial, trivial, trivial⟩ ?_
  refine Run.blk (S' := ([some (.ref (8 + j)), some (.ref 1), some (.int (nI p)), some (.int (nI B))], [.long (lN (wN t z (p + 8))), .ref (8 + j)], Ac fp le lp lb il (sbf t) (nI z) bf rf fr mp sc ifp ib ie pw dh rl rb re sy sb rc (updG sg j ((lN (wN t z (p + 4))), (lN (wN t z (p + 8))), (sg j).2.2.1, (sg j).2.2.2.1, (sg j).2.2.2.2.1, (sg j).2.2.2.2.2.1, (sg j).2.2.2.2.2.2)) ex)) k_S_take_25 kc_S_take_25 (vm_x_gf (by decide) (Ac_segU hj _) rfl) ⟨trivial, trivial⟩ ?_
  refine Run.blk (gs := [True, True, True]) (S' := ([some (.ref (8 + j)), some (.ref 1), some (.int (nI p)), some (.int (nI B))], [.long ((lN (wN t z (p + 8))) + ((nI B).toInt64)), .ref (8 + j)], Ac fp le lp lb il (sbf t) (nI z) bf rf fr mp sc ifp ib ie pw dh rl rb re sy sb rc (updG sg j ((lN (wN t z (p + 4))), (lN (wN t z (p + 8))), (sg j).2.2.1, (sg j).2.2.2.1, (sg j).2.2.2.2.1, (sg j).2.2.2.2.2.1, (sg j).2.2.2.2.2.2)) ex)) k_S_take_28 kc_S_take_28 rfl ⟨trivial, trivial, trivial, trivial⟩ ?_
  refine Run.blk (S' := ([some (.ref (8 + j)), some (.ref 1), some (.int (nI p)), some (.int (nI B))], [], Ac fp le lp lb il (sbf t) (nI z) bf rf fr mp sc ifp ib ie pw dh rl rb re sy sb rc (updG sg j ((lN (wN t z (p + 4))), (lN (wN t z (p + 8))), ((lN (wN t z (p + 8))) + ((nI B).toInt64)), (sg j).2.2.2.1, (sg j).2.2.2.2.1, (sg j).2.2.2.2.2.1, (sg j).2.2.2.2.2.2)) ex)) k_S_take_31 kc_S_take_31 (AcU_pf hj rfl rfl rfl) ⟨trivial, trivial⟩ ?_
  refine Run.blk (gs := [True, True, True, True, True]) (S' := ([some (.ref (8 + j)), some (.ref 1), some (.int (nI p)), some (.int (nI B))], [.int ((nI p) + (16 : Int32)), .ref 1, .ref (8 + j)], Ac fp le lp lb il (sbf t) (nI z) bf rf fr mp sc ifp ib ie pw dh rl rb re sy sb rc (updG sg j ((lN (wN t z (p + 4))), (lN (wN t z (p + 8))), ((lN (wN t z (p + 8))) + ((nI B).toInt64)), (sg j).2.2.2.1, (sg j).2.2.2.2.1, (sg j).2.2.2.2.2.1, (sg j).2.2.2.2.2.2)) ex)) k_S_take_34 kc_S_take_34 rfl ⟨trivial, trivial, trivial, trivial, trivial, trivial⟩ ?_
  refine Run.callV (b := 1) (As := [.int ((nI p) + (16 : Int32))]) (rest := [.ref (8 + j)]) v_S_take_40 (c_T_word ht hz (p := p + 16) (nI_add p 16) (by omega)) rfl (Nat.le_of_ble_eq_true rfl) rfl rfl rfl rfl (fun r cs' hp => ?_)
  obtain ⟨rfl, rfl⟩ := hp
  show Run _ _ _ _ 43 ([some (.ref (8 + j)), some (.ref 1), some (.int (nI p)), some (.int (nI B))], [.long (lN (wN t z (p + 16))), .ref (8 + j)], Ac fp le lp lb il (sbf t) (nI z) bf rf fr mp sc ifp ib ie pw dh rl rb re sy sb rc (updG sg j ((lN (wN t z (p + 4))), (lN (wN t z (p + 8))), ((lN (wN t z (p + 8))) + ((nI B).toInt64)), (sg j).2.2.2.1, (sg j).2.2.2.2.1, (sg j).2.2.2.2.2.1, (sg j).2.2.2.2.2.2)) ex) _
  refine Run.blk (S' := ([some (.ref (8 + j)), some (.ref 1), some (.int (nI p)), some (.int (nI B))], [], Ac fp le lp lb il (sbf t) (nI z) bf rf fr mp sc ifp ib ie pw dh rl rb re sy sb rc (updG sg j ((lN (wN t z (p + 4))), (lN (wN t z (p + 8))), ((lN (wN t z (p + 8))) + ((nI B).toInt64)), (lN (wN t z (p + 16))), (sg j).2.2.2.2.1, (sg j).2.2.2.2.2.1, (sg j).2.2.2.2.2.2)) ex)) k_S_take_43 kc_S_take_43 (AcU_pf hj rfl rfl rfl) ⟨trivial, trivial⟩ ?_
  refine Run.blk (gs := [True, True, True, True, True]) (S' := ([some (.ref (8 + j)), some (.ref 1), some (.int (nI p)), some (.int (nI B))], [.int ((nI p) + (20 : Int32)), .ref 1, .ref (8 + j)], Ac fp le lp lb il (sbf t) (nI z) bf rf fr mp sc ifp ib ie pw dh rl rb re sy sb rc (updG sg j ((lN (wN t z (p + 4))), (lN (wN t z (p + 8))), ((lN (wN t z (p + 8))) + ((nI B).toInt64)), (lN (wN t z (p + 16))), (sg j).2.2.2.2.1, (sg j).2.2.2.2.2.1, (sg j).2.2.2.2.2.2)) ex)) k_S_take_46 kc_S_take_46 rfl ⟨trivial, trivial, trivial, trivial, trivial, trivial⟩ ?_
  refine Run.callV (b := 1) (As := [.int ((nI p) + (20 : Int32))]) (rest := [.ref (8 + j)]) v_S_take_52 (c_T_word ht hz (p := p + 20) (nI_add p 20) (by omega)) rfl (Nat.le_of_ble_eq_true rfl) rfl rfl rfl rfl (fun r cs' hp => ?_)
  obtain ⟨rfl, rfl⟩ := hp
  show Run _ _ _ _ 55 ([some (.ref (8 + j)), some (.ref 1), some (.int (nI p)), some (.int (nI B))], [.long (lN (wN t z (p + 20))), .ref (8 + j)], Ac fp le lp lb il (sbf t) (nI z) bf rf fr mp sc ifp ib ie pw dh rl rb re sy sb rc (updG sg j ((lN (wN t z (p + 4))), (lN (wN t z (p + 8))), ((lN (wN t z (p + 8))) + ((nI B).toInt64)), (lN (wN t z (p + 16))), (sg j).2.2.2.2.1, (sg j).2.2.2.2.2.1, (sg j).2.2.2.2.2.2)) ex) _
  refine Run.blk (S' := ([some (.ref (8 + j)), some (.ref 1), some (.int (nI p)), some (.int (nI B))], [], Ac fp le lp lb il (sbf t) (nI z) bf rf fr mp sc ifp ib ie pw dh rl rb re sy sb rc (updG sg j ((lN (wN t z (p + 4))), (lN (wN t z (p + 8))), ((lN (wN t z (p + 8))) + ((nI B).toInt64)), (lN (wN t z (p + 16))), (lN (wN t z (p + 20))), (sg j).2.2.2.2.2.1, (sg j).2.2.2.2.2.2)) ex)) k_S_take_55 kc_S_take_55 (AcU_pf hj rfl rfl rfl) ⟨trivial, trivial⟩ ?_
  refine Run.blk (gs := [True, True, True, True, True]) (S' := ([some (.ref (8 + j)), some (.ref 1), some (.int (nI p)), some (.int (nI B))], [.int ((nI p) + (24 : Int32)), .ref 1, .ref (8 + j)], Ac fp le lp lb il (sbf t) (nI z) bf rf fr mp sc ifp ib ie pw dh rl rb re sy sb rc (updG sg j ((lN (wN t z (p + 4))), (lN (wN t z (p + 8))), ((lN (wN t z (p + 8))) + ((nI B).toInt64)), (lN (wN t z (p + 16))), (lN (wN t z (p + 20))), (sg j).2.2.2.2.2.1, (sg j).2.2.2.2.2.2)) ex)) k_S_take_58 kc_S_take_58 rfl ⟨trivial, trivial, trivial, trivial, trivial, trivial⟩ ?_
  refine Run.callV (b := 1) (As := [.int ((nI p) + (24 : Int32))]) (rest := [.ref (8 + j)]) v_S_take_64 (c_T_word ht hz (p := p + 24) (nI_add p 24) (by omega)) rfl (Nat.le_of_ble_eq_true rfl) rfl rfl rfl rfl (fun r cs' hp => ?_)
  obtain ⟨rfl, rfl⟩ := hp
  show Run _ _ _ _ 67 ([some (.ref (8 + j)), some (.ref 1), some (.int (nI p)), some (.int (nI B))], [.long (lN (wN t z (p + 24))), .ref (8 + j)], Ac fp le lp lb il (sbf t) (nI z) bf rf fr mp sc ifp ib ie pw dh rl rb re sy sb rc (updG sg j ((lN (wN t z (p + 4))), (lN (wN t z (p + 8))), ((lN (wN t z (p + 8))) + ((nI B).toInt64)), (lN (wN t z (p + 16))), (lN (wN t z (p + 20))), (sg j).2.2.2.2.2.1, (sg j).2.2.2.2.2.2)) ex) _
  refine Run.blk (gs := [True, True, True]) (S' := ([some (.ref (8 + j)), some (.ref 1), some (.int (nI p)), some (.int (nI B))], [.int (((lN (wN t z (p + 24))).toInt32) &&& (7 : Int32)), .ref (8 + j)], Ac fp le lp lb il (sbf t) (nI z) bf rf fr mp sc ifp ib ie pw dh rl rb re sy sb rc (updG sg j ((lN (wN t z (p + 4))), (lN (wN t z (p + 8))), ((lN (wN t z (p + 8))) + ((nI B).toInt64)), (lN (wN t z (p + 16))), (lN (wN t z (p + 20))), (sg j).2.2.2.2.2.1, (sg j).2.2.2.2.2.2)) ex)) k_S_take_67 kc_S_take_67 rfl ⟨trivial, trivial, trivial, trivial⟩ ?_
  refine Run.blk (S' := ([some (.ref (8 + j)), some (.ref 1), some (.int (nI p)), some (.int (nI B))], [], Ac fp le lp lb il (sbf t) (nI z) bf rf fr mp sc ifp ib ie pw dh rl rb re sy sb rc (updG sg j ((lN (wN t z (p + 4))), (lN (wN t z (p + 8))), ((lN (wN t z (p + 8))) + ((nI B).toInt64)), (lN (wN t z (p + 16))), (lN (wN t z (p + 20))), (sg j).2.2.2.2.2.1, (((lN (wN t z (p + 24))).toInt32) &&& (7 : Int32)))) ex)) k_S_take_71 kc_S_take_71 (AcU_pf hj rfl rfl rfl) ⟨trivial, trivial⟩ ?_
  refine Run.blk (gs := [True, True, True, True, True]) (S' := ([some (.ref (8 + j)), some (.ref 1), some (.int (nI p)), some (.int (nI B))], [.int ((nI p) + (28 : Int32)), .ref 1, .ref (8 + j)], Ac fp le lp lb il (sbf t) (nI z) bf rf fr mp sc ifp ib ie pw dh rl rb re sy sb rc (updG sg j ((lN (wN t z (p + 4))), (lN (wN t z (p + 8))), ((lN (wN t z (p + 8))) + ((nI B).toInt64)), (lN (wN t z (p + 16))), (lN (wN t z (p + 20))), (sg j).2.2.2.2.2.1, (((lN (wN t z (p + 24))).toInt32) &&& (7 : Int32)))) ex)) k_S_take_74 kc_S_take_74 rfl ⟨trivial, trivial, trivial, trivial, trivial, trivial⟩ ?_
  refine Run.callV (b := 1) (As := [.int ((nI p) + (28 : Int32))]) (rest := [.ref (8 + j)]) v_S_take_80 (c_T_word ht hz (p := p + 28) (nI_add p 28) (by omega)) rfl (Nat.le_of_ble_eq_true rfl) rfl rfl rfl rfl (fun r cs' hp => ?_)
  obtain ⟨rfl, rfl⟩ := hp
  show Run _ _ _ _ 83 ([some (.ref (8 + j)), some (.ref 1), some (.int (nI p)), some (.int (nI B))], [.long (lN (wN t z (p + 28))), .ref (8 + j)], Ac fp le lp lb il (sbf t) (nI z) bf rf fr mp sc ifp ib ie pw dh rl rb re sy sb rc (updG sg j ((lN (wN t z (p + 4))), (lN (wN t z (p + 8))), ((lN (wN t z (p + 8))) + ((nI B).toInt64)), (lN (wN t z (p + 16))), (lN (wN t z (p + 20))), (sg j).2.2.2.2.2.1, (((lN (wN t z (p + 24))).toInt32) &&& (7 : Int32)))) ex) _
  refine Run.blk (S' := ([some (.ref (8 + j)), some (.ref 1), some (.int (nI p)), some (.int (nI B))], [], Ac fp le lp lb il (sbf t) (nI z) bf rf fr mp sc ifp ib ie pw dh rl rb re sy sb rc (updG sg j ((lN (wN t z (p + 4))), (lN (wN t z (p + 8))), ((lN (wN t z (p + 8))) + ((nI B).toInt64)), (lN (wN t z (p + 16))), (lN (wN t z (p + 20))), (lN (wN t z (p + 28))), (((lN (wN t z (p + 24))).toInt32) &&& (7 : Int32)))) ex)) k_S_take_83 kc_S_take_83 (AcU_pf hj rfl rfl rfl) ⟨trivial, trivial⟩ ?_
  exact Run.ret (r := none) ⟨d_S_take_86, rfl⟩ ⟨rfl, by rw [and7, nI_l (by omega), lN_add]; rfl⟩
def cpN (b : Nat → Nat) (s : Nat) (t : Nat → Nat) (o k : Nat) : Nat → Nat := fun j => if s ≤ j ∧ j < s + k then t (o + (j - s)) else b j
theorem cpN_0 (b : Nat → Nat) (s : Nat) (t : Nat → Nat) (o : Nat) : cpN b s t o 0 = b := by
  funext j; unfold cpN; rw [if_neg (by omega)]
theorem cpN_s (b : Nat → Nat) (s : Nat) (t : Nat → Nat) (o k : Nat) : upN (cpN b s t o k) (s + k) (t (o + k)) = cpN b s t o (k + 1) := by
  funext j; unfold upN cpN
  by_cases h : j = s + k
  · rw [if_pos h, if_pos (by omega), h, Nat.add_sub_cancel_left]
  · rw [if_neg h]
    by_cases h2 : s ≤ j ∧ j < s + k
    · rw [if_pos h2, if_pos (by omega)]
    · rw [if_neg h2, if_neg (by omega)]
theorem lb8_b {a : Nat} (h : a < 256) : lb8 (nI a) = a := by rw [lb8_nI]; omega
end P29
