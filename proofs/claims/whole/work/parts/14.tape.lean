section P14
variable {fp le lp lb il : Int32} {tf bf rf : Nat → Int32} {tz fr mp sc ifp ib ie pw dh rc : Int32} {rl rb re sy sb : Int64} {sg : Nat → A_G} {ex : List va_E}
def s8 (n : Nat) : Int32 := (nI n).toInt8.toInt32
def sbf (t : Nat → Nat) : Nat → Int32 := fun j => s8 (t j)
def tb (t : Nat → Nat) (z p : Nat) : Nat := if p < z then t p else 0
def upN (t : Nat → Nat) (k v : Nat) : Nat → Nat := fun j => if j = k then v else t j
/-- the lowest byte of a number -/
def lb8 (v : Int32) : Nat := v.toBitVec.toNat % 256
theorem tb_lt {t : Nat → Nat} (ht : ∀ j, t j < 256) (z p : Nat) : tb t z p < 256 := by
  unfold tb; split
  · exact ht p
  · omega
theorem s8_and {n : Nat} (h : n < 256) : s8 n &&& 255 = nI n := sc_k8 n h
theorem lb8_lt (v : Int32) : lb8 v < 256 := Nat.mod_lt _ (by decide)
theorem s8_lb8 (v : Int32) : s8 (lb8 v) = v.toInt8.toInt32 := by
  unfold s8 lb8
  congr 1
  apply Int8.toInt_inj.mp
  have hm := Nat.mod_lt v.toBitVec.toNat (show 0 < 256 by decide)
  rw [Int32.toInt_toInt8, Int32.toInt_toInt8, nI_toInt (by omega)]
  have h : v.toInt = ((v.toBitVec.toNat : Int)).bmod (2 ^ 32) := BitVec.toInt_eq_toNat_bmod _
  rw [h, Int.bmod_bmod_of_dvd (by decide)]
  have e : ((v.toBitVec.toNat % 256 : Nat) : Int) = (v.toBitVec.toNat : Int) % ((2 ^ 8 : Nat) : Int) := by omega
  rw [e, Int.emod_bmod]
theorem nar_i2b (v : Int32) : vp_nar .byte v.toInt8.toInt32 = v.toInt8.toInt32 := pk_vb v
theorem upd_sbf (t : Nat → Nat) (k : Nat) (v : Int32) : upd (sbf t) k v.toInt8.toInt32 = sbf (upN t k (lb8 v)) := by
  funext j
  unfold upd sbf upN
  by_cases h : j = k
  · rw [if_pos h, if_pos h, s8_lb8]
  · rw [if_neg h, if_neg h]
theorem upN_lt {t : Nat → Nat} (ht : ∀ j, t j < 256) (k : Nat) {v : Nat} (hv : v < 256) : ∀ j, upN t k v j < 256 := by
  intro j; unfold upN; split
  · exact hv
  · exact ht j
set_option maxRecDepth 100000 in
set_option maxHeartbeats 4000000 in
theorem c_T_size {z : Nat} : Ct m_T_size 0 0 [.ref 1] (Ac fp le lp lb il tf (nI z) bf rf fr mp sc ifp ib ie pw dh rl rb re sy sb rc sg ex) (vm_is (some (.int (nI z))) (Ac fp le lp lb il tf (nI z) bf rf fr mp sc ifp ib ie pw dh rl rb re sy sb rc sg ex)) := by
  refine Ct.of ⟨by decide +kernel, rfl⟩ (Nat.le_of_ble_eq_true rfl) (lv := [some (.ref 1)]) rfl ?_
  refine Run.blk (gs := [True, True]) (S' := ([some (.ref 1)], [.int (nI z)], Ac fp le lp lb il tf (nI z) bf rf fr mp sc ifp ib ie pw dh rl rb re sy sb rc sg ex)) k_T_size_0 kc_T_size_0 rfl ⟨trivial, trivial, trivial⟩ ?_
  exact Run.ret (r := some (.int (nI z))) ⟨d_T_size_4, _, rfl, rfl⟩ ⟨rfl, rfl⟩

set_option maxRecDepth 100000 in
theorem c_T_byteAt {t : Nat → Nat} {z : Nat} (ht : ∀ j, t j < 256) (hz : z ≤ 900) {p : Nat} {x : Int32} (hx : x = nI p) (hp : p < 2 ^ 31) : Ct m_T_byteAt 0 0 [.ref 1, .int x] (Ac fp le lp lb il (sbf t) (nI z) bf rf fr mp sc ifp ib ie pw dh rl rb re sy sb rc sg ex) (vm_is (some (.int (nI (tb t z p)))) (Ac fp le lp lb il (sbf t) (nI z) bf rf fr mp sc ifp ib ie pw dh rl rb re sy sb rc sg ex)) := by
  subst hx
  refine Ct.of ⟨by decide +kernel, rfl⟩ (Nat.le_of_ble_eq_true rfl) (lv := [some (.ref 1), some (.int (nI p))]) rfl ?_
  refine Run.blk (gs := [True]) (S' := ([some (.ref 1), some (.int (nI p))], [.int (nI p)], Ac fp le lp lb il (sbf t) (nI z) bf rf fr mp sc ifp ib ie pw dh rl rb re sy sb rc sg ex)) k_T_byteAt_0 kc_T_byteAt_0 rfl ⟨trivial, trivial⟩ ?_
  refine Run.br (tgt := 25) d_T_byteAt_1 rfl (by decide) (fun c_1 => ?_) (fun c_1 => ?_)
  · exact absurd c_1 (nI_pos (by omega))
  · refine Run.blk (gs := [True, True, True]) (S' := ([some (.ref 1), some (.int (nI p))], [.int (nI z), .int (nI p)], Ac fp le lp lb il (sbf t) (nI z) bf rf fr mp sc ifp ib ie pw dh rl rb re sy sb rc sg ex)) k_T_byteAt_4 kc_T_byteAt_4 rfl ⟨trivial, trivial, trivial, trivial⟩ ?_
    refine Run.br (tgt := 25) d_T_byteAt_9 rfl (by decide) (fun c_2 => ?_) (fun c_2 => ?_)
    · refine Run.blk (gs := [True]) (S' := ([some (.ref 1), some (.int (nI p))], [.int (0 : Int32)], Ac fp le lp lb il (sbf t) (nI z) bf rf fr mp sc ifp ib ie pw dh rl rb re sy sb rc sg ex)) k_T_byteAt_25 kc_T_byteAt_25 rfl ⟨trivial, trivial⟩ ?_
      have hq : ¬ p < z := fun q => absurd c_2 (nI_ge q (by omega))
      exact Run.ret (r := some (.int (0 : Int32))) ⟨d_T_byteAt_26, _, rfl, rfl⟩ ⟨by rw [tb, if_neg hq]; rfl, rfl⟩
    · have hq : p < z := Nat.lt_of_not_le (fun q => c_2 (nI_le q (by omega)))
      refine Run.blk (gs := [True, True, True, vp_in (nI p) 900, True, True]) (S' := ([some (.ref 1), some (.int (nI p))], [.int (((sbf t) (nI p).toNatClampNeg) &&& (255 : Int32))], Ac fp le lp lb il (sbf t) (nI z) bf rf fr mp sc ifp ib ie pw dh rl rb re sy sb rc sg ex)) k_T_byteAt_12 kc_T_byteAt_12 rfl ⟨trivial, trivial, trivial, (vp_in_nI (show p < 900 by omega) (by decide)), trivial, trivial, trivial⟩ ?_
      refine Run.goto (tgt := 26) d_T_byteAt_22 (by decide) ?_
      exact Run.ret (r := some (.int (((sbf t) (nI p).toNatClampNeg) &&& (255 : Int32)))) ⟨d_T_byteAt_26, _, rfl, rfl⟩ ⟨by rw [tb, if_pos hq, nI_clamp (by omega)]; exact congrArg (fun x => some (Value.int x)) (s8_and (ht p)), rfl⟩
theorem nI_sub900 {z : Nat} (hz : z ≤ 900) : (900 : Int32) - nI z = nI (900 - z) := pk_sub (a := 900) (b := z) hz
set_option maxRecDepth 100000 in
set_option maxHeartbeats 4000000 in
theorem c_T_hasRoomFor {z : Nat} {x : Int32} : Ct m_T_hasRoomFor 0 0 [.ref 1, .int x] (Ac fp le lp lb il tf (nI z) bf rf fr mp sc ifp ib ie pw dh rl rb re sy sb rc sg ex) (vm_is (some (.int (if x ≤ 900 - nI z then 1 else 0))) (Ac fp le lp lb il tf (nI z) bf rf fr mp sc ifp ib ie pw dh rl rb re sy sb rc sg ex)) := by
  refine Ct.of ⟨by decide +kernel, rfl⟩ (Nat.le_of_ble_eq_true rfl) (lv := [some (.ref 1), some (.int x)]) rfl ?_
  refine Run.blk (gs := [True, True, True, True, True]) (S' := ([some (.ref 1), some (.int x)], [.int ((900 : Int32) - (nI z)), .int x], Ac fp le lp lb il tf (nI z) bf rf fr mp sc ifp ib ie pw dh rl rb re sy sb rc sg ex)) k_T_hasRoomFor_0 kc_T_hasRoomFor_0 rfl ⟨trivial, trivial, trivial, trivial, trivial, trivial⟩ ?_
  refine Run.br (tgt := 16) d_T_hasRoomFor_9 rfl (by decide) (fun c_1 => ?_) (fun c_1 => ?_)
  · refine Run.blk (gs := [True]) (S' := ([some (.ref 1), some (.int x)], [.int (0 : Int32)], Ac fp le lp lb il tf (nI z) bf rf fr mp sc ifp ib ie pw dh rl rb re sy sb rc sg ex)) k_T_hasRoomFor_16 kc_T_hasRoomFor_16 rfl ⟨trivial, trivial⟩ ?_
    exact Run.ret (r := some (.int (0 : Int32))) ⟨d_T_hasRoomFor_17, _, rfl, rfl⟩ ⟨by rw [if_neg (by rw [Int32.not_le]; exact c_1)], rfl⟩
  · refine Run.blk (gs := [True]) (S' := ([some (.ref 1), some (.int x)], [.int (1 : Int32)], Ac fp le lp lb il tf (nI z) bf rf fr mp sc ifp ib ie pw dh rl rb re sy sb rc sg ex)) k_T_hasRoomFor_12 kc_T_hasRoomFor_12 rfl ⟨trivial, trivial⟩ ?_
    refine Run.goto (tgt := 17) d_T_hasRoomFor_13 (by decide) ?_
    exact Run.ret (r := some (.int (1 : Int32))) ⟨d_T_hasRoomFor_17, _, rfl, rfl⟩ ⟨by rw [if_pos (Int32.not_lt.mp c_1)], rfl⟩
end P14
