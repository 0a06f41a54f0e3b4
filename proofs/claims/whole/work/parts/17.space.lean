section P17
variable {fp le lp lb il : Int32} {tf bf rf : Nat → Int32} {tz fr mp sc ifp ib ie pw dh rc : Int32} {rl rb re sy sb : Int64} {sg : Nat → A_G} {ex : List va_E}
variable {b : Nat → Nat} {n : Nat}
def rO (rf : Nat → Int32) (x : Int32) : Int32 := if 0 ≤ x.toInt ∧ x.toInt < 64 then rf x.toNatClampNeg else -1
theorem rO_in {rf : Nat → Int32} {p : Nat} (h : p < 64) : rO rf (nI p) = rf p := by
  unfold rO; rw [if_pos (by rw [nI_toInt (by omega)]; omega), nI_clamp (by omega)]
def fillN (b : Nat → Nat) (a k v : Nat) : Nat → Nat := fun j => if a ≤ j ∧ j < a + k then v else b j
def fillI (f : Nat → Int32) (a k : Nat) (v : Int32) : Nat → Int32 := fun j => if a ≤ j ∧ j < a + k then v else f j
theorem fillN_0 (b : Nat → Nat) (a v : Nat) : fillN b a 0 v = b := by
  funext j; unfold fillN; rw [if_neg (by omega)]
theorem fillI_0 (f : Nat → Int32) (a : Nat) (v : Int32) : fillI f a 0 v = f := by
  funext j; unfold fillI; rw [if_neg (by omega)]
theorem fillN_s (b : Nat → Nat) (a k v : Nat) : upN (fillN b a k v) (a + k) v = fillN b a (k + 1) v := by
  funext j; unfold upN fillN
  by_cases h : j = a + k
  · rw [if_pos h, if_pos (by omega)]
  · rw [if_neg h]
    by_cases h2 : a ≤ j ∧ j < a + k
    · rw [if_pos h2, if_pos (by omega)]
    · rw [if_neg h2, if_neg (by omega)]
theorem fillI_s (f : Nat → Int32) (a k : Nat) (v : Int32) : upd (fillI f a k v) (a + k) v = fillI f a (k + 1) v := by
  funext j; unfold upd fillI
  by_cases h : j = a + k
  · rw [if_pos h, if_pos (by omega)]
  · rw [if_neg h]
    by_cases h2 : a ≤ j ∧ j < a + k
    · rw [if_pos h2, if_pos (by omega)]
    · rw [if_neg h2, if_neg (by omega)]
theorem fillN_app (b : Nat → Nat) (a k l v : Nat) : fillN (fillN b a k v) (a + k) l v = fillN b a (k + l) v := by
  funext j; unfold fillN
  by_cases h : a ≤ j ∧ j < a + (k + l)
  · rw [if_pos h]
    by_cases h2 : a + k ≤ j ∧ j < a + k + l
    · rw [if_pos h2]
    · rw [if_neg h2, if_pos (by omega)]
  · rw [if_neg h, if_neg (by omega), if_neg (by omega)]
theorem fillI_hi {f : Nat → Int32} {a k : Nat} {v : Int32} {j : Nat} (h : a + k ≤ j) : fillI f a k v j = f j := by
  unfold fillI; rw [if_neg (by omega)]
theorem lb8_0 : lb8 0 = 0 := by decide
def cntM (f : Nat → Int32) (a : Nat) : Nat → Nat
  | 0 => 0
  | k + 1 => cntM f a k + (if f (a + k) = -1 then 0 else 1)
def anyM (f : Nat → Int32) : Nat → Nat → Bool
  | _, 0 => false
  | a, k + 1 => if f a = -1 then anyM f (a + 1) k else true
def pwC (f : Nat → Int32) (r : Int32) : Nat → Nat
  | 0 => 0
  | k + 1 => pwC f r k + (if f k = -1 then 0 else if f k &&& r = 0 then 0 else 1)
def smC (b : Nat → Nat) (m : Prop) [Decidable m] (p : Nat) (s : Int32) : Nat → Int32
  | 0 => s
  | k + 1 => 31 * smC b m p s k + (if m then nI (b (256 * p + k)) else 1000)
theorem pg_mul (p : Nat) : nI p * (256 : Int32) = nI (256 * p) := by rw [Nat.mul_comm]; exact pk_mul p 256
theorem pg_add (p i : Nat) : nI p * (256 : Int32) + nI i = nI (256 * p + i) := by rw [pg_mul]; exact nI_add _ _
theorem a_1 (m : Int32) (i : Nat) : m + nI i + 1 = m + nI (i + 1) := by rw [Int32.add_assoc, nI_1]
theorem s_1 (m : Int32) (i : Nat) : m - nI i - 1 = m - nI (i + 1) := by
  rw [← nI_1, Int32.sub_eq_add_neg, Int32.sub_eq_add_neg, Int32.sub_eq_add_neg, Int32.neg_add, Int32.sub_eq_add_neg, Int32.add_assoc]
theorem nI_gt {a : Nat} {y : Int32} {c : Nat} (hy : y.toInt = (c : Int) - 1) (ha : a < 2 ^ 31) : y < nI a ↔ c ≤ a := by
  rw [Int32.lt_iff_toInt_lt, hy, nI_toInt ha]; omega
set_option maxRecDepth 100000 in
set_option maxHeartbeats 4000000 in
theorem c_P_frames  : Ct m_P_frames 0 0 [.ref 3] (Ac fp le lp lb il tf tz bf rf fr mp sc ifp ib ie pw dh rl rb re sy sb rc sg ex) (vm_is (some (.int fr)) (Ac fp le lp lb il tf tz bf rf fr mp sc ifp ib ie pw dh rl rb re sy sb rc sg ex)) := by
  refine Ct.of ⟨by decide +kernel, rfl⟩ (Nat.le_of_ble_eq_true rfl) (lv := [some (.ref 3)]) rfl ?_
  refine Run.blk (gs := [True, True]) (S' := ([some (.ref 3)], [.int fr], Ac fp le lp lb il tf tz bf rf fr mp sc ifp ib ie pw dh rl rb re sy sb rc sg ex)) k_P_frames_0 kc_P_frames_0 rfl ⟨trivial, trivial, trivial⟩ ?_
  exact Run.ret (r := some (.int fr)) ⟨d_P_frames_4, _, rfl, rfl⟩ ⟨rfl, rfl⟩
set_option maxRecDepth 100000 in
set_option maxHeartbeats 4000000 in
theorem c_P_mappedPages  : Ct m_P_mappedPages 0 0 [.ref 3] (Ac fp le lp lb il tf tz bf rf fr mp sc ifp ib ie pw dh rl rb re sy sb rc sg ex) (vm_is (some (.int mp)) (Ac fp le lp lb il tf tz bf rf fr mp sc ifp ib ie pw dh rl rb re sy sb rc sg ex)) := by
  refine Ct.of ⟨by decide +kernel, rfl⟩ (Nat.le_of_ble_eq_true rfl) (lv := [some (.ref 3)]) rfl ?_
  refine Run.blk (gs := [True, True]) (S' := ([some (.ref 3)], [.int mp], Ac fp le lp lb il tf tz bf rf fr mp sc ifp ib ie pw dh rl rb re sy sb rc sg ex)) k_P_mappedPages_0 kc_P_mappedPages_0 rfl ⟨trivial, trivial, trivial⟩ ?_
  exact Run.ret (r := some (.int mp)) ⟨d_P_mappedPages_4, _, rfl, rfl⟩ ⟨rfl, rfl⟩
set_option maxRecDepth 100000 in
set_option maxHeartbeats 4000000 in
theorem c_P_freeFrames  : Ct m_P_freeFrames 0 0 [.ref 3] (Ac fp le lp lb il tf tz bf rf fr mp sc ifp ib ie pw dh rl rb re sy sb rc sg ex) (vm_is (some (.int (fr - mp))) (Ac fp le lp lb il tf tz bf rf fr mp sc ifp ib ie pw dh rl rb re sy sb rc sg ex)) := by
  refine Ct.of ⟨by decide +kernel, rfl⟩ (Nat.le_of_ble_eq_true rfl) (lv := [some (.ref 3)]) rfl ?_
  refine Run.blk (gs := [True, True, True, True, True]) (S' := ([some (.ref 3)], [.int (fr - mp)], Ac fp le lp lb il tf tz bf rf fr mp sc ifp ib ie pw dh rl rb re sy sb rc sg ex)) k_P_freeFrames_0 kc_P_freeFrames_0 rfl ⟨trivial, trivial, trivial, trivial, trivial, trivial⟩ ?_
  exact Run.ret (r := some (.int (fr - mp))) ⟨d_P_freeFrames_9, _, rfl, rfl⟩ ⟨rfl, rfl⟩
set_option maxRecDepth 100000 in
set_option maxHeartbeats 4000000 in
theorem c_P_byteAt {p : Nat} (hb : ∀ j, b j < 256) {x : Int32} (hx : x = nI p) (hp : p < 16384) : Ct m_P_byteAt 0 0 [.ref 3, .int x] (Ac fp le lp lb il tf tz (sbf b) rf fr mp sc ifp ib ie pw dh rl rb re sy sb rc sg ex) (vm_is (some (.int (nI (b p)))) (Ac fp le lp lb il tf tz (sbf b) rf fr mp sc ifp ib ie pw dh rl rb re sy sb rc sg ex)) := by
  subst hx
  refine Ct.of ⟨by decide +kernel, rfl⟩ (Nat.le_of_ble_eq_true rfl) (lv := [some (.ref 3), some (.int (nI p))]) rfl ?_
  refine Run.blk (gs := [True]) (S' := ([some (.ref 3), some (.int (nI p))], [.int (nI p)], Ac fp le lp lb il tf tz (sbf b) rf fr mp sc ifp ib ie pw dh rl rb re sy sb rc sg ex)) k_P_byteAt_0 kc_P_byteAt_0 rfl ⟨trivial, trivial⟩ ?_
  refine Run.br (tgt := 26) d_P_byteAt_1 rfl (by decide) (fun c_1 => ?_) (fun c_1 => ?_)
  · exact absurd c_1 (nI_pos (by omega))
  · refine Run.blk (gs := [True, True, True, True]) (S' := ([some (.ref 3), some (.int (nI p))], [.int (nI 16384), .int (nI p)], Ac fp le lp lb il tf tz (sbf b) rf fr mp sc ifp ib ie pw dh rl rb re sy sb rc sg ex)) k_P_byteAt_4 kc_P_byteAt_4 rfl ⟨trivial, trivial, trivial, trivial, trivial⟩ ?_
    refine Run.br (tgt := 26) d_P_byteAt_10 rfl (by decide) (fun c_2 => ?_) (fun c_2 => ?_)
    · exact absurd c_2 (nI_ge (show p < 16384 by omega) (by decide))
    · refine Run.blk (gs := [True, True, True, vp_in (nI p) 16384, True, True]) (S' := ([some (.ref 3), some (.int (nI p))], [.int (((sbf b) (nI p).toNatClampNeg) &&& (255 : Int32))], Ac fp le lp lb il tf tz (sbf b) rf fr mp sc ifp ib ie pw dh rl rb re sy sb rc sg ex)) k_P_byteAt_13 kc_P_byteAt_13 rfl ⟨trivial, trivial, trivial, (vp_in_nI (show p < 16384 by omega) (by decide)), trivial, trivial, trivial⟩ ?_
      refine Run.goto (tgt := 27) d_P_byteAt_23 (by decide) ?_
      exact Run.ret (r := some (.int (((sbf b) (nI p).toNatClampNeg) &&& (255 : Int32)))) ⟨d_P_byteAt_27, _, rfl, rfl⟩ ⟨by rw [nI_clamp (by omega)]; exact congrArg (fun x => some (Value.int x)) (s8_and (hb p)), rfl⟩
set_option maxRecDepth 100000 in
set_option maxHeartbeats 4000000 in
theorem c_P_setByte {p : Nat} {x v : Int32} (hx : x = nI p) (hp : p < 16384) : Ct m_P_setByte 0 0 [.ref 3, .int x, .int v] (Ac fp le lp lb il tf tz (sbf b) rf fr mp sc ifp ib ie pw dh rl rb re sy sb rc sg ex) (vm_is none (Ac fp le lp lb il tf tz (sbf (upN b p (lb8 v))) rf fr mp sc ifp ib ie pw dh rl rb re sy sb rc sg ex)) := by
  subst hx
  refine Ct.of ⟨by decide +kernel, rfl⟩ (Nat.le_of_ble_eq_true rfl) (lv := [some (.ref 3), some (.int (nI p)), some (.int v)]) rfl ?_
  refine Run.blk (gs := [True]) (S' := ([some (.ref 3), some (.int (nI p)), some (.int v)], [.int (nI p)], Ac fp le lp lb il tf tz (sbf b) rf fr mp sc ifp ib ie pw dh rl rb re sy sb rc sg ex)) k_P_setByte_0 kc_P_setByte_0 rfl ⟨trivial, trivial⟩ ?_
  refine Run.br (tgt := 21) d_P_setByte_1 rfl (by decide) (fun c_1 => ?_) (fun c_1 => ?_)
  · exact absurd c_1 (nI_pos (by omega))
  · refine Run.blk (gs := [True, True, True, True]) (S' := ([some (.ref 3), some (.int (nI p)), some (.int v)], [.int (nI 16384), .int (nI p)], Ac fp le lp lb il tf tz (sbf b) rf fr mp sc ifp ib ie pw dh rl rb re sy sb rc sg ex)) k_P_setByte_4 kc_P_setByte_4 rfl ⟨trivial, trivial, trivial, trivial, trivial⟩ ?_
    refine Run.br (tgt := 21) d_P_setByte_10 rfl (by decide) (fun c_2 => ?_) (fun c_2 => ?_)
    · exact absurd c_2 (nI_ge (show p < 16384 by omega) (by decide))
    · refine Run.blk (gs := [True, True, True, True, True, vp_in (nI p) 16384]) (S' := ([some (.ref 3), some (.int (nI p)), some (.int v)], [], Ac fp le lp lb il tf tz (upd (sbf b) (nI p).toNatClampNeg (vp_nar .byte v.toInt8.toInt32)) rf fr mp sc ifp ib ie pw dh rl rb re sy sb rc sg ex)) k_P_setByte_13 kc_P_setByte_13 rfl ⟨trivial, trivial, trivial, trivial, trivial, (vp_in_nI (show p < 16384 by omega) (by decide)), trivial⟩ ?_
      exact Run.ret (r := none) ⟨d_P_setByte_21, rfl⟩ ⟨rfl, by rw [nI_clamp (by omega), nar_i2b, upd_sbf]⟩
theorem vp64 {x : Int32} (h : 0 ≤ x.toInt ∧ x.toInt < 64) : vp_in x 64 := vp_in_iff.mpr ⟨h.1, by omega⟩
set_option maxRecDepth 100000 in
set_option maxHeartbeats 4000000 in
theorem c_P_rightsOf {x : Int32} : Ct m_P_rightsOf 0 0 [.ref 3, .int x] (Ac fp le lp lb il tf tz bf rf fr mp sc ifp ib ie pw dh rl rb re sy sb rc sg ex) (vm_is (some (.int (rO rf x))) (Ac fp le lp lb il tf tz bf rf fr mp sc ifp ib ie pw dh rl rb re sy sb rc sg ex)) := by
  refine Ct.of ⟨by decide +kernel, rfl⟩ (Nat.le_of_ble_eq_true rfl) (lv := [some (.ref 3), some (.int x)]) rfl ?_
  refine Run.blk (gs := [True]) (S' := ([some (.ref 3), some (.int x)], [.int x], Ac fp le lp lb il tf tz bf rf fr mp sc ifp ib ie pw dh rl rb re sy sb rc sg ex)) k_P_rightsOf_0 kc_P_rightsOf_0 rfl ⟨trivial, trivial⟩ ?_
  refine Run.callN (As := [.int x]) (rest := []) v_P_rightsOf_1 (c_L_isPage x) rfl (Nat.le_of_ble_eq_true rfl) rfl (fun r cs' hp => ?_)
  obtain ⟨rfl, rfl⟩ := hp
  show Run _ _ _ _ 4 ([some (.ref 3), some (.int x)], [.int (if 0 ≤ x.toInt ∧ x.toInt < 64 then 1 else 0)], Ac fp le lp lb il tf tz bf rf fr mp sc ifp ib ie pw dh rl rb re sy sb rc sg ex) _
  refine Run.br (tgt := 16) d_P_rightsOf_4 rfl (by decide) (fun c_1 => ?_) (fun c_1 => ?_)
  · have c_1 := zi_f c_1
    refine Run.blk (gs := [True]) (S' := ([some (.ref 3), some (.int x)], [.int (-1 : Int32)], Ac fp le lp lb il tf tz bf rf fr mp sc ifp ib ie pw dh rl rb re sy sb rc sg ex)) k_P_rightsOf_16 kc_P_rightsOf_16 rfl ⟨trivial, trivial⟩ ?_
    exact Run.ret (r := some (.int (-1 : Int32))) ⟨d_P_rightsOf_17, _, rfl, rfl⟩ ⟨by unfold rO; rw [if_neg c_1], rfl⟩
  · have c_1 := zi_t c_1
    refine Run.blk (gs := [True, True, True, vp_in x 64]) (S' := ([some (.ref 3), some (.int x)], [.int (rf x.toNatClampNeg)], Ac fp le lp lb il tf tz bf rf fr mp sc ifp ib ie pw dh rl rb re sy sb rc sg ex)) k_P_rightsOf_7 kc_P_rightsOf_7 rfl ⟨trivial, trivial, trivial, (vp64 c_1), trivial⟩ ?_
    refine Run.goto (tgt := 17) d_P_rightsOf_13 (by decide) ?_
    exact Run.ret (r := some (.int (rf x.toNatClampNeg))) ⟨d_P_rightsOf_17, _, rfl, rfl⟩ ⟨by unfold rO; rw [if_pos c_1], rfl⟩
set_option maxRecDepth 100000 in
set_option maxHeartbeats 4000000 in
theorem c_P_setRights {p : Nat} {x v : Int32} (hx : x = nI p) (hp : p < 64) : Ct m_P_setRights 0 0 [.ref 3, .int x, .int v] (Ac fp le lp lb il tf tz bf rf fr mp sc ifp ib ie pw dh rl rb re sy sb rc sg ex) (vm_is none (Ac fp le lp lb il tf tz bf (upd rf p v) fr mp sc ifp ib ie pw dh rl rb re sy sb rc sg ex)) := by
  subst hx
  refine Ct.of ⟨by decide +kernel, rfl⟩ (Nat.le_of_ble_eq_true rfl) (lv := [some (.ref 3), some (.int (nI p)), some (.int v)]) rfl ?_
  refine Run.blk (gs := [True]) (S' := ([some (.ref 3), some (.int (nI p)), some (.int v)], [.int (nI p)], Ac fp le lp lb il tf tz bf rf fr mp sc ifp ib ie pw dh rl rb re sy sb rc sg ex)) k_P_setRights_0 kc_P_setRights_0 rfl ⟨trivial, trivial⟩ ?_
  refine Run.callN (As := [.int (nI p)]) (rest := []) v_P_setRights_1 (c_L_isPage (nI p)) rfl (Nat.le_of_ble_eq_true rfl) rfl (fun r cs' hp => ?_)
  obtain ⟨rfl, rfl⟩ := hp
  show Run _ _ _ _ 4 ([some (.ref 3), some (.int (nI p)), some (.int v)], [.int (if 0 ≤ (nI p).toInt ∧ (nI p).toInt < 64 then 1 else 0)], Ac fp le lp lb il tf tz bf rf fr mp sc ifp ib ie pw dh rl rb re sy sb rc sg ex) _
  refine Run.br (tgt := 14) d_P_setRights_4 rfl (by decide) (fun c_1 => ?_) (fun c_1 => ?_)
  · have c_1 := zi_f c_1
    exact absurd (show 0 ≤ (nI p).toInt ∧ (nI p).toInt < 64 by rw [nI_toInt (by omega)]; omega) c_1
  · have c_1 := zi_t c_1
    refine Run.blk (gs := [True, True, True, True, vp_in (nI p) 64]) (S' := ([some (.ref 3), some (.int (nI p)), some (.int v)], [], Ac fp le lp lb il tf tz bf (upd rf (nI p).toNatClampNeg v) fr mp sc ifp ib ie pw dh rl rb re sy sb rc sg ex)) k_P_setRights_7 kc_P_setRights_7 rfl ⟨trivial, trivial, trivial, trivial, (vp64 c_1), trivial⟩ ?_
    exact Run.ret (r := none) ⟨d_P_setRights_14, rfl⟩ ⟨rfl, by rw [nI_clamp (by omega)]⟩
set_option maxRecDepth 100000 in
set_option maxHeartbeats 4000000 in
theorem l_P_clear {p : Nat} (hp : p < 64) : ∀ (k i : Nat) (x : Int32) (bb : Nat → Nat), x = nI i → bb = fillN b (256 * p) i 0 → i + k = 256 → Run m_P_clear n 0 0 2 ([some (.ref 3), some (.int (nI p)), some (.int x)], [], Ac fp le lp lb il tf tz (sbf bb) rf fr mp sc ifp ib ie pw dh rl rb re sy sb rc sg ex) (vm_is none (Ac fp le lp lb il tf tz (sbf (fillN b (256 * p) 256 0)) rf fr mp sc ifp ib ie pw dh rl rb re sy sb rc sg ex))
  | 0, i, x, bb, hx, hbb, hi => by
    obtain rfl : i = 256 := by omega
    refine Run.blk (gs := [True, True]) (S' := ([some (.ref 3), some (.int (nI p)), some (.int x)], [.int (256 : Int32), .int x], Ac fp le lp lb il tf tz (sbf bb) rf fr mp sc ifp ib ie pw dh rl rb re sy sb rc sg ex)) k_P_clear_2 kc_P_clear_2 rfl ⟨trivial, trivial, trivial⟩ ?_
    refine Run.br (tgt := 27) d_P_clear_6 rfl (by decide) (fun c_1 => ?_) (fun c_1 => ?_)
    · exact Run.ret (r := none) ⟨d_P_clear_27, rfl⟩ ⟨rfl, by rw [hbb]⟩
    · exact absurd (by rw [hx]; exact Int32.le_refl _) c_1
  | k + 1, i, x, bb, hx, hbb, hi => by
    refine Run.blk (gs := [True, True]) (S' := ([some (.ref 3), some (.int (nI p)), some (.int x)], [.int (256 : Int32), .int x], Ac fp le lp lb il tf tz (sbf bb) rf fr mp sc ifp ib ie pw dh rl rb re sy sb rc sg ex)) k_P_clear_2 kc_P_clear_2 rfl ⟨trivial, trivial, trivial⟩ ?_
    refine Run.br (tgt := 27) d_P_clear_6 rfl (by decide) (fun c_1 => ?_) (fun c_1 => ?_)
    · exact absurd c_1 (by rw [hx]; exact nI_ge (show i < 256 by omega) (by decide))
    · refine Run.blk (gs := [True, True, True, True, True, True, True]) (S' := ([some (.ref 3), some (.int (nI p)), some (.int x)], [.int (0 : Int32), .int (((nI p) * (256 : Int32)) + x), .ref 3], Ac fp le lp lb il tf tz (sbf bb) rf fr mp sc ifp ib ie pw dh rl rb re sy sb rc sg ex)) k_P_clear_9 kc_P_clear_9 rfl ⟨trivial, trivial, trivial, trivial, trivial, trivial, trivial, trivial⟩ ?_
      refine Run.callV (b := 3) (As := [.int (((nI p) * (256 : Int32)) + x), .int (0 : Int32)]) (rest := []) v_P_clear_18 (c_P_setByte (p := 256 * p + i) (by rw [hx]; exact pg_add p i) (by omega)) rfl (Nat.le_of_ble_eq_true rfl) rfl rfl rfl rfl (fun r cs' hp => ?_)
      obtain ⟨rfl, rfl⟩ := hp
      show Run _ _ _ _ 21 ([some (.ref 3), some (.int (nI p)), some (.int x)], [], Ac fp le lp lb il tf tz (sbf (upN bb (256 * p + i) (lb8 0))) rf fr mp sc ifp ib ie pw dh rl rb re sy sb rc sg ex) _
      refine Run.blk (gs := [True]) (S' := ([some (.ref 3), some (.int (nI p)), some (.int (x + (1 : Int32)))], [], Ac fp le lp lb il tf tz (sbf (upN bb (256 * p + i) (lb8 0))) rf fr mp sc ifp ib ie pw dh rl rb re sy sb rc sg ex)) k_P_clear_21 kc_P_clear_21 rfl ⟨trivial, trivial⟩ ?_
      refine Run.goto (tgt := 2) d_P_clear_24 (by decide) ?_
      exact l_P_clear hp k (i + 1) _ _ (by rw [hx, nI_1]) (by rw [hbb, lb8_0, fillN_s]) (by omega)
set_option maxRecDepth 100000 in
set_option maxHeartbeats 4000000 in
theorem c_P_clear {p : Nat} {x : Int32} (hx : x = nI p) (hp : p < 64) : Ct m_P_clear 0 0 [.ref 3, .int x] (Ac fp le lp lb il tf tz (sbf b) rf fr mp sc ifp ib ie pw dh rl rb re sy sb rc sg ex) (vm_is none (Ac fp le lp lb il tf tz (sbf (fillN b (256 * p) 256 0)) rf fr mp sc ifp ib ie pw dh rl rb re sy sb rc sg ex)) := by
  subst hx
  refine Ct.of ⟨by decide +kernel, rfl⟩ (Nat.le_of_ble_eq_true rfl) (lv := [some (.ref 3), some (.int (nI p)), none]) rfl ?_
  refine Run.blk (gs := [True, True]) (S' := ([some (.ref 3), some (.int (nI p)), some (.int (0 : Int32))], [], Ac fp le lp lb il tf tz (sbf b) rf fr mp sc ifp ib ie pw dh rl rb re sy sb rc sg ex)) k_P_clear_0 kc_P_clear_0 rfl ⟨trivial, trivial, trivial⟩ ?_
  exact l_P_clear hp 256 0 _ _ rfl (fillN_0 _ _ _).symm rfl
set_option maxRecDepth 100000 in
set_option maxHeartbeats 4000000 in
theorem l_P_anyMapped {x y : Int32} {c : Nat} (hy : y.toInt = (c : Int) - 1) (hc : c ≤ 64) : ∀ (k a : Nat) (v : Int32), v = nI a → a ≤ 64 → c ≤ a + k → Run m_P_anyMapped n 0 0 2 ([some (.ref 3), some (.int x), some (.int y), some (.int v)], [], Ac fp le lp lb il tf tz bf rf fr mp sc ifp ib ie pw dh rl rb re sy sb rc sg ex) (vm_is (some (.int (if anyM rf a (c - a) = true then 1 else 0))) (Ac fp le lp lb il tf tz bf rf fr mp sc ifp ib ie pw dh rl rb re sy sb rc sg ex))
  | 0, a, v, hv, ha, h => by
    refine Run.blk (gs := [True, True]) (S' := ([some (.ref 3), some (.int x), some (.int y), some (.int v)], [.int y, .int v], Ac fp le lp lb il tf tz bf rf fr mp sc ifp ib ie pw dh rl rb re sy sb rc sg ex)) k_P_anyMapped_2 kc_P_anyMapped_2 rfl ⟨trivial, trivial, trivial⟩ ?_
    refine Run.br (tgt := 24) d_P_anyMapped_4 rfl (by decide) (fun c_1 => ?_) (fun c_1 => ?_)
    · have hca : c ≤ a := (nI_gt hy (by omega)).mp (by rw [← hv]; exact c_1)
      refine Run.blk (gs := [True]) (S' := ([some (.ref 3), some (.int x), some (.int y), some (.int v)], [.int (0 : Int32)], Ac fp le lp lb il tf tz bf rf fr mp sc ifp ib ie pw dh rl rb re sy sb rc sg ex)) k_P_anyMapped_24 kc_P_anyMapped_24 rfl ⟨trivial, trivial⟩ ?_
      rw [show c - a = 0 by omega]
      exact Run.ret (r := some (.int (0 : Int32))) ⟨d_P_anyMapped_25, _, rfl, rfl⟩ ⟨rfl, rfl⟩
    · have hca : a < c := Nat.lt_of_not_le (fun q => c_1 (by rw [hv]; exact (nI_gt hy (by omega)).mpr q))
      exact absurd hca (by omega)
  | k + 1, a, v, hv, ha, h => by
    refine Run.blk (gs := [True, True]) (S' := ([some (.ref 3), some (.int x), some (.int y), some (.int v)], [.int y, .int v], Ac fp le lp lb il tf tz bf rf fr mp sc ifp ib ie pw dh rl rb re sy sb rc sg ex)) k_P_anyMapped_2 kc_P_anyMapped_2 rfl ⟨trivial, trivial, trivial⟩ ?_
    refine Run.br (tgt := 24) d_P_anyMapped_4 rfl (by decide) (fun c_1 => ?_) (fun c_1 => ?_)
    · have hca : c ≤ a := (nI_gt hy (by omega)).mp (by rw [← hv]; exact c_1)
      refine Run.blk (gs := [True]) (S' := ([some (.ref 3), some (.int x), some (.int y), some (.int v)], [.int (0 : Int32)], Ac fp le lp lb il tf tz bf rf fr mp sc ifp ib ie pw dh rl rb re sy sb rc sg ex)) k_P_anyMapped_24 kc_P_anyMapped_24 rfl ⟨trivial, trivial⟩ ?_
      rw [show c - a = 0 by omega]
      exact Run.ret (r := some (.int (0 : Int32))) ⟨d_P_anyMapped_25, _, rfl, rfl⟩ ⟨rfl, rfl⟩
    · have hca : a < c := Nat.lt_of_not_le (fun q => c_1 (by rw [hv]; exact (nI_gt hy (by omega)).mpr q))
      refine Run.blk (gs := [True, True]) (S' := ([some (.ref 3), some (.int x), some (.int y), some (.int v)], [.int v, .ref 3], Ac fp le lp lb il tf tz bf rf fr mp sc ifp ib ie pw dh rl rb re sy sb rc sg ex)) k_P_anyMapped_7 kc_P_anyMapped_7 rfl ⟨trivial, trivial, trivial⟩ ?_
      refine Run.callV (b := 3) (As := [.int v]) (rest := []) v_P_anyMapped_9 c_P_rightsOf rfl (Nat.le_of_ble_eq_true rfl) rfl rfl rfl rfl (fun r cs' hp => ?_)
      obtain ⟨rfl, rfl⟩ := hp
      show Run _ _ _ _ 12 ([some (.ref 3), some (.int x), some (.int y), some (.int v)], [.int (rO rf v)], Ac fp le lp lb il tf tz bf rf fr mp sc ifp ib ie pw dh rl rb re sy sb rc sg ex) _
      refine Run.blk (gs := [True]) (S' := ([some (.ref 3), some (.int x), some (.int y), some (.int v)], [.int (-1 : Int32), .int (rO rf v)], Ac fp le lp lb il tf tz bf rf fr mp sc ifp ib ie pw dh rl rb re sy sb rc sg ex)) k_P_anyMapped_12 kc_P_anyMapped_12 rfl ⟨trivial, trivial⟩ ?_
      refine Run.br (tgt := 18) d_P_anyMapped_13 rfl (by decide) (fun c_2 => ?_) (fun c_2 => ?_)
      · rw [hv, rO_in (by omega)] at c_2
        refine Run.blk (gs := [True]) (S' := ([some (.ref 3), some (.int x), some (.int y), some (.int (v + (1 : Int32)))], [], Ac fp le lp lb il tf tz bf rf fr mp sc ifp ib ie pw dh rl rb re sy sb rc sg ex)) k_P_anyMapped_18 kc_P_anyMapped_18 rfl ⟨trivial, trivial⟩ ?_
        refine Run.goto (tgt := 2) d_P_anyMapped_21 (by decide) ?_
        rw [show c - a = (c - (a + 1)) + 1 by omega, anyM, if_pos c_2]
        exact l_P_anyMapped hy hc k (a + 1) _ (by rw [hv, nI_1]) (by omega) (by omega)
      · rw [hv, rO_in (by omega)] at c_2
        refine Run.blk (gs := [True]) (S' := ([some (.ref 3), some (.int x), some (.int y), some (.int v)], [.int (1 : Int32)], Ac fp le lp lb il tf tz bf rf fr mp sc ifp ib ie pw dh rl rb re sy sb rc sg ex)) k_P_anyMapped_16 kc_P_anyMapped_16 rfl ⟨trivial, trivial⟩ ?_
        exact Run.ret (r := some (.int (1 : Int32))) ⟨d_P_anyMapped_17, _, rfl, rfl⟩ ⟨by rw [show c - a = (c - a - 1) + 1 by omega, anyM, if_neg c_2]; rfl, rfl⟩
set_option maxRecDepth 100000 in
set_option maxHeartbeats 4000000 in
theorem c_P_anyMapped {a c : Nat} {x y : Int32} (hx : x = nI a) (hy : y.toInt = (c : Int) - 1) (hc : c ≤ 64) (ha : a ≤ 64) : Ct m_P_anyMapped 0 0 [.ref 3, .int x, .int y] (Ac fp le lp lb il tf tz bf rf fr mp sc ifp ib ie pw dh rl rb re sy sb rc sg ex) (vm_is (some (.int (if anyM rf a (c - a) = true then 1 else 0))) (Ac fp le lp lb il tf tz bf rf fr mp sc ifp ib ie pw dh rl rb re sy sb rc sg ex)) := by
  refine Ct.of ⟨by decide +kernel, rfl⟩ (Nat.le_of_ble_eq_true rfl) (lv := [some (.ref 3), some (.int x), some (.int y), none]) rfl ?_
  refine Run.blk (gs := [True, True]) (S' := ([some (.ref 3), some (.int x), some (.int y), some (.int x)], [], Ac fp le lp lb il tf tz bf rf fr mp sc ifp ib ie pw dh rl rb re sy sb rc sg ex)) k_P_anyMapped_0 kc_P_anyMapped_0 rfl ⟨trivial, trivial, trivial⟩ ?_
  exact l_P_anyMapped hy hc 64 a _ hx ha (by omega)
set_option maxRecDepth 100000 in
set_option maxHeartbeats 4000000 in
theorem l_P_releaseAll {x y : Int32} {a c : Nat} (hy : y.toInt = (c : Int) - 1) (hc : c ≤ 64) (hac : a ≤ c) : ∀ (k i : Nat) (v mq : Int32) (rg : Nat → Int32), v = nI (a + i) → rg = fillI rf a i (-1) → mq = mp - nI (cntM rf a i) → a + i + k = c → Run m_P_releaseAll n 0 0 2 ([some (.ref 3), some (.int x), some (.int y), some (.int v)], [], Ac fp le lp lb il tf tz bf rg fr mq sc ifp ib ie pw dh rl rb re sy sb rc sg ex) (vm_is none (Ac fp le lp lb il tf tz bf (fillI rf a (c - a) (-1)) fr (mp - nI (cntM rf a (c - a))) sc ifp ib ie pw dh rl rb re sy sb rc sg ex))
  | 0, i, v, mq, rg, hv, hrg, hmq, h => by
    refine Run.blk (gs := [True, True]) (S' := ([some (.ref 3), some (.int x), some (.int y), some (.int v)], [.int y, .int v], Ac fp le lp lb il tf tz bf rg fr mq sc ifp ib ie pw dh rl rb re sy sb rc sg ex)) k_P_releaseAll_2 kc_P_releaseAll_2 rfl ⟨trivial, trivial, trivial⟩ ?_
    refine Run.br (tgt := 38) d_P_releaseAll_4 rfl (by decide) (fun c_1 => ?_) (fun c_1 => ?_)
    · obtain rfl : i = c - a := by omega
      exact Run.ret (r := none) ⟨d_P_releaseAll_38, rfl⟩ ⟨rfl, by rw [hrg, hmq]⟩
    · exact absurd (by rw [hv]; exact (nI_gt (a := a + i) hy (by omega)).mpr (by omega)) c_1
  | k + 1, i, v, mq, rg, hv, hrg, hmq, h => by
    refine Run.blk (gs := [True, True]) (S' := ([some (.ref 3), some (.int x), some (.int y), some (.int v)], [.int y, .int v], Ac fp le lp lb il tf tz bf rg fr mq sc ifp ib ie pw dh rl rb re sy sb rc sg ex)) k_P_releaseAll_2 kc_P_releaseAll_2 rfl ⟨trivial, trivial, trivial⟩ ?_
    refine Run.br (tgt := 38) d_P_releaseAll_4 rfl (by decide) (fun c_1 => ?_) (fun c_1 => ?_)
    · exact absurd ((nI_gt (a := a + i) hy (by omega)).mp (by rw [← hv]; exact c_1)) (by omega)
    · refine Run.blk (gs := [True, True]) (S' := ([some (.ref 3), some (.int x), some (.int y), some (.int v)], [.int v, .ref 3], Ac fp le lp lb il tf tz bf rg fr mq sc ifp ib ie pw dh rl rb re sy sb rc sg ex)) k_P_releaseAll_7 kc_P_releaseAll_7 rfl ⟨trivial, trivial, trivial⟩ ?_
      refine Run.callV (b := 3) (As := [.int v]) (rest := []) v_P_releaseAll_9 c_P_rightsOf rfl (Nat.le_of_ble_eq_true rfl) rfl rfl rfl rfl (fun r cs' hp => ?_)
      obtain ⟨rfl, rfl⟩ := hp
      show Run _ _ _ _ 12 ([some (.ref 3), some (.int x), some (.int y), some (.int v)], [.int (rO rg v)], Ac fp le lp lb il tf tz bf rg fr mq sc ifp ib ie pw dh rl rb re sy sb rc sg ex) _
      refine Run.blk (gs := [True]) (S' := ([some (.ref 3), some (.int x), some (.int y), some (.int v)], [.int (-1 : Int32), .int (rO rg v)], Ac fp le lp lb il tf tz bf rg fr mq sc ifp ib ie pw dh rl rb re sy sb rc sg ex)) k_P_releaseAll_12 kc_P_releaseAll_12 rfl ⟨trivial, trivial⟩ ?_
      refine Run.br (tgt := 32) d_P_releaseAll_13 rfl (by decide) (fun c_2 => ?_) (fun c_2 => ?_)
      · rw [hv, rO_in (by omega), hrg, fillI_hi (by omega)] at c_2
        refine Run.blk (gs := [True]) (S' := ([some (.ref 3), some (.int x), some (.int y), some (.int (v + (1 : Int32)))], [], Ac fp le lp lb il tf tz bf rg fr mq sc ifp ib ie pw dh rl rb re sy sb rc sg ex)) k_P_releaseAll_32 kc_P_releaseAll_32 rfl ⟨trivial, trivial⟩ ?_
        refine Run.goto (tgt := 2) d_P_releaseAll_35 (by decide) ?_
        have e1 : fillI rf a i (-1) = fillI rf a (i + 1) (-1) := by
          rw [← fillI_s]; funext j; unfold upd
          by_cases hj : j = a + i
          · rw [if_pos hj, hj, fillI_hi (by omega)]; exact c_2
          · rw [if_neg hj]
        exact l_P_releaseAll hy hc hac k (i + 1) _ _ _ (by rw [hv, nI_1]; rfl) (by rw [hrg, e1]) (by rw [hmq, cntM, if_pos c_2]; rfl) (by omega)
      · rw [hv, rO_in (by omega), hrg, fillI_hi (by omega)] at c_2
        refine Run.blk (gs := [True, True, True]) (S' := ([some (.ref 3), some (.int x), some (.int y), some (.int v)], [.int (-1 : Int32), .int v, .ref 3], Ac fp le lp lb il tf tz bf rg fr mq sc ifp ib ie pw dh rl rb re sy sb rc sg ex)) k_P_releaseAll_16 kc_P_releaseAll_16 rfl ⟨trivial, trivial, trivial, trivial⟩ ?_
        refine Run.callV (b := 3) (As := [.int v, .int (-1 : Int32)]) (rest := []) v_P_releaseAll_19 (c_P_setRights (p := a + i) hv (by omega)) rfl (Nat.le_of_ble_eq_true rfl) rfl rfl rfl rfl (fun r cs' hp => ?_)
        obtain ⟨rfl, rfl⟩ := hp
        show Run _ _ _ _ 22 ([some (.ref 3), some (.int x), some (.int y), some (.int v)], [], Ac fp le lp lb il tf tz bf (upd rg (a + i) (-1 : Int32)) fr mq sc ifp ib ie pw dh rl rb re sy sb rc sg ex) _
        refine Run.blk (gs := [True, True, True, True, True, True]) (S' := ([some (.ref 3), some (.int x), some (.int y), some (.int v)], [], Ac fp le lp lb il tf tz bf (upd rg (a + i) (-1 : Int32)) fr (mq - (1 : Int32)) sc ifp ib ie pw dh rl rb re sy sb rc sg ex)) k_P_releaseAll_22 kc_P_releaseAll_22 rfl ⟨trivial, trivial, trivial, trivial, trivial, trivial, trivial⟩ ?_
        refine Run.blk (gs := [True]) (S' := ([some (.ref 3), some (.int x), some (.int y), some (.int (v + (1 : Int32)))], [], Ac fp le lp lb il tf tz bf (upd rg (a + i) (-1 : Int32)) fr (mq - (1 : Int32)) sc ifp ib ie pw dh rl rb re sy sb rc sg ex)) k_P_releaseAll_32 kc_P_releaseAll_32 rfl ⟨trivial, trivial⟩ ?_
        refine Run.goto (tgt := 2) d_P_releaseAll_35 (by decide) ?_
        exact l_P_releaseAll hy hc hac k (i + 1) _ _ _ (by rw [hv, nI_1]; rfl) (by rw [hrg, fillI_s]) (by rw [hmq, s_1, cntM, if_neg c_2]) (by omega)
set_option maxRecDepth 100000 in
set_option maxHeartbeats 4000000 in
theorem c_P_releaseAll {a c : Nat} {x y : Int32} (hx : x = nI a) (hy : y.toInt = (c : Int) - 1) (hc : c ≤ 64) (hac : a ≤ c) : Ct m_P_releaseAll 0 0 [.ref 3, .int x, .int y] (Ac fp le lp lb il tf tz bf rf fr mp sc ifp ib ie pw dh rl rb re sy sb rc sg ex) (vm_is none (Ac fp le lp lb il tf tz bf (fillI rf a (c - a) (-1)) fr (mp - nI (cntM rf a (c - a))) sc ifp ib ie pw dh rl rb re sy sb rc sg ex)) := by
  refine Ct.of ⟨by decide +kernel, rfl⟩ (Nat.le_of_ble_eq_true rfl) (lv := [some (.ref 3), some (.int x), some (.int y), none]) rfl ?_
  refine Run.blk (gs := [True, True]) (S' := ([some (.ref 3), some (.int x), some (.int y), some (.int x)], [], Ac fp le lp lb il tf tz bf rf fr mp sc ifp ib ie pw dh rl rb re sy sb rc sg ex)) k_P_releaseAll_0 kc_P_releaseAll_0 rfl ⟨trivial, trivial, trivial⟩ ?_
  exact l_P_releaseAll hy hc hac (c - a) 0 _ _ _ hx (fillI_0 _ _ _).symm (by show mp = mp - 0; exact (Int32.sub_zero mp).symm) (by omega)
set_option maxRecDepth 100000 in
set_option maxHeartbeats 4000000 in
theorem l_P_mapAll {x y to : Int32} {a c : Nat} (hy : y.toInt = (c : Int) - 1) (hc : c ≤ 64) (hac : a ≤ c) (hfree : ∀ j, a ≤ j → j < c → rf j = -1) : ∀ (k i : Nat) (v mq : Int32) (rg : Nat → Int32) (bb : Nat → Nat), v = nI (a + i) → rg = fillI rf a i to → mq = mp + nI i → bb = fillN b (256 * a) (256 * i) 0 → a + i + k = c → Run m_P_mapAll n 0 0 3 ([some (.ref 3), some (.int x), some (.int y), some (.int to), some (.int v)], [], Ac fp le lp lb il tf tz (sbf bb) rg fr mq sc ifp ib ie pw dh rl rb re sy sb rc sg ex) (vm_is none (Ac fp le lp lb il tf tz (sbf (fillN b (256 * a) (256 * (c - a)) 0)) (fillI rf a (c - a) to) fr (mp + nI (c - a)) sc ifp ib ie pw dh rl rb re sy sb rc sg ex))
  | 0, i, v, mq, rg, bb, hv, hrg, hmq, hbb, h => by
    refine Run.blk (gs := [True, True]) (S' := ([some (.ref 3), some (.int x), some (.int y), some (.int to), some (.int v)], [.int y, .int v], Ac fp le lp lb il tf tz (sbf bb) rg fr mq sc ifp ib ie pw dh rl rb re sy sb rc sg ex)) k_P_mapAll_3 kc_P_mapAll_3 rfl ⟨trivial, trivial, trivial⟩ ?_
    refine Run.br (tgt := 56) d_P_mapAll_6 rfl (by decide) (fun c_1 => ?_) (fun c_1 => ?_)
    · obtain rfl : i = c - a := by omega
      exact Run.ret (r := none) ⟨d_P_mapAll_56, rfl⟩ ⟨rfl, by rw [hrg, hmq, hbb]⟩
    · exact absurd (by rw [hv]; exact (nI_gt (a := a + i) hy (by omega)).mpr (by omega)) c_1
  | k + 1, i, v, mq, rg, bb, hv, hrg, hmq, hbb, h => by
    refine Run.blk (gs := [True, True]) (S' := ([some (.ref 3), some (.int x), some (.int y), some (.int to), some (.int v)], [.int y, .int v], Ac fp le lp lb il tf tz (sbf bb) rg fr mq sc ifp ib ie pw dh rl rb re sy sb rc sg ex)) k_P_mapAll_3 kc_P_mapAll_3 rfl ⟨trivial, trivial, trivial⟩ ?_
    refine Run.br (tgt := 56) d_P_mapAll_6 rfl (by decide) (fun c_1 => ?_) (fun c_1 => ?_)
    · exact absurd ((nI_gt (a := a + i) hy (by omega)).mp (by rw [← hv]; exact c_1)) (by omega)
    · refine Run.blk (gs := [True]) (S' := ([some (.ref 3), some (.int x), some (.int y), some (.int to), some (.int v)], [.int v], Ac fp le lp lb il tf tz (sbf bb) rg fr mq sc ifp ib ie pw dh rl rb re sy sb rc sg ex)) k_P_mapAll_9 kc_P_mapAll_9 rfl ⟨trivial, trivial⟩ ?_
      refine Run.callN (As := [.int v]) (rest := []) v_P_mapAll_11 (c_L_isPage v) rfl (Nat.le_of_ble_eq_true rfl) rfl (fun r cs' hp => ?_)
      obtain ⟨rfl, rfl⟩ := hp
      show Run _ _ _ _ 14 ([some (.ref 3), some (.int x), some (.int y), some (.int to), some (.int v)], [.int (if 0 ≤ v.toInt ∧ v.toInt < 64 then 1 else 0)], Ac fp le lp lb il tf tz (sbf bb) rg fr mq sc ifp ib ie pw dh rl rb re sy sb rc sg ex) _
      refine Run.br (tgt := 50) d_P_mapAll_14 rfl (by decide) (fun c_2 => ?_) (fun c_2 => ?_)
      · have c_2 := zi_f c_2
        exact absurd (by rw [hv, nI_toInt (by omega)]; omega) c_2
      · have c_2 := zi_t c_2
        refine Run.blk (gs := [True, True]) (S' := ([some (.ref 3), some (.int x), some (.int y), some (.int to), some (.int v)], [.int v, .ref 3], Ac fp le lp lb il tf tz (sbf bb) rg fr mq sc ifp ib ie pw dh rl rb re sy sb rc sg ex)) k_P_mapAll_17 kc_P_mapAll_17 rfl ⟨trivial, trivial, trivial⟩ ?_
        refine Run.callV (b := 3) (As := [.int v]) (rest := []) v_P_mapAll_20 c_P_rightsOf rfl (Nat.le_of_ble_eq_true rfl) rfl rfl rfl rfl (fun r cs' hp => ?_)
        obtain ⟨rfl, rfl⟩ := hp
        show Run _ _ _ _ 23 ([some (.ref 3), some (.int x), some (.int y), some (.int to), some (.int v)], [.int (rO rg v)], Ac fp le lp lb il tf tz (sbf bb) rg fr mq sc ifp ib ie pw dh rl rb re sy sb rc sg ex) _
        refine Run.blk (gs := [True]) (S' := ([some (.ref 3), some (.int x), some (.int y), some (.int to), some (.int v)], [.int (-1 : Int32), .int (rO rg v)], Ac fp le lp lb il tf tz (sbf bb) rg fr mq sc ifp ib ie pw dh rl rb re sy sb rc sg ex)) k_P_mapAll_23 kc_P_mapAll_23 rfl ⟨trivial, trivial⟩ ?_
        refine Run.br (tgt := 50) d_P_mapAll_24 rfl (by decide) (fun c_3 => ?_) (fun c_3 => ?_)
        · exact absurd (by rw [hv, rO_in (by omega), hrg, fillI_hi (by omega)]; exact hfree _ (by omega) (by omega)) c_3
        · have c_3 := Classical.not_not.mp c_3
          refine Run.blk (gs := [True, True, True]) (S' := ([some (.ref 3), some (.int x), some (.int y), some (.int to), some (.int v)], [.int to, .int v, .ref 3], Ac fp le lp lb il tf tz (sbf bb) rg fr mq sc ifp ib ie pw dh rl rb re sy sb rc sg ex)) k_P_mapAll_27 kc_P_mapAll_27 rfl ⟨trivial, trivial, trivial, trivial⟩ ?_
          refine Run.callV (b := 3) (As := [.int v, .int to]) (rest := []) v_P_mapAll_31 (c_P_setRights (p := a + i) hv (by omega)) rfl (Nat.le_of_ble_eq_true rfl) rfl rfl rfl rfl (fun r cs' hp => ?_)
          obtain ⟨rfl, rfl⟩ := hp
          show Run _ _ _ _ 34 ([some (.ref 3), some (.int x), some (.int y), some (.int to), some (.int v)], [], Ac fp le lp lb il tf tz (sbf bb) (upd rg (a + i) to) fr mq sc ifp ib ie pw dh rl rb re sy sb rc sg ex) _
          refine Run.blk (gs := [True, True, True, True, True, True, True, True]) (S' := ([some (.ref 3), some (.int x), some (.int y), some (.int to), some (.int v)], [.int v, .ref 3], Ac fp le lp lb il tf tz (sbf bb) (upd rg (a + i) to) fr (mq + (1 : Int32)) sc ifp ib ie pw dh rl rb re sy sb rc sg ex)) k_P_mapAll_34 kc_P_mapAll_34 rfl ⟨trivial, trivial, trivial, trivial, trivial, trivial, trivial, trivial, trivial⟩ ?_
          refine Run.callV (b := 3) (As := [.int v]) (rest := []) v_P_mapAll_47 (c_P_clear (p := a + i) hv (by omega)) rfl (Nat.le_of_ble_eq_true rfl) rfl rfl rfl rfl (fun r cs' hp => ?_)
          obtain ⟨rfl, rfl⟩ := hp
          show Run _ _ _ _ 50 ([some (.ref 3), some (.int x), some (.int y), some (.int to), some (.int v)], [], Ac fp le lp lb il tf tz (sbf (fillN bb (256 * (a + i)) 256 0)) (upd rg (a + i) to) fr (mq + (1 : Int32)) sc ifp ib ie pw dh rl rb re sy sb rc sg ex) _
          refine Run.blk (gs := [True]) (S' := ([some (.ref 3), some (.int x), some (.int y), some (.int to), some (.int (v + (1 : Int32)))], [], Ac fp le lp lb il tf tz (sbf (fillN bb (256 * (a + i)) 256 0)) (upd rg (a + i) to) fr (mq + (1 : Int32)) sc ifp ib ie pw dh rl rb re sy sb rc sg ex)) k_P_mapAll_50 kc_P_mapAll_50 rfl ⟨trivial, trivial⟩ ?_
          refine Run.goto (tgt := 3) d_P_mapAll_53 (by decide) ?_
          exact l_P_mapAll hy hc hac hfree k (i + 1) _ _ _ _ (by rw [hv, nI_1]; rfl) (by rw [hrg, fillI_s]) (by rw [hmq, a_1]) (by rw [hbb, show 256 * (a + i) = 256 * a + 256 * i by omega, fillN_app]; rfl) (by omega)
set_option maxRecDepth 100000 in
set_option maxHeartbeats 4000000 in
theorem c_P_mapAll {a c : Nat} {x y to : Int32} (hx : x = nI a) (hy : y.toInt = (c : Int) - 1) (hc : c ≤ 64) (hac : a ≤ c) (hfree : ∀ j, a ≤ j → j < c → rf j = -1) : Ct m_P_mapAll 0 0 [.ref 3, .int x, .int y, .int to] (Ac fp le lp lb il tf tz (sbf b) rf fr mp sc ifp ib ie pw dh rl rb re sy sb rc sg ex) (vm_is none (Ac fp le lp lb il tf tz (sbf (fillN b (256 * a) (256 * (c - a)) 0)) (fillI rf a (c - a) to) fr (mp + nI (c - a)) sc ifp ib ie pw dh rl rb re sy sb rc sg ex)) := by
  refine Ct.of ⟨by decide +kernel, rfl⟩ (Nat.le_of_ble_eq_true rfl) (lv := [some (.ref 3), some (.int x), some (.int y), some (.int to), none]) rfl ?_
  refine Run.blk (gs := [True, True]) (S' := ([some (.ref 3), some (.int x), some (.int y), some (.int to), some (.int x)], [], Ac fp le lp lb il tf tz (sbf b) rf fr mp sc ifp ib ie pw dh rl rb re sy sb rc sg ex)) k_P_mapAll_0 kc_P_mapAll_0 rfl ⟨trivial, trivial, trivial⟩ ?_
  exact l_P_mapAll hy hc hac hfree (c - a) 0 _ _ _ _ hx (fillI_0 _ _ _).symm (by show mp = mp + 0; exact (Int32.add_zero mp).symm) (fillN_0 _ _ _).symm (by omega)
end P17
