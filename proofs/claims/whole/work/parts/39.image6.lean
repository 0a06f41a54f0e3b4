section P39
variable {fp le lp lb il : Int32} {tf bf rf : Nat → Int32} {tz fr mp sc ifp ib ie pw dh rc : Int32} {rl rb re sy sb : Int64} {sg : Nat → A_G} {ex : List va_E}
variable {cs : List va_E} {n : Nat} {t b : Nat → Nat} {z : Nat} {L : List SG} {O Ad St Fi He Al : Nat} {fl : Int32} {q j : Nat} {r0 : Nat → Int32} {K : Nat → Nat}
set_option maxRecDepth 100000 in
set_option maxHeartbeats 4000000 in
theorem c_I_relocationFault (hb : ∀ j, b j < 256) (hS : hSg L sg) (hG : ∀ g, g ∈ L → Gd z r0 g) (hL : L.length ≤ 8) (hD : Dj L) (hK : ∀ j, K j < 2 ^ 32) {B : Nat} {i : Nat} {x : Int32} (hx : x = nI i) : Ct m_I_relocationFault 0 0 [.ref 6, .ref 3, .int x] (Ac fp le lp lb il tf tz (sbf b) rf fr mp (nI L.length) ifp (nI B) ie pw dh (lN (K 7)) rb re (lN (K 6)) (lN (K 11)) rc sg ex) (vm_is (some (.int (reF L B K b i).1)) (Ac fp le lp lb il tf tz (sbf (reF L B K b i).2) rf fr mp (nI L.length) ifp (nI B) ie pw dh (lN (K 7)) rb re (lN (K 6)) (lN (K 11)) rc sg ex)) := by
  subst hx
  obtain ⟨a, ha⟩ : ∃ a, (K 7 + B + 12 * i) % 4294967296 = a := ⟨_, rfl⟩
  obtain ⟨wh, hwh⟩ : ∃ a1, (n4 b a + B) % 4294967296 = a1 := ⟨_, rfl⟩
  have hal : a < 4294967296 := by rw [← ha]; exact Nat.mod_lt _ (by decide)
  have hwl : wh < 4294967296 := by rw [← hwh]; exact Nat.mod_lt _ (by decide)
  have h4l := n4_lt hb (a + 4)
  rw [show reF L B K b i = reG L B K b a by unfold reF; rw [ha]]
  refine Ct.of ⟨by decide +kernel, rfl⟩ (Nat.le_of_ble_eq_true rfl) (lv := [some (.ref 6), some (.ref 3), some (.int (nI i)), none, none, none, none]) rfl ?_
  refine Run.blk (gs := [True, True, True, True, True, True, True, True, True, True, True, True, True, True]) (S' := ([some (.ref 6), some (.ref 3), some (.int (nI i)), some (.int ((((lN (K 7)).toInt32) + (nI B)) + ((12 : Int32) * (nI i)))), none, none, none], [.int (12 : Int32), .int ((((lN (K 7)).toInt32) + (nI B)) + ((12 : Int32) * (nI i))), .ref 6], Ac fp le lp lb il tf tz (sbf b) rf fr mp (nI L.length) ifp (nI B) ie pw dh (lN (K 7)) rb re (lN (K 6)) (lN (K 11)) rc sg ex)) k_I_relocationFault_0 kc_I_relocationFault_0 rfl ⟨trivial, trivial, trivial, trivial, trivial, trivial, trivial, trivial, trivial, trivial, trivial, trivial, trivial, trivial, trivial⟩ ?_
  refine Run.callV (b := 6) (As := [.int ((((lN (K 7)).toInt32) + (nI B)) + ((12 : Int32) * (nI i))), .int (12 : Int32)]) (rest := []) v_I_relocationFault_20 (c_I_areHeld (by decide) hS hG hL hD (a := a) (N := 12) (rel_at (12 : Int32) rfl ha) rfl) rfl (Nat.le_of_ble_eq_true rfl) rfl rfl rfl rfl (fun r cs' hp => ?_)
  obtain ⟨rfl, rfl⟩ := hp
  show Run _ _ _ _ 23 ([some (.ref 6), some (.ref 3), some (.int (nI i)), some (.int ((((lN (K 7)).toInt32) + (nI B)) + ((12 : Int32) * (nI i)))), none, none, none], [.int (if hA L a 0 12 = true then 1 else 0)], Ac fp le lp lb il tf tz (sbf b) rf fr mp (nI L.length) ifp (nI B) ie pw dh (lN (K 7)) rb re (lN (K 6)) (lN (K 11)) rc sg ex) _
  refine Run.br (tgt := 29) d_I_relocationFault_23 rfl (by decide) (fun c_1 => ?_) (fun c_1 => ?_)
  · have c_1 := zi_t c_1
    have ha12 := hA_le hG c_1 (by decide) (by decide) hal
    refine Run.blk (gs := [True, True, True]) (S' := ([some (.ref 6), some (.ref 3), some (.int (nI i)), some (.int ((((lN (K 7)).toInt32) + (nI B)) + ((12 : Int32) * (nI i)))), none, none, none], [.int (4 : Int32), .int ((((lN (K 7)).toInt32) + (nI B)) + ((12 : Int32) * (nI i))), .ref 3], Ac fp le lp lb il tf tz (sbf b) rf fr mp (nI L.length) ifp (nI B) ie pw dh (lN (K 7)) rb re (lN (K 6)) (lN (K 11)) rc sg ex)) k_I_relocationFault_29 kc_I_relocationFault_29 rfl ⟨trivial, trivial, trivial, trivial⟩ ?_
    refine Run.callV (b := 3) (As := [.int ((((lN (K 7)).toInt32) + (nI B)) + ((12 : Int32) * (nI i))), .int (4 : Int32)]) (rest := []) v_I_relocationFault_32 (c_P_number4 hb (p := a) (rel_at (12 : Int32) rfl ha) (by omega)) rfl (Nat.le_of_ble_eq_true rfl) rfl rfl rfl rfl (fun r cs' hp => ?_)
    obtain ⟨rfl, rfl⟩ := hp
    show Run _ _ _ _ 35 ([some (.ref 6), some (.ref 3), some (.int (nI i)), some (.int ((((lN (K 7)).toInt32) + (nI B)) + ((12 : Int32) * (nI i)))), none, none, none], [.long (lN (n4 b a))], Ac fp le lp lb il tf tz (sbf b) rf fr mp (nI L.length) ifp (nI B) ie pw dh (lN (K 7)) rb re (lN (K 6)) (lN (K 11)) rc sg ex) _
    refine Run.blk (gs := [True, True, True, True, True, True, True, True, True, True]) (S' := ([some (.ref 6), some (.ref 3), some (.int (nI i)), some (.int ((((lN (K 7)).toInt32) + (nI B)) + ((12 : Int32) * (nI i)))), some (.int (((lN (n4 b a)).toInt32) + (nI B))), none, none], [.int (4 : Int32), .int (((((lN (K 7)).toInt32) + (nI B)) + ((12 : Int32) * (nI i))) + (4 : Int32)), .ref 3], Ac fp le lp lb il tf tz (sbf b) rf fr mp (nI L.length) ifp (nI B) ie pw dh (lN (K 7)) rb re (lN (K 6)) (lN (K 11)) rc sg ex)) k_I_relocationFault_35 kc_I_relocationFault_35 rfl ⟨trivial, trivial, trivial, trivial, trivial, trivial, trivial, trivial, trivial, trivial, trivial⟩ ?_
    refine Run.callV (b := 3) (As := [.int (((((lN (K 7)).toInt32) + (nI B)) + ((12 : Int32) * (nI i))) + (4 : Int32)), .int (4 : Int32)]) (rest := []) v_I_relocationFault_48 (c_P_number4 hb (p := a + 4) (by rw [rel_at (12 : Int32) rfl ha]; exact nI_add _ 4) (by omega)) rfl (Nat.le_of_ble_eq_true rfl) rfl rfl rfl rfl (fun r cs' hp => ?_)
    obtain ⟨rfl, rfl⟩ := hp
    show Run _ _ _ _ 51 ([some (.ref 6), some (.ref 3), some (.int (nI i)), some (.int ((((lN (K 7)).toInt32) + (nI B)) + ((12 : Int32) * (nI i)))), some (.int (((lN (n4 b a)).toInt32) + (nI B))), none, none], [.long (lN (n4 b (a + 4)))], Ac fp le lp lb il tf tz (sbf b) rf fr mp (nI L.length) ifp (nI B) ie pw dh (lN (K 7)) rb re (lN (K 6)) (lN (K 11)) rc sg ex) _
    refine Run.blk (gs := [True, True, True, True, True, True, True]) (S' := ([some (.ref 6), some (.ref 3), some (.int (nI i)), some (.int ((((lN (K 7)).toInt32) + (nI B)) + ((12 : Int32) * (nI i)))), some (.int (((lN (n4 b a)).toInt32) + (nI B))), some (.int ((lN (n4 b (a + 4))).toInt32)), none], [.int (4 : Int32), .int (((((lN (K 7)).toInt32) + (nI B)) + ((12 : Int32) * (nI i))) + (8 : Int32)), .ref 3], Ac fp le lp lb il tf tz (sbf b) rf fr mp (nI L.length) ifp (nI B) ie pw dh (lN (K 7)) rb re (lN (K 6)) (lN (K 11)) rc sg ex)) k_I_relocationFault_51 kc_I_relocationFault_51 rfl ⟨trivial, trivial, trivial, trivial, trivial, trivial, trivial, trivial⟩ ?_
    refine Run.callV (b := 3) (As := [.int (((((lN (K 7)).toInt32) + (nI B)) + ((12 : Int32) * (nI i))) + (8 : Int32)), .int (4 : Int32)]) (rest := []) v_I_relocationFault_60 (c_P_number4 hb (p := a + 8) (by rw [rel_at (12 : Int32) rfl ha]; exact nI_add _ 8) (by omega)) rfl (Nat.le_of_ble_eq_true rfl) rfl rfl rfl rfl (fun r cs' hp => ?_)
    obtain ⟨rfl, rfl⟩ := hp
    show Run _ _ _ _ 63 ([some (.ref 6), some (.ref 3), some (.int (nI i)), some (.int ((((lN (K 7)).toInt32) + (nI B)) + ((12 : Int32) * (nI i)))), some (.int (((lN (n4 b a)).toInt32) + (nI B))), some (.int ((lN (n4 b (a + 4))).toInt32)), none], [.long (lN (n4 b (a + 8)))], Ac fp le lp lb il tf tz (sbf b) rf fr mp (nI L.length) ifp (nI B) ie pw dh (lN (K 7)) rb re (lN (K 6)) (lN (K 11)) rc sg ex) _
    refine Run.blk (gs := [True, True, True, True, True]) (S' := ([some (.ref 6), some (.ref 3), some (.int (nI i)), some (.int ((((lN (K 7)).toInt32) + (nI B)) + ((12 : Int32) * (nI i)))), some (.int (((lN (n4 b a)).toInt32) + (nI B))), some (.int ((lN (n4 b (a + 4))).toInt32)), some (.int ((lN (n4 b (a + 8))).toInt32))], [.int (4 : Int32), .int (((lN (n4 b a)).toInt32) + (nI B)), .ref 6], Ac fp le lp lb il tf tz (sbf b) rf fr mp (nI L.length) ifp (nI B) ie pw dh (lN (K 7)) rb re (lN (K 6)) (lN (K 11)) rc sg ex)) k_I_relocationFault_63 kc_I_relocationFault_63 rfl ⟨trivial, trivial, trivial, trivial, trivial, trivial⟩ ?_
    refine Run.callV (b := 6) (As := [.int (((lN (n4 b a)).toInt32) + (nI B)), .int (4 : Int32)]) (rest := []) v_I_relocationFault_70 (c_I_areHeld (by decide) hS hG hL hD (a := wh) (N := 4) (by rw [lN_i, nI_add, ← hwh]; exact nI_mod _) rfl) rfl (Nat.le_of_ble_eq_true rfl) rfl rfl rfl rfl (fun r cs' hp => ?_)
    obtain ⟨rfl, rfl⟩ := hp
    show Run _ _ _ _ 73 ([some (.ref 6), some (.ref 3), some (.int (nI i)), some (.int ((((lN (K 7)).toInt32) + (nI B)) + ((12 : Int32) * (nI i)))), some (.int (((lN (n4 b a)).toInt32) + (nI B))), some (.int ((lN (n4 b (a + 4))).toInt32)), some (.int ((lN (n4 b (a + 8))).toInt32))], [.int (if hA L wh 0 4 = true then 1 else 0)], Ac fp le lp lb il tf tz (sbf b) rf fr mp (nI L.length) ifp (nI B) ie pw dh (lN (K 7)) rb re (lN (K 6)) (lN (K 11)) rc sg ex) _
    refine Run.br (tgt := 79) d_I_relocationFault_73 rfl (by decide) (fun c_2 => ?_) (fun c_2 => ?_)
    · have c_2 := zi_t c_2
      have hw4 := hA_le hG c_2 (by decide) (by decide) hwl
      refine Run.blk (gs := [True, True, True]) (S' := ([some (.ref 6), some (.ref 3), some (.int (nI i)), some (.int ((((lN (K 7)).toInt32) + (nI B)) + ((12 : Int32) * (nI i)))), some (.int (((lN (n4 b a)).toInt32) + (nI B))), some (.int ((lN (n4 b (a + 4))).toInt32)), some (.int ((lN (n4 b (a + 8))).toInt32))], [.int (((lN (n4 b (a + 4))).toInt32) &&& (255 : Int32))], Ac fp le lp lb il tf tz (sbf b) rf fr mp (nI L.length) ifp (nI B) ie pw dh (lN (K 7)) rb re (lN (K 6)) (lN (K 11)) rc sg ex)) k_I_relocationFault_79 kc_I_relocationFault_79 rfl ⟨trivial, trivial, trivial, trivial⟩ ?_
      rw [show (((lN (n4 b (a + 4))).toInt32) &&& (255 : Int32)) = nI (n4 b (a + 4) % 256) by rw [lN_i]; exact pk_andN (n4_lt hb _) 8 (by decide)]
      have hs9 : n4 b (a + 4) % 256 < 256 := Nat.mod_lt _ (by decide)
      generalize hsv : n4 b (a + 4) % 256 = sv at hs9 ⊢
      have k9 : sv = 0 ∨ sv = 1 ∨ sv = 2 ∨ sv = 3 ∨ 4 ≤ sv := by omega
      rcases k9 with k9 | k9 | k9 | k9 | k9
      · subst k9
        refine Run.tsIn (tgt := 116) (off := 31) d_I_relocationFault_85 (by decide) (by decide) (by decide) (by decide) ?_
        refine Run.blk (gs := [True]) (S' := ([some (.ref 6), some (.ref 3), some (.int (nI i)), some (.int ((((lN (K 7)).toInt32) + (nI B)) + ((12 : Int32) * (nI i)))), some (.int (((lN (n4 b a)).toInt32) + (nI B))), some (.int ((lN (n4 b (a + 4))).toInt32)), some (.int ((lN (n4 b (a + 8))).toInt32))], [.int (0 : Int32)], Ac fp le lp lb il tf tz (sbf b) rf fr mp (nI L.length) ifp (nI B) ie pw dh (lN (K 7)) rb re (lN (K 6)) (lN (K 11)) rc sg ex)) k_I_relocationFault_116 kc_I_relocationFault_116 rfl ⟨trivial, trivial⟩ ?_
        rw [show (reG L B K b a) = (0, b) by unfold reG; rw [hwh, if_pos c_1, if_pos c_2, if_pos hsv]]
        exact Run.ret (r := some (.int (0 : Int32))) ⟨d_I_relocationFault_117, _, rfl, rfl⟩ ⟨rfl, rfl⟩
      · subst k9
        refine Run.tsIn (tgt := 118) (off := 33) d_I_relocationFault_85 (by decide) (by decide) (by decide) (by decide) ?_
        refine Run.blk (gs := [True, True, True, True, True, True, True]) (S' := ([some (.ref 6), some (.ref 3), some (.int (nI i)), some (.int ((((lN (K 7)).toInt32) + (nI B)) + ((12 : Int32) * (nI i)))), some (.int (((lN (n4 b a)).toInt32) + (nI B))), some (.int ((lN (n4 b (a + 4))).toInt32)), some (.int ((lN (n4 b (a + 8))).toInt32))], [.int ((lN (n4 b (a + 8))).toInt32), .int ((((lN (n4 b (a + 4))).toInt32).toUInt32 >>> ((8 : Int32).toUInt32 &&& Int32.toUInt32 31)).toInt32), .int (((lN (n4 b a)).toInt32) + (nI B)), .ref 3, .ref 6], Ac fp le lp lb il tf tz (sbf b) rf fr mp (nI L.length) ifp (nI B) ie pw dh (lN (K 7)) rb re (lN (K 6)) (lN (K 11)) rc sg ex)) k_I_relocationFault_118 kc_I_relocationFault_118 rfl ⟨trivial, trivial, trivial, trivial, trivial, trivial, trivial, trivial⟩ ?_
        refine Run.callV (b := 6) (As := [.ref 3, .int (((lN (n4 b a)).toInt32) + (nI B)), .int ((((lN (n4 b (a + 4))).toInt32).toUInt32 >>> ((8 : Int32).toUInt32 &&& Int32.toUInt32 31)).toInt32), .int ((lN (n4 b (a + 8))).toInt32)]) (rest := []) v_I_relocationFault_129 (c_I_symbolFault hb hS hG hL hD hK (wh := wh) (nu := n4 b (a + 4) / 256) (mo := n4 b (a + 8)) rfl hw4 (by omega) (by rw [lN_i, nI_add, ← hwh]; exact nI_mod _) (by rw [lN_i]; exact nI_ushr8 h4l) (lN_i _)) rfl (Nat.le_of_ble_eq_true rfl) rfl rfl rfl rfl (fun r cs' hp => ?_)
        obtain ⟨rfl, rfl⟩ := hp
        show Run _ _ _ _ 132 ([some (.ref 6), some (.ref 3), some (.int (nI i)), some (.int ((((lN (K 7)).toInt32) + (nI B)) + ((12 : Int32) * (nI i)))), some (.int (((lN (n4 b a)).toInt32) + (nI B))), some (.int ((lN (n4 b (a + 4))).toInt32)), some (.int ((lN (n4 b (a + 8))).toInt32))], [.int ((syF L B K b wh (n4 b (a + 4) / 256) (n4 b (a + 8))).1)], Ac fp le lp lb il tf tz (sbf (syF L B K b wh (n4 b (a + 4) / 256) (n4 b (a + 8))).2) rf fr mp (nI L.length) ifp (nI B) ie pw dh (lN (K 7)) rb re (lN (K 6)) (lN (K 11)) rc sg ex) _
        rw [show (reG L B K b a) = (syF L B K b wh (n4 b (a + 4) / 256) (n4 b (a + 8))) by unfold reG; rw [hwh, if_pos c_1, if_pos c_2, if_neg (by omega), if_pos hsv]]
        exact Run.ret (r := some (.int ((syF L B K b wh (n4 b (a + 4) / 256) (n4 b (a + 8))).1))) ⟨d_I_relocationFault_132, _, rfl, rfl⟩ ⟨rfl, rfl⟩
      · subst k9
        refine Run.tsIn (tgt := 149) (off := 64) d_I_relocationFault_85 (by decide) (by decide) (by decide) (by decide) ?_
        refine Run.blk (gs := [True]) (S' := ([some (.ref 6), some (.ref 3), some (.int (nI i)), some (.int ((((lN (K 7)).toInt32) + (nI B)) + ((12 : Int32) * (nI i)))), some (.int (((lN (n4 b a)).toInt32) + (nI B))), some (.int ((lN (n4 b (a + 4))).toInt32)), some (.int ((lN (n4 b (a + 8))).toInt32))], [.int (21 : Int32)], Ac fp le lp lb il tf tz (sbf b) rf fr mp (nI L.length) ifp (nI B) ie pw dh (lN (K 7)) rb re (lN (K 6)) (lN (K 11)) rc sg ex)) k_I_relocationFault_149 kc_I_relocationFault_149 rfl ⟨trivial, trivial⟩ ?_
        rw [show (reG L B K b a) = (21, b) by unfold reG; rw [hwh, if_pos c_1, if_pos c_2, if_neg (by omega), if_neg (by omega), if_neg (by omega)]]
        exact Run.ret (r := some (.int (21 : Int32))) ⟨d_I_relocationFault_151, _, rfl, rfl⟩ ⟨rfl, rfl⟩
      · subst k9
        refine Run.tsIn (tgt := 133) (off := 48) d_I_relocationFault_85 (by decide) (by decide) (by decide) (by decide) ?_
        refine Run.blk (gs := [True, True, True, True, True, True, True]) (S' := ([some (.ref 6), some (.ref 3), some (.int (nI i)), some (.int ((((lN (K 7)).toInt32) + (nI B)) + ((12 : Int32) * (nI i)))), some (.int (((lN (n4 b a)).toInt32) + (nI B))), some (.int ((lN (n4 b (a + 4))).toInt32)), some (.int ((lN (n4 b (a + 8))).toInt32))], [.int ((nI B) + ((lN (n4 b (a + 8))).toInt32)), .int (4 : Int32), .int (((lN (n4 b a)).toInt32) + (nI B)), .ref 3], Ac fp le lp lb il tf tz (sbf b) rf fr mp (nI L.length) ifp (nI B) ie pw dh (lN (K 7)) rb re (lN (K 6)) (lN (K 11)) rc sg ex)) k_I_relocationFault_133 kc_I_relocationFault_133 rfl ⟨trivial, trivial, trivial, trivial, trivial, trivial, trivial, trivial⟩ ?_
        refine Run.callV (b := 3) (As := [.int (((lN (n4 b a)).toInt32) + (nI B)), .int (4 : Int32), .int ((nI B) + ((lN (n4 b (a + 8))).toInt32))]) (rest := []) v_I_relocationFault_144 (c_P_setNumber4 (p := wh) (by rw [lN_i, nI_add, ← hwh]; exact nI_mod _) hw4) rfl (Nat.le_of_ble_eq_true rfl) rfl rfl rfl rfl (fun r cs' hp => ?_)
        obtain ⟨rfl, rfl⟩ := hp
        show Run _ _ _ _ 147 ([some (.ref 6), some (.ref 3), some (.int (nI i)), some (.int ((((lN (K 7)).toInt32) + (nI B)) + ((12 : Int32) * (nI i)))), some (.int (((lN (n4 b a)).toInt32) + (nI B))), some (.int ((lN (n4 b (a + 4))).toInt32)), some (.int ((lN (n4 b (a + 8))).toInt32))], [], Ac fp le lp lb il tf tz (sbf (u4 b wh ((nI B) + ((lN (n4 b (a + 8))).toInt32)))) rf fr mp (nI L.length) ifp (nI B) ie pw dh (lN (K 7)) rb re (lN (K 6)) (lN (K 11)) rc sg ex) _
        refine Run.blk (gs := [True]) (S' := ([some (.ref 6), some (.ref 3), some (.int (nI i)), some (.int ((((lN (K 7)).toInt32) + (nI B)) + ((12 : Int32) * (nI i)))), some (.int (((lN (n4 b a)).toInt32) + (nI B))), some (.int ((lN (n4 b (a + 4))).toInt32)), some (.int ((lN (n4 b (a + 8))).toInt32))], [.int (0 : Int32)], Ac fp le lp lb il tf tz (sbf (u4 b wh ((nI B) + ((lN (n4 b (a + 8))).toInt32)))) rf fr mp (nI L.length) ifp (nI B) ie pw dh (lN (K 7)) rb re (lN (K 6)) (lN (K 11)) rc sg ex)) k_I_relocationFault_147 kc_I_relocationFault_147 rfl ⟨trivial, trivial⟩ ?_
        rw [show (reG L B K b a) = (0, u4 b wh (nI (B + n4 b (a + 8)))) by unfold reG; rw [hwh, if_pos c_1, if_pos c_2, if_neg (by omega), if_neg (by omega), if_pos hsv]]
        exact Run.ret (r := some (.int (0 : Int32))) ⟨d_I_relocationFault_148, _, rfl, rfl⟩ ⟨rfl, by rw [lN_i, nI_add]⟩
      · refine Run.tsOut (tgt := 149) d_I_relocationFault_85 (Or.inr (by rw [nI_toInt (by omega)]; omega)) (by decide) ?_
        refine Run.blk (gs := [True]) (S' := ([some (.ref 6), some (.ref 3), some (.int (nI i)), some (.int ((((lN (K 7)).toInt32) + (nI B)) + ((12 : Int32) * (nI i)))), some (.int (((lN (n4 b a)).toInt32) + (nI B))), some (.int ((lN (n4 b (a + 4))).toInt32)), some (.int ((lN (n4 b (a + 8))).toInt32))], [.int (21 : Int32)], Ac fp le lp lb il tf tz (sbf b) rf fr mp (nI L.length) ifp (nI B) ie pw dh (lN (K 7)) rb re (lN (K 6)) (lN (K 11)) rc sg ex)) k_I_relocationFault_149 kc_I_relocationFault_149 rfl ⟨trivial, trivial⟩ ?_
        rw [show (reG L B K b a) = (21, b) by unfold reG; rw [hwh, if_pos c_1, if_pos c_2, if_neg (by omega), if_neg (by omega), if_neg (by omega)]]
        exact Run.ret (r := some (.int (21 : Int32))) ⟨d_I_relocationFault_151, _, rfl, rfl⟩ ⟨rfl, rfl⟩
    · have c_2 := zi_f (Classical.not_not.mp c_2)
      refine Run.blk (gs := [True]) (S' := ([some (.ref 6), some (.ref 3), some (.int (nI i)), some (.int ((((lN (K 7)).toInt32) + (nI B)) + ((12 : Int32) * (nI i)))), some (.int (((lN (n4 b a)).toInt32) + (nI B))), some (.int ((lN (n4 b (a + 4))).toInt32)), some (.int ((lN (n4 b (a + 8))).toInt32))], [.int (20 : Int32)], Ac fp le lp lb il tf tz (sbf b) rf fr mp (nI L.length) ifp (nI B) ie pw dh (lN (K 7)) rb re (lN (K 6)) (lN (K 11)) rc sg ex)) k_I_relocationFault_76 kc_I_relocationFault_76 rfl ⟨trivial, trivial⟩ ?_
      rw [show (reG L B K b a) = (20, b) by unfold reG; rw [hwh, if_pos c_1, if_neg c_2]]
      exact Run.ret (r := some (.int (20 : Int32))) ⟨d_I_relocationFault_78, _, rfl, rfl⟩ ⟨rfl, rfl⟩
  · have c_1 := zi_f (Classical.not_not.mp c_1)
    refine Run.blk (gs := [True]) (S' := ([some (.ref 6), some (.ref 3), some (.int (nI i)), some (.int ((((lN (K 7)).toInt32) + (nI B)) + ((12 : Int32) * (nI i)))), none, none, none], [.int (20 : Int32)], Ac fp le lp lb il tf tz (sbf b) rf fr mp (nI L.length) ifp (nI B) ie pw dh (lN (K 7)) rb re (lN (K 6)) (lN (K 11)) rc sg ex)) k_I_relocationFault_26 kc_I_relocationFault_26 rfl ⟨trivial, trivial⟩ ?_
    rw [show (reG L B K b a) = (20, b) by unfold reG; rw [hwh, if_neg c_1]]
    exact Run.ret (r := some (.int (20 : Int32))) ⟨d_I_relocationFault_28, _, rfl, rfl⟩ ⟨rfl, rfl⟩
theorem syF_lt (hb : ∀ j, b j < 256) (B : Nat) (K : Nat → Nat) (wh nu mo : Nat) : ∀ j, (syF L B K b wh nu mo).2 j < 256 := by
  intro j
  unfold syF
  repeat' split
  · exact u4_lt hb _ _ j
  · exact hb j
  · exact u4_lt hb _ _ j
  · exact hb j
theorem reF_lt (hb : ∀ j, b j < 256) (B : Nat) (K : Nat → Nat) (i : Nat) : ∀ j, (reF L B K b i).2 j < 256 := by
  intro j
  unfold reF reG
  repeat' split
  · exact hb j
  · exact syF_lt hb _ _ _ _ _ j
  · exact u4_lt hb _ _ j
  · exact hb j
  · exact hb j
  · exact hb j
theorem reL_lt (B : Nat) (K : Nat → Nat) : ∀ (k i : Nat) (b : Nat → Nat), (∀ j, b j < 256) → ∀ j, (reL L B K k i b).2 j < 256
  | 0, i, b, hb, j => hb j
  | k + 1, i, b, hb, j => by
    unfold reL
    split
    · exact reL_lt B K k (i + 1) _ (reF_lt hb B K i) j
    · exact reF_lt hb B K i j
theorem reL_0 (B : Nat) (K : Nat → Nat) : ∀ (k i : Nat) (b : Nat → Nat), (reL L B K k i b).1.1 = 0 → (reL L B K k i b).1 = (0, -1)
  | 0, i, b, _ => rfl
  | k + 1, i, b, h => by
    unfold reL at h ⊢
    by_cases c : (reF L B K b i).1 = 0
    · rw [if_pos c] at h ⊢
      exact reL_0 B K k (i + 1) _ h
    · rw [if_neg c] at h; exact absurd h c
set_option maxRecDepth 100000 in
set_option maxHeartbeats 4000000 in
theorem l_I_relocationsFault (hS : hSg L sg) (hG : ∀ g, g ∈ L → Gd z r0 g) (hL : L.length ≤ 8) (hD : Dj L) (hK : ∀ j, K j < 2 ^ 32) {B N : Nat} (hN : N ≤ 60) : ∀ (k i : Nat) (v : Int32) (bb : Nat → Nat) (q3 : Option Value), v = nI i → (∀ j, bb j < 256) → i + k = N → Run m_I_relocationsFault n 0 0 2 ([some (.ref 6), some (.ref 3), some (.int v), q3], [], Ac fp le lp lb il tf tz (sbf bb) rf fr mp (nI L.length) (-1 : Int32) (nI B) ie pw dh (lN (K 7)) rb re (lN (K 6)) (lN (K 11)) (nI N) sg ex) (vm_is (some (.int (reL L B K k i bb).1.1)) (Ac fp le lp lb il tf tz (sbf (reL L B K k i bb).2) rf fr mp (nI L.length) ((reL L B K k i bb).1.2) (nI B) ie pw dh (lN (K 7)) rb re (lN (K 6)) (lN (K 11)) (nI N) sg ex))
  | 0, i, v, bb, q3, hv, hbb, h => by
    refine Run.blk (gs := [True, True, True]) (S' := ([some (.ref 6), some (.ref 3), some (.int v), q3], [.int (nI N), .int v], Ac fp le lp lb il tf tz (sbf bb) rf fr mp (nI L.length) (-1 : Int32) (nI B) ie pw dh (lN (K 7)) rb re (lN (K 6)) (lN (K 11)) (nI N) sg ex)) k_I_relocationsFault_2 kc_I_relocationsFault_2 rfl ⟨trivial, trivial, trivial, trivial⟩ ?_
    refine Run.br (tgt := 34) d_I_relocationsFault_7 rfl (by decide) (fun c_1 => ?_) (fun c_1 => ?_)
    · refine Run.blk (gs := [True]) (S' := ([some (.ref 6), some (.ref 3), some (.int v), q3], [.int (0 : Int32)], Ac fp le lp lb il tf tz (sbf bb) rf fr mp (nI L.length) (-1 : Int32) (nI B) ie pw dh (lN (K 7)) rb re (lN (K 6)) (lN (K 11)) (nI N) sg ex)) k_I_relocationsFault_34 kc_I_relocationsFault_34 rfl ⟨trivial, trivial⟩ ?_
      exact Run.ret (r := some (.int (0 : Int32))) ⟨d_I_relocationsFault_35, _, rfl, rfl⟩ ⟨rfl, rfl⟩
    · exact absurd (by rw [hv]; exact (nI_leI (a := N) (b := i) (by omega) (by omega)).mpr (by omega)) c_1
  | k + 1, i, v, bb, q3, hv, hbb, h => by
    refine Run.blk (gs := [True, True, True]) (S' := ([some (.ref 6), some (.ref 3), some (.int v), q3], [.int (nI N), .int v], Ac fp le lp lb il tf tz (sbf bb) rf fr mp (nI L.length) (-1 : Int32) (nI B) ie pw dh (lN (K 7)) rb re (lN (K 6)) (lN (K 11)) (nI N) sg ex)) k_I_relocationsFault_2 kc_I_relocationsFault_2 rfl ⟨trivial, trivial, trivial, trivial⟩ ?_
    refine Run.br (tgt := 34) d_I_relocationsFault_7 rfl (by decide) (fun c_1 => ?_) (fun c_1 => ?_)
    · exact absurd ((nI_leI (a := N) (b := i) (by omega) (by omega)).mp (by rw [← hv]; exact c_1)) (by omega)
    · refine Run.blk (gs := [True, True, True]) (S' := ([some (.ref 6), some (.ref 3), some (.int v), q3], [.int v, .ref 3, .ref 6], Ac fp le lp lb il tf tz (sbf bb) rf fr mp (nI L.length) (-1 : Int32) (nI B) ie pw dh (lN (K 7)) rb re (lN (K 6)) (lN (K 11)) (nI N) sg ex)) k_I_relocationsFault_10 kc_I_relocationsFault_10 rfl ⟨trivial, trivial, trivial, trivial⟩ ?_
      refine Run.callV (b := 6) (As := [.ref 3, .int v]) (rest := []) v_I_relocationsFault_13 (c_I_relocationFault hbb hS hG hL hD hK hv) rfl (Nat.le_of_ble_eq_true rfl) rfl rfl rfl rfl (fun r cs' hp => ?_)
      obtain ⟨rfl, rfl⟩ := hp
      show Run _ _ _ _ 16 ([some (.ref 6), some (.ref 3), some (.int v), q3], [.int ((reF L B K bb i).1)], Ac fp le lp lb il tf tz (sbf (reF L B K bb i).2) rf fr mp (nI L.length) (-1 : Int32) (nI B) ie pw dh (lN (K 7)) rb re (lN (K 6)) (lN (K 11)) (nI N) sg ex) _
      refine Run.blk (gs := [True, True]) (S' := ([some (.ref 6), some (.ref 3), some (.int v), some (.int ((reF L B K bb i).1))], [.int ((reF L B K bb i).1)], Ac fp le lp lb il tf tz (sbf (reF L B K bb i).2) rf fr mp (nI L.length) (-1 : Int32) (nI B) ie pw dh (lN (K 7)) rb re (lN (K 6)) (lN (K 11)) (nI N) sg ex)) k_I_relocationsFault_16 kc_I_relocationsFault_16 rfl ⟨trivial, trivial, trivial⟩ ?_
      refine Run.br (tgt := 28) d_I_relocationsFault_18 rfl (by decide) (fun c_2 => ?_) (fun c_2 => ?_)
      · refine Run.blk (gs := [True]) (S' := ([some (.ref 6), some (.ref 3), some (.int (v + (1 : Int32))), some (.int ((reF L B K bb i).1))], [], Ac fp le lp lb il tf tz (sbf (reF L B K bb i).2) rf fr mp (nI L.length) (-1 : Int32) (nI B) ie pw dh (lN (K 7)) rb re (lN (K 6)) (lN (K 11)) (nI N) sg ex)) k_I_relocationsFault_28 kc_I_relocationsFault_28 rfl ⟨trivial, trivial⟩ ?_
        refine Run.goto (tgt := 2) d_I_relocationsFault_31 (by decide) ?_
        rw [show reL L B K (k + 1) i bb = reL L B K k (i + 1) (reF L B K bb i).2 by rw [reL, if_pos c_2]]
        exact l_I_relocationsFault hS hG hL hD hK hN k (i + 1) _ _ _ (by rw [hv, nI_1]) (reF_lt hbb B K i) (by omega)
      · refine Run.blk (gs := [True, True, True]) (S' := ([some (.ref 6), some (.ref 3), some (.int v), some (.int ((reF L B K bb i).1))], [.int v, .int ((reF L B K bb i).1), .ref 6], Ac fp le lp lb il tf tz (sbf (reF L B K bb i).2) rf fr mp (nI L.length) (-1 : Int32) (nI B) ie pw dh (lN (K 7)) rb re (lN (K 6)) (lN (K 11)) (nI N) sg ex)) k_I_relocationsFault_21 kc_I_relocationsFault_21 rfl ⟨trivial, trivial, trivial, trivial⟩ ?_
        refine Run.callV (b := 6) (As := [.int ((reF L B K bb i).1), .int v]) (rest := []) v_I_relocationsFault_24 c_I_fault rfl (Nat.le_of_ble_eq_true rfl) rfl rfl rfl rfl (fun r cs' hp => ?_)
        obtain ⟨rfl, rfl⟩ := hp
        show Run _ _ _ _ 27 ([some (.ref 6), some (.ref 3), some (.int v), some (.int ((reF L B K bb i).1))], [.int ((reF L B K bb i).1)], Ac fp le lp lb il tf tz (sbf (reF L B K bb i).2) rf fr mp (nI L.length) v (nI B) ie pw dh (lN (K 7)) rb re (lN (K 6)) (lN (K 11)) (nI N) sg ex) _
        rw [show reL L B K (k + 1) i bb = (((reF L B K bb i).1, nI i), (reF L B K bb i).2) by rw [reL, if_neg c_2]]
        exact Run.ret (r := some (.int ((reF L B K bb i).1))) ⟨d_I_relocationsFault_27, _, rfl, rfl⟩ ⟨rfl, by rw [hv]⟩
set_option maxRecDepth 100000 in
set_option maxHeartbeats 4000000 in
theorem c_I_relocationsFault (hS : hSg L sg) (hG : ∀ g, g ∈ L → Gd z r0 g) (hL : L.length ≤ 8) (hD : Dj L) (hK : ∀ j, K j < 2 ^ 32) {B N : Nat} (hN : N ≤ 60) (hb : ∀ j, b j < 256) : Ct m_I_relocationsFault 0 0 [.ref 6, .ref 3] (Ac fp le lp lb il tf tz (sbf b) rf fr mp (nI L.length) (-1 : Int32) (nI B) ie pw dh (lN (K 7)) rb re (lN (K 6)) (lN (K 11)) (nI N) sg ex) (vm_is (some (.int (reL L B K N 0 b).1.1)) (Ac fp le lp lb il tf tz (sbf (reL L B K N 0 b).2) rf fr mp (nI L.length) ((reL L B K N 0 b).1.2) (nI B) ie pw dh (lN (K 7)) rb re (lN (K 6)) (lN (K 11)) (nI N) sg ex)) := by
  refine Ct.of ⟨by decide +kernel, rfl⟩ (Nat.le_of_ble_eq_true rfl) (lv := [some (.ref 6), some (.ref 3), none, none]) rfl ?_
  refine Run.blk (gs := [True, True]) (S' := ([some (.ref 6), some (.ref 3), some (.int (0 : Int32)), none], [], Ac fp le lp lb il tf tz (sbf b) rf fr mp (nI L.length) (-1 : Int32) (nI B) ie pw dh (lN (K 7)) rb re (lN (K 6)) (lN (K 11)) (nI N) sg ex)) k_I_relocationsFault_0 kc_I_relocationsFault_0 rfl ⟨trivial, trivial, trivial⟩ ?_
  exact l_I_relocationsFault hS hG hL hD hK hN N 0 _ _ _ rfl hb (by omega)
end P39
