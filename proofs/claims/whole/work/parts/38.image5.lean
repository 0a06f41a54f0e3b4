/-! bytes that are held: counted, and one by one -/
def hT (St He a : Nat) : Nat → Nat → Nat
  | _, 0 => 0
  | k, r + 1 => (if St ≤ (a + k) % 4294967296 ∧ (a + k) % 4294967296 < St + He then 1 else 0) + hT St He a (k + 1) r
def hCk (a : Nat) : List SG → Nat → Nat → Nat
  | [], _, _ => 0
  | (_, _, St, _, He, _, _) :: R, k, r => hT St He a k r + hCk a R k r
def cSt (x : Nat) : List SG → Nat
  | [] => 0
  | (_, _, St, _, He, _, _) :: R => (if St ≤ x ∧ x < St + He then 1 else 0) + cSt x R
theorem hCk_0 (a : Nat) : ∀ (L : List SG) (k : Nat), hCk a L k 0 = 0
  | [], _ => rfl
  | (_, _, St, _, He, _, _) :: R, k => by rw [hCk, hT, hCk_0 a R k]
theorem hCk_s (a : Nat) : ∀ (L : List SG) (k r : Nat), hCk a L k (r + 1) = cSt ((a + k) % 4294967296) L + hCk a L (k + 1) r
  | [], _, _ => rfl
  | (_, _, St, _, He, _, _) :: R, k, r => by rw [hCk, hT, hCk_s a R k r, cSt, hCk]; omega
theorem pg_in {St He x : Nat} (h : St ≤ x ∧ x < St + He) : pgA St He ≤ x / 256 ∧ x / 256 < pgC St He := by
  unfold pgA pgC
  rw [if_neg (by omega), if_neg (by omega)]
  omega
theorem cSt_0 {x : Nat} : ∀ {L : List SG}, (∀ g, g ∈ L → ¬ (gA g ≤ x / 256 ∧ x / 256 < gC g)) → cSt x L = 0 ∧ hB x L = false
  | [], _ => ⟨rfl, rfl⟩
  | (O, Ad, St, Fi, He, Al, fl) :: R, h => by
    have h0 : ¬ (St ≤ x ∧ x < St + He) := fun w => h _ List.mem_cons_self (pg_in w)
    obtain ⟨h1, h2⟩ := cSt_0 (fun g hg => h g (List.mem_cons_of_mem _ hg))
    rw [cSt, if_neg h0, hB, if_neg h0]
    exact ⟨by omega, h2⟩
theorem cSt_1 {x : Nat} : ∀ {L : List SG}, Dj L → cSt x L = if hB x L = true then 1 else 0
  | [], _ => rfl
  | (O, Ad, St, Fi, He, Al, fl) :: R, h => by
    obtain ⟨h1, h2⟩ := List.pairwise_cons.mp h
    rw [cSt, hB]
    by_cases h0 : St ≤ x ∧ x < St + He
    · rw [if_pos h0, if_pos h0, if_pos rfl]
      have hp := pg_in h0
      rw [(cSt_0 (x := x) (L := R) (fun g hg w => h1 g hg ⟨by show gA g < pgC St He; omega, by show pgA St He < gC g; omega⟩)).1]
    · rw [if_neg h0, if_neg h0, cSt_1 h2]; omega
theorem hCk_hA {a : Nat} {L : List SG} (hD : Dj L) : ∀ (r k : Nat), hCk a L k r ≤ r ∧ (hCk a L k r = r ↔ hA L a k r = true)
  | 0, k => by rw [hCk_0]; exact ⟨Nat.le_refl _, fun _ => rfl, fun _ => rfl⟩
  | r + 1, k => by
    obtain ⟨h1, h2⟩ := hCk_hA (a := a) hD r (k + 1)
    rw [hCk_s, cSt_1 hD, hA]
    by_cases hb : hB ((a + k) % 4294967296) L = true
    · rw [if_pos hb, if_pos hb]
      exact ⟨by omega, fun w => h2.mp (by omega), fun w => by have := h2.mpr w; omega⟩
    · rw [if_neg hb, if_neg hb]
      exact ⟨by omega, fun w => by omega, fun w => absurd w (by decide)⟩
theorem hB_lt {z : Nat} {rf : Nat → Int32} {x : Nat} : ∀ {L : List SG}, (∀ g, g ∈ L → Gd z rf g) → hB x L = true → x < 16384
  | [], _, h => absurd (show false = true from h) (by decide)
  | (O, Ad, St, Fi, He, Al, fl) :: R, hG, h => by
    rw [hB] at h
    by_cases h0 : St ≤ x ∧ x < St + He
    · have := (hG _ List.mem_cons_self).2.1.2.2
      omega
    · rw [if_neg h0] at h
      exact hB_lt (fun g hg => hG g (List.mem_cons_of_mem _ hg)) h
theorem hA_at {L : List SG} {a : Nat} : ∀ {r k : Nat}, hA L a k r = true → ∀ j, j < r → hB ((a + k + j) % 4294967296) L = true
  | 0, k, _, j, hj => absurd hj (by omega)
  | r + 1, k, h, j, hj => by
    rw [hA] at h
    by_cases hb : hB ((a + k) % 4294967296) L = true
    · rw [if_pos hb] at h
      by_cases h0 : j = 0
      · rw [h0]; exact hb
      · have := hA_at h (j - 1) (by omega)
        rw [show a + (k + 1) + (j - 1) = a + k + j by omega] at this
        exact this
    · rw [if_neg hb] at h; exact absurd h (by decide)
theorem hA_le {z : Nat} {rf : Nat → Int32} {L : List SG} {a N : Nat} (hG : ∀ g, g ∈ L → Gd z rf g) (h : hA L a 0 N = true) (h1 : 1 ≤ N) (h2 : N ≤ 16) (ha : a < 4294967296) : a + N ≤ 16384 := by
  have e1 := hB_lt hG (hA_at h 0 (by omega))
  have e2 := hB_lt hG (hA_at h (N - 1) (by omega))
  omega
theorem nI_ushr8 {a : Nat} (ha : a < 4294967296) : ((nI a).toUInt32 >>> ((8 : Int32).toUInt32 &&& Int32.toUInt32 31)).toInt32 = nI (a / 256) := by
  apply Int32.toBitVec_inj.mp
  show (BitVec.ofNat 32 a) >>> (((8 : Int32).toUInt32 &&& Int32.toUInt32 31).toBitVec % 32) = BitVec.ofNat 32 (a / 256)
  rw [show (((8 : Int32).toUInt32 &&& Int32.toUInt32 31).toBitVec % 32) = 8#32 from by decide]
  apply BitVec.eq_of_toNat_eq
  show ((BitVec.ofNat 32 a) >>> (8 : Nat)).toNat = _
  rw [BitVec.toNat_ushiftRight, BitVec.toNat_ofNat, BitVec.toNat_ofNat, Nat.shiftRight_eq_div_pow]
  omega
theorem rel_at {K7 B i a c : Nat} (C : Int32) (hC : C = nI c) (h : (K7 + B + c * i) % 4294967296 = a) : (lN K7).toInt32 + nI B + C * nI i = nI a := by
  rw [hC, pk_mul, lN_i, nI_add, nI_add, ← h]; exact nI_mod _
section P38
variable {fp le lp lb il : Int32} {tf bf rf : Nat → Int32} {tz fr mp sc ifp ib ie pw dh rc : Int32} {rl rb re sy sb : Int64} {sg : Nat → A_G} {ex : List va_E}
variable {cs : List va_E} {n : Nat} {t b : Nat → Nat} {z : Nat} {L : List SG} {O Ad St Fi He Al : Nat} {fl : Int32} {q j : Nat} {r0 : Nat → Int32} {K : Nat → Nat}
set_option maxRecDepth 100000 in
set_option maxHeartbeats 4000000 in
theorem l_I_areHeld_in {a N i C : Nat} {v : Int32} (hN : N ≤ 16) (hv : v = nI i) (hi8 : i < 8) (hS : hSg L sg) (hg : L[i]? = some (O, Ad, St, Fi, He, Al, fl)) (hO : O < 2 ^ 32) (hAd : Ad < 2 ^ 32) (hSt : St < 2 ^ 33) (hHe : He < 2 ^ 32) (hAl : Al < 2 ^ 32) (hsp : He = 0 ∨ St + He ≤ 16384) (kont : ∀ (v' fnd' : Int32) (F' : Nat) (q5 : Option Value), v' = nI (i + 1) → fnd' = nI F' → F' ≤ 16 * (i + 1) → Run m_I_areHeld n 0 0 5 ([some (.ref 6), some (.int (nI a)), some (.int (nI N)), some (.int (fnd')), some (.int (v')), q5], [], Ac fp le lp lb il tf tz bf rf fr mp (nI L.length) ifp ib ie pw dh rl rb re sy sb rc sg ex) (vm_is (some (.int (if F' + C = N then 1 else 0))) (Ac fp le lp lb il tf tz bf rf fr mp (nI L.length) ifp ib ie pw dh rl rb re sy sb rc sg ex))) : ∀ (r k : Nat) (u fnd : Int32) (F : Nat), u = nI k → fnd = nI F → k + r = N → F ≤ 16 * i + k → Run m_I_areHeld n 0 0 27 ([some (.ref 6), some (.int (nI a)), some (.int (nI N)), some (.int fnd), some (.int v), some (.int u)], [], Ac fp le lp lb il tf tz bf rf fr mp (nI L.length) ifp ib ie pw dh rl rb re sy sb rc sg ex) (vm_is (some (.int (if F + hT St He a k r + C = N then 1 else 0))) (Ac fp le lp lb il tf tz bf rf fr mp (nI L.length) ifp ib ie pw dh rl rb re sy sb rc sg ex))
  | 0, k, u, fnd, F, hu, hf, h, hF => by
    refine Run.blk (gs := [True, True]) (S' := ([some (.ref 6), some (.int (nI a)), some (.int (nI N)), some (.int fnd), some (.int v), some (.int u)], [.int (nI N), .int u], Ac fp le lp lb il tf tz bf rf fr mp (nI L.length) ifp ib ie pw dh rl rb re sy sb rc sg ex)) k_I_areHeld_27 kc_I_areHeld_27 rfl ⟨trivial, trivial, trivial⟩ ?_
    refine Run.br (tgt := 60) d_I_areHeld_30 rfl (by decide) (fun c_1 => ?_) (fun c_1 => ?_)
    · refine Run.blk (gs := [True]) (S' := ([some (.ref 6), some (.int (nI a)), some (.int (nI N)), some (.int fnd), some (.int (v + (1 : Int32))), some (.int u)], [], Ac fp le lp lb il tf tz bf rf fr mp (nI L.length) ifp ib ie pw dh rl rb re sy sb rc sg ex)) k_I_areHeld_60 kc_I_areHeld_60 rfl ⟨trivial, trivial⟩ ?_
      refine Run.goto (tgt := 5) d_I_areHeld_63 (by decide) ?_
      rw [show F + hT St He a k 0 + C = F + C from rfl]
      exact kont _ _ F _ (by rw [hv, nI_1]) hf (by omega)
    · exact absurd (by rw [hu]; exact (nI_leI (a := N) (b := k) (by omega) (by omega)).mpr (by omega)) c_1
  | r + 1, k, u, fnd, F, hu, hf, h, hF => by
    refine Run.blk (gs := [True, True]) (S' := ([some (.ref 6), some (.int (nI a)), some (.int (nI N)), some (.int fnd), some (.int v), some (.int u)], [.int (nI N), .int u], Ac fp le lp lb il tf tz bf rf fr mp (nI L.length) ifp ib ie pw dh rl rb re sy sb rc sg ex)) k_I_areHeld_27 kc_I_areHeld_27 rfl ⟨trivial, trivial, trivial⟩ ?_
    refine Run.br (tgt := 60) d_I_areHeld_30 rfl (by decide) (fun c_1 => ?_) (fun c_1 => ?_)
    · exact absurd ((nI_leI (a := N) (b := k) (by omega) (by omega)).mp (by rw [← hu]; exact c_1)) (by omega)
    · refine Run.blk (gs := [True, True, True]) (S' := ([some (.ref 6), some (.int (nI a)), some (.int (nI N)), some (.int fnd), some (.int v), some (.int u)], [.int v, .ref 7], Ac fp le lp lb il tf tz bf rf fr mp (nI L.length) ifp ib ie pw dh rl rb re sy sb rc sg ex)) k_I_areHeld_33 kc_I_areHeld_33 rfl ⟨trivial, trivial, trivial, trivial⟩ ?_
      refine Run.aald (q := 8 + i) d_I_areHeld_39 rfl rfl (vp_j hv hi8) (sgf_at hv hi8) ?_
      refine Run.blk (gs := [True, True, True, True]) (S' := ([some (.ref 6), some (.int (nI a)), some (.int (nI N)), some (.int fnd), some (.int v), some (.int u)], [.long (((nI a) + u).toInt64), .ref (8 + i)], Ac fp le lp lb il tf tz bf rf fr mp (nI L.length) ifp ib ie pw dh rl rb re sy sb rc sg ex)) k_I_areHeld_40 kc_I_areHeld_40 rfl ⟨trivial, trivial, trivial, trivial, trivial⟩ ?_
      refine Run.callV (b := (8 + i)) (As := [.long (((nI a) + u).toInt64)]) (rest := []) v_I_areHeld_45 (c_S_holdsI (Ac_segG (show i < 8 by omega) (hS _ _ hg)) hO hAd hSt hHe hAl hsp (a := a + k) (by rw [hu, nI_add])) rfl (Nat.le_of_ble_eq_true rfl) rfl (Ac_segG (show i < 8 by omega) (hS _ _ hg)) rfl rfl (fun r cs' hp => ?_)
      obtain ⟨rfl, rfl⟩ := hp
      show Run _ _ _ _ 48 ([some (.ref 6), some (.int (nI a)), some (.int (nI N)), some (.int fnd), some (.int v), some (.int u)], [.int (if St ≤ (a + k) % 4294967296 ∧ (a + k) % 4294967296 < St + He then 1 else 0)], Ac fp le lp lb il tf tz bf rf fr mp (nI L.length) ifp ib ie pw dh rl rb re sy sb rc sg ex) _
      refine Run.br (tgt := 54) d_I_areHeld_48 rfl (by decide) (fun c_2 => ?_) (fun c_2 => ?_)
      · have c_2 := zi_f c_2
        refine Run.blk (gs := [True]) (S' := ([some (.ref 6), some (.int (nI a)), some (.int (nI N)), some (.int fnd), some (.int v), some (.int (u + (1 : Int32)))], [], Ac fp le lp lb il tf tz bf rf fr mp (nI L.length) ifp ib ie pw dh rl rb re sy sb rc sg ex)) k_I_areHeld_54 kc_I_areHeld_54 rfl ⟨trivial, trivial⟩ ?_
        refine Run.goto (tgt := 27) d_I_areHeld_57 (by decide) ?_
        rw [show F + hT St He a k (r + 1) + C = F + hT St He a (k + 1) r + C by rw [hT, if_neg c_2]; omega]
        exact l_I_areHeld_in hN hv hi8 hS hg hO hAd hSt hHe hAl hsp kont r (k + 1) _ _ F (by rw [hu, nI_1]) hf (by omega) (by omega)
      · have c_2 := zi_t c_2
        refine Run.blk (gs := [True]) (S' := ([some (.ref 6), some (.int (nI a)), some (.int (nI N)), some (.int (fnd + (1 : Int32))), some (.int v), some (.int u)], [], Ac fp le lp lb il tf tz bf rf fr mp (nI L.length) ifp ib ie pw dh rl rb re sy sb rc sg ex)) k_I_areHeld_51 kc_I_areHeld_51 rfl ⟨trivial, trivial⟩ ?_
        refine Run.blk (gs := [True]) (S' := ([some (.ref 6), some (.int (nI a)), some (.int (nI N)), some (.int (fnd + (1 : Int32))), some (.int v), some (.int (u + (1 : Int32)))], [], Ac fp le lp lb il tf tz bf rf fr mp (nI L.length) ifp ib ie pw dh rl rb re sy sb rc sg ex)) k_I_areHeld_54 kc_I_areHeld_54 rfl ⟨trivial, trivial⟩ ?_
        refine Run.goto (tgt := 27) d_I_areHeld_57 (by decide) ?_
        rw [show F + hT St He a k (r + 1) + C = (F + 1) + hT St He a (k + 1) r + C by rw [hT, if_pos c_2]; omega]
        exact l_I_areHeld_in hN hv hi8 hS hg hO hAd hSt hHe hAl hsp kont r (k + 1) _ _ (F + 1) (by rw [hu, nI_1]) (by rw [hf, nI_1]) (by omega) (by omega)
set_option maxRecDepth 100000 in
set_option maxHeartbeats 4000000 in
theorem l_I_areHeld {a N : Nat} (hN : N ≤ 16) (hS : hSg L sg) (hG : ∀ g, g ∈ L → Gd z r0 g) (hL : L.length ≤ 8) : ∀ (R : List SG) (i : Nat) (v fnd : Int32) (F : Nat) (q5 : Option Value), v = nI i → fnd = nI F → L.drop i = R → i ≤ 8 → F ≤ 16 * i → Run m_I_areHeld n 0 0 5 ([some (.ref 6), some (.int (nI a)), some (.int (nI N)), some (.int fnd), some (.int v), q5], [], Ac fp le lp lb il tf tz bf rf fr mp (nI L.length) ifp ib ie pw dh rl rb re sy sb rc sg ex) (vm_is (some (.int (if F + hCk a R 0 N = N then 1 else 0))) (Ac fp le lp lb il tf tz bf rf fr mp (nI L.length) ifp ib ie pw dh rl rb re sy sb rc sg ex))
  | [], i, v, fnd, F, q5, hv, hf, hd, hi9, hF => by
    rw [show F + hCk a [] 0 N = F from rfl]
    refine Run.blk (gs := [True, True, True]) (S' := ([some (.ref 6), some (.int (nI a)), some (.int (nI N)), some (.int fnd), some (.int v), q5], [.int (nI L.length), .int v], Ac fp le lp lb il tf tz bf rf fr mp (nI L.length) ifp ib ie pw dh rl rb re sy sb rc sg ex)) k_I_areHeld_5 kc_I_areHeld_5 rfl ⟨trivial, trivial, trivial, trivial⟩ ?_
    refine Run.br (tgt := 66) d_I_areHeld_11 rfl (by decide) (fun c_1 => ?_) (fun c_1 => ?_)
    · refine Run.blk (gs := [True, True]) (S' := ([some (.ref 6), some (.int (nI a)), some (.int (nI N)), some (.int fnd), some (.int v), q5], [.int (nI N), .int fnd], Ac fp le lp lb il tf tz bf rf fr mp (nI L.length) ifp ib ie pw dh rl rb re sy sb rc sg ex)) k_I_areHeld_66 kc_I_areHeld_66 rfl ⟨trivial, trivial, trivial⟩ ?_
      refine Run.br (tgt := 75) d_I_areHeld_68 rfl (by decide) (fun c_2 => ?_) (fun c_2 => ?_)
      · rw [hf, nI_eq (by omega) (by omega)] at c_2
        refine Run.blk (gs := [True]) (S' := ([some (.ref 6), some (.int (nI a)), some (.int (nI N)), some (.int fnd), some (.int v), q5], [.int (0 : Int32)], Ac fp le lp lb il tf tz bf rf fr mp (nI L.length) ifp ib ie pw dh rl rb re sy sb rc sg ex)) k_I_areHeld_75 kc_I_areHeld_75 rfl ⟨trivial, trivial⟩ ?_
        rw [if_neg c_2]
        exact Run.ret (r := some (.int (0 : Int32))) ⟨d_I_areHeld_76, _, rfl, rfl⟩ ⟨rfl, rfl⟩
      · have c_2 := Classical.not_not.mp c_2
        rw [hf, nI_eq (by omega) (by omega)] at c_2
        refine Run.blk (gs := [True]) (S' := ([some (.ref 6), some (.int (nI a)), some (.int (nI N)), some (.int fnd), some (.int v), q5], [.int (1 : Int32)], Ac fp le lp lb il tf tz bf rf fr mp (nI L.length) ifp ib ie pw dh rl rb re sy sb rc sg ex)) k_I_areHeld_71 kc_I_areHeld_71 rfl ⟨trivial, trivial⟩ ?_
        refine Run.goto (tgt := 76) d_I_areHeld_72 (by decide) ?_
        rw [if_pos c_2]
        exact Run.ret (r := some (.int (1 : Int32))) ⟨d_I_areHeld_76, _, rfl, rfl⟩ ⟨rfl, rfl⟩
    · exact absurd (by rw [hv]; exact (nI_leI (a := L.length) (b := i) (by omega) (by omega)).mpr (drop_n hd)) c_1
  | (O, Ad, St, Fi, He, Al, fl) :: R, i, v, fnd, F, q5, hv, hf, hd, hi9, hF => by
    obtain ⟨hg, hd2, hi⟩ := drop_c hd
    obtain ⟨⟨hO, hAd, hSt, hHe, hAl⟩, ⟨hFi, hOz, hsp⟩, -⟩ := hG _ (List.mem_of_getElem? hg)
    refine Run.blk (gs := [True, True, True]) (S' := ([some (.ref 6), some (.int (nI a)), some (.int (nI N)), some (.int fnd), some (.int v), q5], [.int (nI L.length), .int v], Ac fp le lp lb il tf tz bf rf fr mp (nI L.length) ifp ib ie pw dh rl rb re sy sb rc sg ex)) k_I_areHeld_5 kc_I_areHeld_5 rfl ⟨trivial, trivial, trivial, trivial⟩ ?_
    refine Run.br (tgt := 66) d_I_areHeld_11 rfl (by decide) (fun c_1 => ?_) (fun c_1 => ?_)
    · exact absurd ((nI_leI (a := L.length) (b := i) (by omega) (by omega)).mp (by rw [← hv]; exact c_1)) (by omega)
    · refine Run.blk (gs := [True, True, True, True]) (S' := ([some (.ref 6), some (.int (nI a)), some (.int (nI N)), some (.int fnd), some (.int v), q5], [.int (nI 8), .int v], Ac fp le lp lb il tf tz bf rf fr mp (nI L.length) ifp ib ie pw dh rl rb re sy sb rc sg ex)) k_I_areHeld_14 kc_I_areHeld_14 rfl ⟨trivial, trivial, trivial, trivial, trivial⟩ ?_
      refine Run.br (tgt := 66) d_I_areHeld_21 rfl (by decide) (fun c_2 => ?_) (fun c_2 => ?_)
      · exact absurd ((nI_leI (a := 8) (b := i) (by omega) (by omega)).mp (by rw [← hv]; exact c_2)) (by omega)
      · refine Run.blk (gs := [True, True]) (S' := ([some (.ref 6), some (.int (nI a)), some (.int (nI N)), some (.int fnd), some (.int v), some (.int (0 : Int32))], [], Ac fp le lp lb il tf tz bf rf fr mp (nI L.length) ifp ib ie pw dh rl rb re sy sb rc sg ex)) k_I_areHeld_24 kc_I_areHeld_24 rfl ⟨trivial, trivial, trivial⟩ ?_
        rw [show F + hCk a ((O, Ad, St, Fi, He, Al, fl) :: R) 0 N = F + hT St He a 0 N + hCk a R 0 N by rw [hCk]; omega]
        exact l_I_areHeld_in hN hv (by omega) hS hg hO hAd hSt hHe hAl hsp (fun v' fnd' F' q5 e1 e2 e3 => l_I_areHeld hN hS hG hL R (i + 1) v' fnd' F' q5 e1 e2 hd2 (by omega) e3) N 0 _ _ F rfl hf (by omega) (by omega)
set_option maxRecDepth 100000 in
set_option maxHeartbeats 4000000 in
theorem c_I_areHeld {a N : Nat} (hN : N ≤ 16) (hS : hSg L sg) (hG : ∀ g, g ∈ L → Gd z r0 g) (hL : L.length ≤ 8) (hD : Dj L) {x y : Int32} (hx : x = nI a) (hy : y = nI N) : Ct m_I_areHeld 0 0 [.ref 6, .int x, .int y] (Ac fp le lp lb il tf tz bf rf fr mp (nI L.length) ifp ib ie pw dh rl rb re sy sb rc sg ex) (vm_is (some (.int (if hA L a 0 N = true then 1 else 0))) (Ac fp le lp lb il tf tz bf rf fr mp (nI L.length) ifp ib ie pw dh rl rb re sy sb rc sg ex)) := by
  subst hx
  subst hy
  have e9 : (if hA L a 0 N = true then (1 : Int32) else 0) = if 0 + hCk a L 0 N = N then 1 else 0 := ite_congr (propext (by rw [Nat.zero_add]; exact (hCk_hA hD N 0).2.symm)) (fun _ => rfl) (fun _ => rfl)
  rw [e9]
  refine Ct.of ⟨by decide +kernel, rfl⟩ (Nat.le_of_ble_eq_true rfl) (lv := [some (.ref 6), some (.int (nI a)), some (.int (nI N)), none, none, none]) rfl ?_
  refine Run.blk (gs := [True, True, True, True]) (S' := ([some (.ref 6), some (.int (nI a)), some (.int (nI N)), some (.int (0 : Int32)), some (.int (0 : Int32)), none], [], Ac fp le lp lb il tf tz bf rf fr mp (nI L.length) ifp ib ie pw dh rl rb re sy sb rc sg ex)) k_I_areHeld_0 kc_I_areHeld_0 rfl ⟨trivial, trivial, trivial, trivial, trivial⟩ ?_
  exact l_I_areHeld hN hS hG hL L 0 _ _ 0 _ rfl rfl rfl (by omega) (by omega)
set_option maxRecDepth 100000 in
set_option maxHeartbeats 4000000 in
theorem c_I_symbolFault (hb : ∀ j, b j < 256) (hS : hSg L sg) (hG : ∀ g, g ∈ L → Gd z r0 g) (hL : L.length ≤ 8) (hD : Dj L) (hK : ∀ j, K j < 2 ^ 32) {B : Nat} {wh nu mo s : Nat} (hs : (K 6 + B + 16 * nu) % 4294967296 = s) (hwh : wh + 4 ≤ 16384) (hnu : nu < 2 ^ 24) {x1 x2 x3 : Int32} (e1 : x1 = nI wh) (e2 : x2 = nI nu) (e3 : x3 = nI mo) : Ct m_I_symbolFault 0 0 [.ref 6, .ref 3, .int x1, .int x2, .int x3] (Ac fp le lp lb il tf tz (sbf b) rf fr mp (nI L.length) ifp (nI B) ie pw dh (lN (K 7)) rb re (lN (K 6)) (lN (K 11)) rc sg ex) (vm_is (some (.int (syF L B K b wh nu mo).1)) (Ac fp le lp lb il tf tz (sbf (syF L B K b wh nu mo).2) rf fr mp (nI L.length) ifp (nI B) ie pw dh (lN (K 7)) rb re (lN (K 6)) (lN (K 11)) rc sg ex)) := by
  subst e1
  subst e2
  subst e3
  have h11 := hK 11
  have hsl : s < 4294967296 := by rw [← hs]; exact Nat.mod_lt _ (by decide)
  have hn2 : n2 b (s + 14) < 65536 := by unfold n2; have := hb (s + 14); have := hb (s + 14 + 1); omega
  refine Ct.of ⟨by decide +kernel, rfl⟩ (Nat.le_of_ble_eq_true rfl) (lv := [some (.ref 6), some (.ref 3), some (.int (nI wh)), some (.int (nI nu)), some (.int (nI mo)), none, none]) rfl ?_
  refine Run.blk (gs := [True, True, True, True, True, True, True, True, True, True, True, True, True, True]) (S' := ([some (.ref 6), some (.ref 3), some (.int (nI wh)), some (.int (nI nu)), some (.int (nI mo)), some (.int ((((lN (K 6)).toInt32) + (nI B)) + ((16 : Int32) * (nI nu)))), none], [.long (16 : Int64), .long (lN (K 11))], Ac fp le lp lb il tf tz (sbf b) rf fr mp (nI L.length) ifp (nI B) ie pw dh (lN (K 7)) rb re (lN (K 6)) (lN (K 11)) rc sg ex)) k_I_symbolFault_0 kc_I_symbolFault_0 rfl ⟨trivial, trivial, trivial, trivial, trivial, trivial, trivial, trivial, trivial, trivial, trivial, trivial, trivial, trivial, trivial⟩ ?_
  refine Run.brl (tgt := 39) dl_I_symbolFault_24 d_I_symbolFault_24 rfl (by decide) (fun c_1 => ?_) (fun c_1 => ?_)
  · have c_1 : ¬ ((K 11) = 16) := fun w_ => c_1 ((pk_lEQ (a := (K 11)) (b := 16) (by omega) (by decide)).mpr w_)
    refine Run.blk (gs := [True]) (S' := ([some (.ref 6), some (.ref 3), some (.int (nI wh)), some (.int (nI nu)), some (.int (nI mo)), some (.int ((((lN (K 6)).toInt32) + (nI B)) + ((16 : Int32) * (nI nu)))), none], [.int (22 : Int32)], Ac fp le lp lb il tf tz (sbf b) rf fr mp (nI L.length) ifp (nI B) ie pw dh (lN (K 7)) rb re (lN (K 6)) (lN (K 11)) rc sg ex)) k_I_symbolFault_39 kc_I_symbolFault_39 rfl ⟨trivial, trivial⟩ ?_
    rw [show (syF L B K b wh nu mo) = (22, b) by unfold syF; rw [hs]; rw [if_neg (fun w => c_1 w.1)]]
    exact Run.ret (r := some (.int (22 : Int32))) ⟨d_I_symbolFault_41, _, rfl, rfl⟩ ⟨rfl, rfl⟩
  · have c_1 := Classical.not_not.mp c_1
    have c_1 := (pk_lEQ (a := (K 11)) (b := 16) (by omega) (by decide)).mp c_1
    refine Run.blk (gs := [True, True, True]) (S' := ([some (.ref 6), some (.ref 3), some (.int (nI wh)), some (.int (nI nu)), some (.int (nI mo)), some (.int ((((lN (K 6)).toInt32) + (nI B)) + ((16 : Int32) * (nI nu)))), none], [.int (16 : Int32), .int ((((lN (K 6)).toInt32) + (nI B)) + ((16 : Int32) * (nI nu))), .ref 6], Ac fp le lp lb il tf tz (sbf b) rf fr mp (nI L.length) ifp (nI B) ie pw dh (lN (K 7)) rb re (lN (K 6)) (lN (K 11)) rc sg ex)) k_I_symbolFault_28 kc_I_symbolFault_28 rfl ⟨trivial, trivial, trivial, trivial⟩ ?_
    refine Run.callV (b := 6) (As := [.int ((((lN (K 6)).toInt32) + (nI B)) + ((16 : Int32) * (nI nu))), .int (16 : Int32)]) (rest := []) v_I_symbolFault_33 (c_I_areHeld (by decide) hS hG hL hD (a := s) (N := 16) (rel_at _ rfl hs) rfl) rfl (Nat.le_of_ble_eq_true rfl) rfl rfl rfl rfl (fun r cs' hp => ?_)
    obtain ⟨rfl, rfl⟩ := hp
    show Run _ _ _ _ 36 ([some (.ref 6), some (.ref 3), some (.int (nI wh)), some (.int (nI nu)), some (.int (nI mo)), some (.int ((((lN (K 6)).toInt32) + (nI B)) + ((16 : Int32) * (nI nu)))), none], [.int (if hA L s 0 16 = true then 1 else 0)], Ac fp le lp lb il tf tz (sbf b) rf fr mp (nI L.length) ifp (nI B) ie pw dh (lN (K 7)) rb re (lN (K 6)) (lN (K 11)) rc sg ex) _
    refine Run.br (tgt := 42) d_I_symbolFault_36 rfl (by decide) (fun c_2 => ?_) (fun c_2 => ?_)
    · have c_2 := zi_t c_2
      have hs16 := hA_le hG c_2 (by decide) (by decide) (by omega)
      refine Run.blk (gs := [True]) (S' := ([some (.ref 6), some (.ref 3), some (.int (nI wh)), some (.int (nI nu)), some (.int (nI mo)), some (.int ((((lN (K 6)).toInt32) + (nI B)) + ((16 : Int32) * (nI nu)))), none], [.int (nI nu)], Ac fp le lp lb il tf tz (sbf b) rf fr mp (nI L.length) ifp (nI B) ie pw dh (lN (K 7)) rb re (lN (K 6)) (lN (K 11)) rc sg ex)) k_I_symbolFault_42 kc_I_symbolFault_42 rfl ⟨trivial, trivial⟩ ?_
      refine Run.br (tgt := 64) d_I_symbolFault_43 rfl (by decide) (fun c_3 => ?_) (fun c_3 => ?_)
      · have c_3 := (nI_eq (a := nu) (b := 0) (by omega) (by decide)).mp c_3
        refine Run.blk (gs := [True]) (S' := ([some (.ref 6), some (.ref 3), some (.int (nI wh)), some (.int (nI nu)), some (.int (nI mo)), some (.int ((((lN (K 6)).toInt32) + (nI B)) + ((16 : Int32) * (nI nu)))), none], [.int (nI nu)], Ac fp le lp lb il tf tz (sbf b) rf fr mp (nI L.length) ifp (nI B) ie pw dh (lN (K 7)) rb re (lN (K 6)) (lN (K 11)) rc sg ex)) k_I_symbolFault_64 kc_I_symbolFault_64 rfl ⟨trivial, trivial⟩ ?_
        refine Run.br (tgt := 72) d_I_symbolFault_65 rfl (by decide) (fun c_4 => ?_) (fun c_4 => ?_)
        · have c_4 : ¬ (nu = 0) := fun w_ => c_4 ((nI_eq (a := nu) (b := 0) (by omega) (by decide)).mpr w_)
          exact absurd c_3 c_4
        · have c_4 := Classical.not_not.mp c_4
          have c_4 := (nI_eq (a := nu) (b := 0) (by omega) (by decide)).mp c_4
          refine Run.blk (gs := [True]) (S' := ([some (.ref 6), some (.ref 3), some (.int (nI wh)), some (.int (nI nu)), some (.int (nI mo)), some (.int ((((lN (K 6)).toInt32) + (nI B)) + ((16 : Int32) * (nI nu)))), none], [.int (0 : Int32)], Ac fp le lp lb il tf tz (sbf b) rf fr mp (nI L.length) ifp (nI B) ie pw dh (lN (K 7)) rb re (lN (K 6)) (lN (K 11)) rc sg ex)) k_I_symbolFault_68 kc_I_symbolFault_68 rfl ⟨trivial, trivial⟩ ?_
          refine Run.goto (tgt := 87) d_I_symbolFault_69 (by decide) ?_
          refine Run.blk (gs := [True, True, True, True, True, True, True]) (S' := ([some (.ref 6), some (.ref 3), some (.int (nI wh)), some (.int (nI nu)), some (.int (nI mo)), some (.int ((((lN (K 6)).toInt32) + (nI B)) + ((16 : Int32) * (nI nu)))), some (.int (0 : Int32))], [.int ((nI mo) + (0 : Int32)), .int (4 : Int32), .int (nI wh), .ref 3], Ac fp le lp lb il tf tz (sbf b) rf fr mp (nI L.length) ifp (nI B) ie pw dh (lN (K 7)) rb re (lN (K 6)) (lN (K 11)) rc sg ex)) k_I_symbolFault_87 kc_I_symbolFault_87 rfl ⟨trivial, trivial, trivial, trivial, trivial, trivial, trivial, trivial⟩ ?_
          refine Run.callV (b := 3) (As := [.int (nI wh), .int (4 : Int32), .int ((nI mo) + (0 : Int32))]) (rest := []) v_I_symbolFault_97 (c_P_setNumber4 (p := wh) rfl hwh) rfl (Nat.le_of_ble_eq_true rfl) rfl rfl rfl rfl (fun r cs' hp => ?_)
          obtain ⟨rfl, rfl⟩ := hp
          show Run _ _ _ _ 100 ([some (.ref 6), some (.ref 3), some (.int (nI wh)), some (.int (nI nu)), some (.int (nI mo)), some (.int ((((lN (K 6)).toInt32) + (nI B)) + ((16 : Int32) * (nI nu)))), some (.int (0 : Int32))], [], Ac fp le lp lb il tf tz (sbf (u4 b wh ((nI mo) + (0 : Int32)))) rf fr mp (nI L.length) ifp (nI B) ie pw dh (lN (K 7)) rb re (lN (K 6)) (lN (K 11)) rc sg ex) _
          refine Run.blk (gs := [True]) (S' := ([some (.ref 6), some (.ref 3), some (.int (nI wh)), some (.int (nI nu)), some (.int (nI mo)), some (.int ((((lN (K 6)).toInt32) + (nI B)) + ((16 : Int32) * (nI nu)))), some (.int (0 : Int32))], [.int (0 : Int32)], Ac fp le lp lb il tf tz (sbf (u4 b wh ((nI mo) + (0 : Int32)))) rf fr mp (nI L.length) ifp (nI B) ie pw dh (lN (K 7)) rb re (lN (K 6)) (lN (K 11)) rc sg ex)) k_I_symbolFault_100 kc_I_symbolFault_100 rfl ⟨trivial, trivial⟩ ?_
          rw [show (syF L B K b wh nu mo) = (0, u4 b wh (nI mo)) by unfold syF; rw [hs]; rw [if_pos ⟨c_1, c_2⟩, if_pos c_3]]
          exact Run.ret (r := some (.int (0 : Int32))) ⟨d_I_symbolFault_101, _, rfl, rfl⟩ ⟨rfl, by rw [a0]⟩
      · have c_3 : ¬ (nu = 0) := fun w_ => c_3 ((nI_eq (a := nu) (b := 0) (by omega) (by decide)).mpr w_)
        refine Run.blk (gs := [True, True, True, True, True]) (S' := ([some (.ref 6), some (.ref 3), some (.int (nI wh)), some (.int (nI nu)), some (.int (nI mo)), some (.int ((((lN (K 6)).toInt32) + (nI B)) + ((16 : Int32) * (nI nu)))), none], [.int (2 : Int32), .int (((((lN (K 6)).toInt32) + (nI B)) + ((16 : Int32) * (nI nu))) + (14 : Int32)), .ref 3], Ac fp le lp lb il tf tz (sbf b) rf fr mp (nI L.length) ifp (nI B) ie pw dh (lN (K 7)) rb re (lN (K 6)) (lN (K 11)) rc sg ex)) k_I_symbolFault_46 kc_I_symbolFault_46 rfl ⟨trivial, trivial, trivial, trivial, trivial, trivial⟩ ?_
        refine Run.callV (b := 3) (As := [.int (((((lN (K 6)).toInt32) + (nI B)) + ((16 : Int32) * (nI nu))) + (14 : Int32)), .int (2 : Int32)]) (rest := []) v_I_symbolFault_53 (c_P_number2 hb (p := s + 14) (by rw [rel_at (16 : Int32) rfl hs]; exact nI_add _ 14) (by omega)) rfl (Nat.le_of_ble_eq_true rfl) rfl rfl rfl rfl (fun r cs' hp => ?_)
        obtain ⟨rfl, rfl⟩ := hp
        show Run _ _ _ _ 56 ([some (.ref 6), some (.ref 3), some (.int (nI wh)), some (.int (nI nu)), some (.int (nI mo)), some (.int ((((lN (K 6)).toInt32) + (nI B)) + ((16 : Int32) * (nI nu)))), none], [.long (lN (n2 b (s + 14)))], Ac fp le lp lb il tf tz (sbf b) rf fr mp (nI L.length) ifp (nI B) ie pw dh (lN (K 7)) rb re (lN (K 6)) (lN (K 11)) rc sg ex) _
        refine Run.blk (gs := [True]) (S' := ([some (.ref 6), some (.ref 3), some (.int (nI wh)), some (.int (nI nu)), some (.int (nI mo)), some (.int ((((lN (K 6)).toInt32) + (nI B)) + ((16 : Int32) * (nI nu)))), none], [.long (0 : Int64), .long (lN (n2 b (s + 14)))], Ac fp le lp lb il tf tz (sbf b) rf fr mp (nI L.length) ifp (nI B) ie pw dh (lN (K 7)) rb re (lN (K 6)) (lN (K 11)) rc sg ex)) k_I_symbolFault_56 kc_I_symbolFault_56 rfl ⟨trivial, trivial⟩ ?_
        refine Run.brl (tgt := 64) dl_I_symbolFault_57 d_I_symbolFault_57 rfl (by decide) (fun c_5 => ?_) (fun c_5 => ?_)
        · have c_5 : ¬ ((n2 b (s + 14)) = 0) := fun w_ => c_5 ((pk_lEQ (a := (n2 b (s + 14))) (b := 0) (by omega) (by decide)).mpr w_)
          refine Run.blk (gs := [True]) (S' := ([some (.ref 6), some (.ref 3), some (.int (nI wh)), some (.int (nI nu)), some (.int (nI mo)), some (.int ((((lN (K 6)).toInt32) + (nI B)) + ((16 : Int32) * (nI nu)))), none], [.int (nI nu)], Ac fp le lp lb il tf tz (sbf b) rf fr mp (nI L.length) ifp (nI B) ie pw dh (lN (K 7)) rb re (lN (K 6)) (lN (K 11)) rc sg ex)) k_I_symbolFault_64 kc_I_symbolFault_64 rfl ⟨trivial, trivial⟩ ?_
          refine Run.br (tgt := 72) d_I_symbolFault_65 rfl (by decide) (fun c_6 => ?_) (fun c_6 => ?_)
          · have c_6 : ¬ (nu = 0) := fun w_ => c_6 ((nI_eq (a := nu) (b := 0) (by omega) (by decide)).mpr w_)
            refine Run.blk (gs := [True, True, True, True, True]) (S' := ([some (.ref 6), some (.ref 3), some (.int (nI wh)), some (.int (nI nu)), some (.int (nI mo)), some (.int ((((lN (K 6)).toInt32) + (nI B)) + ((16 : Int32) * (nI nu)))), none], [.int (4 : Int32), .int (((((lN (K 6)).toInt32) + (nI B)) + ((16 : Int32) * (nI nu))) + (4 : Int32)), .ref 3], Ac fp le lp lb il tf tz (sbf b) rf fr mp (nI L.length) ifp (nI B) ie pw dh (lN (K 7)) rb re (lN (K 6)) (lN (K 11)) rc sg ex)) k_I_symbolFault_72 kc_I_symbolFault_72 rfl ⟨trivial, trivial, trivial, trivial, trivial, trivial⟩ ?_
            refine Run.callV (b := 3) (As := [.int (((((lN (K 6)).toInt32) + (nI B)) + ((16 : Int32) * (nI nu))) + (4 : Int32)), .int (4 : Int32)]) (rest := []) v_I_symbolFault_78 (c_P_number4 hb (p := s + 4) (by rw [rel_at (16 : Int32) rfl hs]; exact nI_add _ 4) (by omega)) rfl (Nat.le_of_ble_eq_true rfl) rfl rfl rfl rfl (fun r cs' hp => ?_)
            obtain ⟨rfl, rfl⟩ := hp
            show Run _ _ _ _ 81 ([some (.ref 6), some (.ref 3), some (.int (nI wh)), some (.int (nI nu)), some (.int (nI mo)), some (.int ((((lN (K 6)).toInt32) + (nI B)) + ((16 : Int32) * (nI nu)))), none], [.long (lN (n4 b (s + 4)))], Ac fp le lp lb il tf tz (sbf b) rf fr mp (nI L.length) ifp (nI B) ie pw dh (lN (K 7)) rb re (lN (K 6)) (lN (K 11)) rc sg ex) _
            refine Run.blk (gs := [True, True, True, True]) (S' := ([some (.ref 6), some (.ref 3), some (.int (nI wh)), some (.int (nI nu)), some (.int (nI mo)), some (.int ((((lN (K 6)).toInt32) + (nI B)) + ((16 : Int32) * (nI nu)))), none], [.int (((lN (n4 b (s + 4))).toInt32) + (nI B))], Ac fp le lp lb il tf tz (sbf b) rf fr mp (nI L.length) ifp (nI B) ie pw dh (lN (K 7)) rb re (lN (K 6)) (lN (K 11)) rc sg ex)) k_I_symbolFault_81 kc_I_symbolFault_81 rfl ⟨trivial, trivial, trivial, trivial, trivial⟩ ?_
            refine Run.blk (gs := [True, True, True, True, True, True, True]) (S' := ([some (.ref 6), some (.ref 3), some (.int (nI wh)), some (.int (nI nu)), some (.int (nI mo)), some (.int ((((lN (K 6)).toInt32) + (nI B)) + ((16 : Int32) * (nI nu)))), some (.int (((lN (n4 b (s + 4))).toInt32) + (nI B)))], [.int ((nI mo) + (((lN (n4 b (s + 4))).toInt32) + (nI B))), .int (4 : Int32), .int (nI wh), .ref 3], Ac fp le lp lb il tf tz (sbf b) rf fr mp (nI L.length) ifp (nI B) ie pw dh (lN (K 7)) rb re (lN (K 6)) (lN (K 11)) rc sg ex)) k_I_symbolFault_87 kc_I_symbolFault_87 rfl ⟨trivial, trivial, trivial, trivial, trivial, trivial, trivial, trivial⟩ ?_
            refine Run.callV (b := 3) (As := [.int (nI wh), .int (4 : Int32), .int ((nI mo) + (((lN (n4 b (s + 4))).toInt32) + (nI B)))]) (rest := []) v_I_symbolFault_97 (c_P_setNumber4 (p := wh) rfl hwh) rfl (Nat.le_of_ble_eq_true rfl) rfl rfl rfl rfl (fun r cs' hp => ?_)
            obtain ⟨rfl, rfl⟩ := hp
            show Run _ _ _ _ 100 ([some (.ref 6), some (.ref 3), some (.int (nI wh)), some (.int (nI nu)), some (.int (nI mo)), some (.int ((((lN (K 6)).toInt32) + (nI B)) + ((16 : Int32) * (nI nu)))), some (.int (((lN (n4 b (s + 4))).toInt32) + (nI B)))], [], Ac fp le lp lb il tf tz (sbf (u4 b wh ((nI mo) + (((lN (n4 b (s + 4))).toInt32) + (nI B))))) rf fr mp (nI L.length) ifp (nI B) ie pw dh (lN (K 7)) rb re (lN (K 6)) (lN (K 11)) rc sg ex) _
            refine Run.blk (gs := [True]) (S' := ([some (.ref 6), some (.ref 3), some (.int (nI wh)), some (.int (nI nu)), some (.int (nI mo)), some (.int ((((lN (K 6)).toInt32) + (nI B)) + ((16 : Int32) * (nI nu)))), some (.int (((lN (n4 b (s + 4))).toInt32) + (nI B)))], [.int (0 : Int32)], Ac fp le lp lb il tf tz (sbf (u4 b wh ((nI mo) + (((lN (n4 b (s + 4))).toInt32) + (nI B))))) rf fr mp (nI L.length) ifp (nI B) ie pw dh (lN (K 7)) rb re (lN (K 6)) (lN (K 11)) rc sg ex)) k_I_symbolFault_100 kc_I_symbolFault_100 rfl ⟨trivial, trivial⟩ ?_
            rw [show (syF L B K b wh nu mo) = (0, u4 b wh (nI (mo + (n4 b (s + 4) + B)))) by unfold syF; rw [hs]; rw [if_pos ⟨c_1, c_2⟩, if_neg c_3, if_neg c_5]]
            exact Run.ret (r := some (.int (0 : Int32))) ⟨d_I_symbolFault_101, _, rfl, rfl⟩ ⟨rfl, by rw [lN_i, nI_add, nI_add]⟩
          · have c_6 := Classical.not_not.mp c_6
            have c_6 := (nI_eq (a := nu) (b := 0) (by omega) (by decide)).mp c_6
            exact absurd c_6 c_3
        · have c_5 := Classical.not_not.mp c_5
          have c_5 := (pk_lEQ (a := (n2 b (s + 14))) (b := 0) (by omega) (by decide)).mp c_5
          refine Run.blk (gs := [True]) (S' := ([some (.ref 6), some (.ref 3), some (.int (nI wh)), some (.int (nI nu)), some (.int (nI mo)), some (.int ((((lN (K 6)).toInt32) + (nI B)) + ((16 : Int32) * (nI nu)))), none], [.int (23 : Int32)], Ac fp le lp lb il tf tz (sbf b) rf fr mp (nI L.length) ifp (nI B) ie pw dh (lN (K 7)) rb re (lN (K 6)) (lN (K 11)) rc sg ex)) k_I_symbolFault_61 kc_I_symbolFault_61 rfl ⟨trivial, trivial⟩ ?_
          rw [show (syF L B K b wh nu mo) = (23, b) by unfold syF; rw [hs]; rw [if_pos ⟨c_1, c_2⟩, if_neg c_3, if_pos c_5]]
          exact Run.ret (r := some (.int (23 : Int32))) ⟨d_I_symbolFault_63, _, rfl, rfl⟩ ⟨rfl, rfl⟩
    · have c_2 := zi_f (Classical.not_not.mp c_2)
      refine Run.blk (gs := [True]) (S' := ([some (.ref 6), some (.ref 3), some (.int (nI wh)), some (.int (nI nu)), some (.int (nI mo)), some (.int ((((lN (K 6)).toInt32) + (nI B)) + ((16 : Int32) * (nI nu)))), none], [.int (22 : Int32)], Ac fp le lp lb il tf tz (sbf b) rf fr mp (nI L.length) ifp (nI B) ie pw dh (lN (K 7)) rb re (lN (K 6)) (lN (K 11)) rc sg ex)) k_I_symbolFault_39 kc_I_symbolFault_39 rfl ⟨trivial, trivial⟩ ?_
      rw [show (syF L B K b wh nu mo) = (22, b) by unfold syF; rw [hs]; rw [if_neg (fun w => c_2 w.2)]]
      exact Run.ret (r := some (.int (22 : Int32))) ⟨d_I_symbolFault_41, _, rfl, rfl⟩ ⟨rfl, rfl⟩
end P38
