theorem heE_0 {t : Nat → Nat} {z B : Nat} {S : (Int32 × Int32) × List SG × Nat × Nat} (h : (heE t z B S).1 = 0) : S.1.1 = 0 ∧ enB (wN t z 24 + B) S.2.1 = true ∧ heE t z B S = (0, -1) := by
  unfold heE at h ⊢
  by_cases c1 : S.1.1 = 0
  · rw [if_pos c1] at h ⊢
    by_cases c2 : enB (wN t z 24 + B) S.2.1 = true
    · rw [if_pos c2]; exact ⟨c1, c2, rfl⟩
    · rw [if_neg c2] at h; exact absurd (show (18 : Int32) = 0 from h) (by decide)
  · rw [if_neg c1] at h; exact absurd h c1
theorem ldH_e {t : Nat → Nat} {z B : Nat} {rf : Nat → Int32} {b : Nat → Nat} {S : (Int32 × Int32) × List SG × Nat × Nat} (h : ¬ (heE t z B S).1 = 0) : ldH t z B rf b S = (heE t z B S, b, rf, 0, 0, 0, 0) := by
  unfold heE at h ⊢
  unfold ldH
  by_cases c1 : S.1.1 = 0
  · rw [if_pos c1] at h ⊢
    rw [if_pos c1]
    by_cases c2 : enB (wN t z 24 + B) S.2.1 = true
    · rw [if_pos c2] at h; exact absurd rfl h
    · rw [if_neg c2, if_neg c2]
  · rw [if_neg c1, if_neg c1]
def rOK (r : Nat → Int32) : Prop := ∀ j, j < 64 → r j = -1 ∨ ∃ k, k < 8 ∧ r j = nI k
theorem laR_ok {z : Nat} {r0 : Nat → Int32} : ∀ {L : List SG} {r : Nat → Int32}, (∀ g, g ∈ L → Gd z r0 g) → rOK r → rOK (laR L r)
  | [], r, _, h => h
  | (O, Ad, St, Fi, He, Al, fl) :: R, r, hG, h => by
    rw [laR]
    refine laR_ok (fun g hg => hG g (List.mem_cons_of_mem _ hg)) (fun j hj => ?_)
    unfold fillI
    split
    · exact Or.inr (hG _ List.mem_cons_self).2.2.1
    · exact h j hj
def IX (f : Nat) (b : Nat → Nat) (rf : Nat → Int32) : Prop := (∀ j, b j < 256) ∧ rOK rf ∧ cntM rf 0 64 ≤ f
theorem ldG_inv {t b : Nat → Nat} {z B f : Nat} {rf : Nat → Int32} (ht : ∀ j, t j < 256) (hB : B < 2 ^ 30) (hT : wN t z 28 + 32 * hN t z 44 ≤ z) (h : IX f b rf) : IX f (ldG t z B rf (f - cntM rf 0 64) b).2.1 (ldG t z B rf (f - cntM rf 0 64) b).2.2.1 := by
  obtain ⟨hLI, hDv, -⟩ := hsF_ok (z := z) ht hB (rf := rf) (fre := f - cntM rf 0 64) (hN t z 44) 0 [] 0 0 ⟨fun g h => absurd h List.not_mem_nil, List.Pairwise.nil, rfl, Nat.zero_le _⟩ (Or.inl rfl) (by omega)
  unfold ldG
  generalize hsF t z B rf (f - cntM rf 0 64) (hN t z 44) 0 [] 0 0 = S at hLI hDv ⊢
  unfold ldH
  split
  · split
    · split
      · unfold ldR
        split
        · refine ⟨reL_lt _ _ _ _ _ (laB_lt ht _ _ h.1), laR_ok hLI.1 h.2.1, ?_⟩
          show cntM (laR S.2.1 rf) 0 64 ≤ f
          rw [cnt_laR hLI.1 (LI_free hLI) hLI.2.1, ← hLI.2.2.1]
          have h1 := hLI.2.2.2
          have h2 := h.2.2
          omega
        · exact ⟨reL_lt _ _ _ _ _ (laB_lt ht _ _ h.1), h.2⟩
      · exact h
    · exact h
  · exact h
theorem ldF_inv {t b : Nat → Nat} {z B f : Nat} {rf : Nat → Int32} (ht : ∀ j, t j < 256) (hB : B < 2 ^ 30) (h : IX f b rf) : IX f (ldF t z B rf (f - cntM rf 0 64) b).2.1 (ldF t z B rf (f - cntM rf 0 64) b).2.2.1 := by
  unfold ldF
  by_cases c : (hdF t z).1 = 0
  · rw [if_pos c]
    obtain ⟨-, -, -, hT⟩ := hdF_0 c
    split
    · exact ldG_inv ht (by decide) hT h
    · exact ldG_inv ht hB hT h
  · rw [if_neg c]; exact h
section P48
variable {fp le lp lb il : Int32} {tf bf rf : Nat → Int32} {tz fr mp sc ifp ib ie pw dh rc : Int32} {rl rb re sy sb : Int64} {sg : Nat → A_G} {ex : List va_E}
variable {mth mfr msz msn mwn mba mdy mfa mpl men mpg mct mim : Int32} {mtf mmp mrg mme mfo mfi mmy mwa : Nat → Int32} {mbg mhd mkn : Nat → Int64} {rfc : Nat → Int32}
variable {cs : List va_E} {n : Nat} {t b : Nat → Nat} {z : Nat} {L : List SG} {O Ad St Fi He Al : Nat} {fl : Int32} {K : Nat → Nat}
set_option maxRecDepth 100000 in
set_option maxHeartbeats 4000000 in
theorem l_M_load93 (hR : Rm rf mmp mrg) (ht : ∀ k, t k < 256) (hz : z ≤ 900) (h52 : 52 ≤ z) (hb : ∀ j, b j < 256) {B f w : Nat} (hB : B < 2 ^ 30) (hf : f ≤ 64) (hm : cntM rf 0 64 ≤ f) (hM : MS (L.filter gnz) mbg mhd mfo mfi mmy) (hW : Wr L mwa) (hLI : LI z rf (f - cntM rf 0 64) L w) (hL : L.length ≤ 8) (hK : Kr K mkn) (hKl : ∀ j, K j < 2 ^ 32) (hN : K 8 / 12 ≤ 60) {q1 : Option Value} : Run m_M_load n 0 0 93 ([some (.ref 16), q1], [], Ac fp le lp lb il tf tz bf rfc fr mp sc ifp ib ie pw dh rl rb re sy sb rc sg (Bc (0 : Int32) (nI f) (nI z) (nif t) mmp mrg (nif b) (nI (L.filter gnz).length) mbg mhd mfo mfi mmy mwa (nI w) (nI B) mdy mkn (0 : Int32) (-1 : Int32) men mpg mct mim)) (fun r cs' => ∃ (sn' wn' ba' dy' fa' : Int32) (bg' hd' kn' : Nat → Int64) (fo' fi' my' wa' mp' rg' : Nat → Int32), Rm (ldR t z B rf b L w K).2.2.1 mp' rg' ∧ r = some (.int (if (ldR t z B rf b L w K).1.1 = 0 then (ldR t z B rf b L w K).2.2.2.2.2.2 else -10 - (ldR t z B rf b L w K).1.1)) ∧ cs' = Ac fp le lp lb il tf tz bf rfc fr mp sc ifp ib ie pw dh rl rb re sy sb rc sg (Bc (0 : Int32) (nI f) (nI z) (nif t) (mp') (rg') (nif (ldR t z B rf b L w K).2.1) (sn') (bg') (hd') (fo') (fi') (my') (wa') (wn') (ba') (dy') (kn') (fa') ((ldR t z B rf b L w K).1.2) (if (ldR t z B rf b L w K).1.1 = 0 then (ldR t z B rf b L w K).2.2.2.1 else men) (if (ldR t z B rf b L w K).1.1 = 0 then (ldR t z B rf b L w K).2.2.2.2.1 else mpg) (if (ldR t z B rf b L w K).1.1 = 0 then (ldR t z B rf b L w K).2.2.2.2.2.1 else mct) (if (ldR t z B rf b L w K).1.1 = 0 then mim + 1 else mim))) := by
  have h8 := hKl 8
  refine Run.blk (gs := [True]) (S' := ([some (.ref 16), q1], [.ref 16], Ac fp le lp lb il tf tz bf rfc fr mp sc ifp ib ie pw dh rl rb re sy sb rc sg (Bc (0 : Int32) (nI f) (nI z) (nif t) mmp mrg (nif b) (nI (L.filter gnz).length) mbg mhd mfo mfi mmy mwa (nI w) (nI B) mdy mkn (0 : Int32) (-1 : Int32) men mpg mct mim))) k_M_load_93 kc_M_load_93 rfl ⟨trivial, trivial⟩ ?_
  refine Run.callV (b := 16) (As := []) (rest := []) v_M_load_94 (c_M_lay hM hLI.1 hL hz) rfl (Nat.le_of_ble_eq_true rfl) rfl rfl rfl rfl (fun r cs' hp => ?_)
  obtain ⟨rfl, rfl⟩ := hp
  show Run _ _ _ _ 97 ([some (.ref 16), q1], [], Ac fp le lp lb il tf tz bf rfc fr mp sc ifp ib ie pw dh rl rb re sy sb rc sg (Bc (0 : Int32) (nI f) (nI z) (nif t) (laM 1 L mmp) (laR L mrg) (nif (laB t L b)) (nI (L.filter gnz).length) mbg mhd mfo mfi mmy mwa (nI w) (nI B) mdy mkn (0 : Int32) (-1 : Int32) men mpg mct mim)) _
  refine Run.blk (gs := [True]) (S' := ([some (.ref 16), q1], [.ref 16], Ac fp le lp lb il tf tz bf rfc fr mp sc ifp ib ie pw dh rl rb re sy sb rc sg (Bc (0 : Int32) (nI f) (nI z) (nif t) (laM 1 L mmp) (laR L mrg) (nif (laB t L b)) (nI (L.filter gnz).length) mbg mhd mfo mfi mmy mwa (nI w) (nI B) mdy mkn (0 : Int32) (-1 : Int32) men mpg mct mim))) k_M_load_97 kc_M_load_97 rfl ⟨trivial, trivial⟩ ?_
  refine Run.callV (b := 16) (As := []) (rest := []) v_M_load_98 (c_M_relocations (laB_lt ht L b hb) hM hLI.1 hL hB hK hKl hN) rfl (Nat.le_of_ble_eq_true rfl) rfl rfl rfl rfl (fun r cs' hp => ?_)
  obtain ⟨rfl, rfl⟩ := hp
  show Run _ _ _ _ 101 ([some (.ref 16), q1], [.int (if (reL L B K (K 8 / 12) 0 (laB t L b)).1.1 = 0 then 1 else 0)], Ac fp le lp lb il tf tz bf rfc fr mp sc ifp ib ie pw dh rl rb re sy sb rc sg (Bc (0 : Int32) (nI f) (nI z) (nif t) (if (reL L B K (K 8 / 12) 0 (laB t L b)).1.1 = 0 then laM 1 L mmp else unF (laM 1 L mmp) mwa 64) (laR L mrg) (nif (reL L B K (K 8 / 12) 0 (laB t L b)).2) (nI (L.filter gnz).length) mbg mhd mfo mfi mmy mwa (nI w) (nI B) mdy mkn ((reL L B K (K 8 / 12) 0 (laB t L b)).1.1) ((reL L B K (K 8 / 12) 0 (laB t L b)).1.2) men mpg mct mim)) _
  refine Run.br (tgt := 112) d_M_load_101 rfl (by decide) (fun c_1 => ?_) (fun c_1 => ?_)
  · have c_1 := zi_t c_1
    refine Run.blk (gs := [True, True, True]) (S' := ([some (.ref 16), q1], [.int (24 : Int32), .ref 16, .ref 16], Ac fp le lp lb il tf tz bf rfc fr mp sc ifp ib ie pw dh rl rb re sy sb rc sg (Bc (0 : Int32) (nI f) (nI z) (nif t) (if (reL L B K (K 8 / 12) 0 (laB t L b)).1.1 = 0 then laM 1 L mmp else unF (laM 1 L mmp) mwa 64) (laR L mrg) (nif (reL L B K (K 8 / 12) 0 (laB t L b)).2) (nI (L.filter gnz).length) mbg mhd mfo mfi mmy mwa (nI w) (nI B) mdy mkn ((reL L B K (K 8 / 12) 0 (laB t L b)).1.1) ((reL L B K (K 8 / 12) 0 (laB t L b)).1.2) men mpg mct mim))) k_M_load_112 kc_M_load_112 rfl ⟨trivial, trivial, trivial, trivial⟩ ?_
    refine Run.callV (b := 16) (As := [.int (24 : Int32)]) (rest := [.ref 16]) v_M_load_116 (c_M_word ht hz (p := 24) rfl (by omega)) rfl (Nat.le_of_ble_eq_true rfl) rfl rfl rfl rfl (fun r cs' hp => ?_)
    obtain ⟨rfl, rfl⟩ := hp
    show Run _ _ _ _ 119 ([some (.ref 16), q1], [.long (lN (wN t z 24)), .ref 16], Ac fp le lp lb il tf tz bf rfc fr mp sc ifp ib ie pw dh rl rb re sy sb rc sg (Bc (0 : Int32) (nI f) (nI z) (nif t) (if (reL L B K (K 8 / 12) 0 (laB t L b)).1.1 = 0 then laM 1 L mmp else unF (laM 1 L mmp) mwa 64) (laR L mrg) (nif (reL L B K (K 8 / 12) 0 (laB t L b)).2) (nI (L.filter gnz).length) mbg mhd mfo mfi mmy mwa (nI w) (nI B) mdy mkn ((reL L B K (K 8 / 12) 0 (laB t L b)).1.1) ((reL L B K (K 8 / 12) 0 (laB t L b)).1.2) men mpg mct mim)) _
    refine Run.blk (gs := [True, True, True, True, True, True, True, True, True, True, True, True, True, True, True, True, True, True, True, True, True, True, vp_in (8 : Int32) 12, True, ¬ (12 : Int64) = 0, True]) (S' := ([some (.ref 16), q1], [.int (((mkn (8 : Int32).toNatClampNeg) / (12 : Int64)).toInt32)], Ac fp le lp lb il tf tz bf rfc fr mp sc ifp ib ie pw dh rl rb re sy sb rc sg (Bc (0 : Int32) (nI f) (nI z) (nif t) (if (reL L B K (K 8 / 12) 0 (laB t L b)).1.1 = 0 then laM 1 L mmp else unF (laM 1 L mmp) mwa 64) (laR L mrg) (nif (reL L B K (K 8 / 12) 0 (laB t L b)).2) (nI (L.filter gnz).length) mbg mhd mfo mfi mmy mwa (nI w) (nI B) mdy mkn ((reL L B K (K 8 / 12) 0 (laB t L b)).1.1) ((reL L B K (K 8 / 12) 0 (laB t L b)).1.2) (((lN (wN t z 24)).toInt32) + (nI B)) (nI w) (nI B) (mim + (1 : Int32))))) k_M_load_119 kc_M_load_119 rfl ⟨trivial, trivial, trivial, trivial, trivial, trivial, trivial, trivial, trivial, trivial, trivial, trivial, trivial, trivial, trivial, trivial, trivial, trivial, trivial, trivial, trivial, trivial, (vp_in_nI (show 8 < 12 by decide) (by decide)), trivial, (by decide), trivial, trivial⟩ ?_
    have e9 := reL_0 B K _ _ _ c_1
    rw [show (ldR t z B rf b L w K) = ((0, -1), (reL L B K (K 8 / 12) 0 (laB t L b)).2, laR L rf, nI (wN t z 24 + B), nI w, nI B, nI (K 8 / 12)) by unfold ldR; rw [if_pos c_1]]
    rw [if_pos c_1, show (reL L B K (K 8 / 12) 0 (laB t L b)).1.2 = -1 by rw [e9], lN_i, nI_add, show ((8 : Int32)).toNatClampNeg = 8 from rfl, hK 8 (by decide), show lN (K 8) / (12 : Int64) = lN (K 8 / 12) from pk_lDiv (b := 12) (by omega) (by decide) (by decide), lN_i]
    exact Run.ret (r := some (.int (nI (K 8 / 12)))) ⟨d_M_load_166, _, rfl, rfl⟩ ⟨_, _, _, _, _, _, _, _, _, _, _, _, _, _, Rm_la hLI.1 hR, rfl, rfl⟩
  · have c_1 := zi_f (Classical.not_not.mp c_1)
    refine Run.blk (gs := [True, True, True, True]) (S' := ([some (.ref 16), q1], [.int ((-10 : Int32) - ((reL L B K (K 8 / 12) 0 (laB t L b)).1.1))], Ac fp le lp lb il tf tz bf rfc fr mp sc ifp ib ie pw dh rl rb re sy sb rc sg (Bc (0 : Int32) (nI f) (nI z) (nif t) (if (reL L B K (K 8 / 12) 0 (laB t L b)).1.1 = 0 then laM 1 L mmp else unF (laM 1 L mmp) mwa 64) (laR L mrg) (nif (reL L B K (K 8 / 12) 0 (laB t L b)).2) (nI (L.filter gnz).length) mbg mhd mfo mfi mmy mwa (nI w) (nI B) mdy mkn ((reL L B K (K 8 / 12) 0 (laB t L b)).1.1) ((reL L B K (K 8 / 12) 0 (laB t L b)).1.2) men mpg mct mim))) k_M_load_104 kc_M_load_104 rfl ⟨trivial, trivial, trivial, trivial, trivial⟩ ?_
    rw [show (ldR t z B rf b L w K) = ((reL L B K (K 8 / 12) 0 (laB t L b)).1, (reL L B K (K 8 / 12) 0 (laB t L b)).2, rf, 0, 0, 0, 0) by unfold ldR; rw [if_neg c_1]]
    rw [if_neg c_1]
    exact Run.ret (r := some (.int ((-10 : Int32) - ((reL L B K (K 8 / 12) 0 (laB t L b)).1.1)))) ⟨d_M_load_111, _, rfl, rfl⟩ ⟨_, _, _, _, _, _, _, _, _, _, _, _, _, _, Rm_un (LI_free hLI) hW hR, by rw [if_neg c_1], by rw [if_neg c_1, if_neg c_1, if_neg c_1, if_neg c_1]⟩
set_option maxRecDepth 100000 in
set_option maxHeartbeats 4000000 in
theorem l_M_load78 (hR : Rm rf mmp mrg) (ht : ∀ k, t k < 256) (hz : z ≤ 900) (h52 : 52 ≤ z) (hb : ∀ j, b j < 256) {B f w : Nat} (hB : B < 2 ^ 30) (hf : f ≤ 64) (hm : cntM rf 0 64 ≤ f) (hM : MS (L.filter gnz) mbg mhd mfo mfi mmy) (hW : Wr L mwa) (hLI : LI z rf (f - cntM rf 0 64) L w) (hL : L.length ≤ 8) {D : Nat} (hDv : Dv t z D) (hen : enB (wN t z 24 + B) L = true) {q1 : Option Value} : Run m_M_load n 0 0 78 ([some (.ref 16), q1], [], Ac fp le lp lb il tf tz bf rfc fr mp sc ifp ib ie pw dh rl rb re sy sb rc sg (Bc (0 : Int32) (nI f) (nI z) (nif t) mmp mrg (nif b) (nI (L.filter gnz).length) mbg mhd mfo mfi mmy mwa (nI w) (nI B) (dhv D) mkn (0 : Int32) (-1 : Int32) men mpg mct mim)) (fun r cs' => ∃ (sn' wn' ba' dy' fa' : Int32) (bg' hd' kn' : Nat → Int64) (fo' fi' my' wa' mp' rg' : Nat → Int32), Rm (ldH t z B rf b ((0, -1), L, w, D)).2.2.1 mp' rg' ∧ r = some (.int (if (ldH t z B rf b ((0, -1), L, w, D)).1.1 = 0 then (ldH t z B rf b ((0, -1), L, w, D)).2.2.2.2.2.2 else -10 - (ldH t z B rf b ((0, -1), L, w, D)).1.1)) ∧ cs' = Ac fp le lp lb il tf tz bf rfc fr mp sc ifp ib ie pw dh rl rb re sy sb rc sg (Bc (0 : Int32) (nI f) (nI z) (nif t) (mp') (rg') (nif (ldH t z B rf b ((0, -1), L, w, D)).2.1) (sn') (bg') (hd') (fo') (fi') (my') (wa') (wn') (ba') (dy') (kn') (fa') ((ldH t z B rf b ((0, -1), L, w, D)).1.2) (if (ldH t z B rf b ((0, -1), L, w, D)).1.1 = 0 then (ldH t z B rf b ((0, -1), L, w, D)).2.2.2.1 else men) (if (ldH t z B rf b ((0, -1), L, w, D)).1.1 = 0 then (ldH t z B rf b ((0, -1), L, w, D)).2.2.2.2.1 else mpg) (if (ldH t z B rf b ((0, -1), L, w, D)).1.1 = 0 then (ldH t z B rf b ((0, -1), L, w, D)).2.2.2.2.2.1 else mct) (if (ldH t z B rf b ((0, -1), L, w, D)).1.1 = 0 then mim + 1 else mim))) := by
  refine Run.blk (gs := [True]) (S' := ([some (.ref 16), q1], [.ref 16], Ac fp le lp lb il tf tz bf rfc fr mp sc ifp ib ie pw dh rl rb re sy sb rc sg (Bc (0 : Int32) (nI f) (nI z) (nif t) mmp mrg (nif b) (nI (L.filter gnz).length) mbg mhd mfo mfi mmy mwa (nI w) (nI B) (dhv D) mkn (0 : Int32) (-1 : Int32) men mpg mct mim))) k_M_load_78 kc_M_load_78 rfl ⟨trivial, trivial⟩ ?_
  refine Run.callV (b := 16) (As := []) (rest := []) v_M_load_79 (c_M_arePairs ht hz hDv) rfl (Nat.le_of_ble_eq_true rfl) rfl rfl rfl rfl (fun r cs' hp => ?_)
  obtain ⟨kn1, hK1, rfl, rfl⟩ := hp
  show Run _ _ _ _ 82 ([some (.ref 16), q1], [.int (if (dyF (dyK t z D) D).1 = 0 then 1 else 0)], Ac fp le lp lb il tf tz bf rfc fr mp sc ifp ib ie pw dh rl rb re sy sb rc sg (Bc (0 : Int32) (nI f) (nI z) (nif t) mmp mrg (nif b) (nI (L.filter gnz).length) mbg mhd mfo mfi mmy mwa (nI w) (nI B) (dhv D) kn1 ((dyF (dyK t z D) D).1) ((dyF (dyK t z D) D).2) men mpg mct mim)) _
  refine Run.br (tgt := 93) d_M_load_82 rfl (by decide) (fun c_1 => ?_) (fun c_1 => ?_)
  · have c_1 := zi_t c_1
    obtain ⟨e8, hN⟩ := dyF_z c_1
    rw [show (ldH t z B rf b ((0, -1), L, w, D)) = ldR t z B rf b L w (dyK t z D) by unfold ldH; rw [if_pos rfl, if_pos hen, if_pos c_1], e8]
    exact l_M_load93 hR ht hz h52 hb hB hf hm hM hW hLI hL hK1 (dyK_lt ht z D) hN
  · have c_1 := zi_f (Classical.not_not.mp c_1)
    refine Run.blk (gs := [True, True, True, True]) (S' := ([some (.ref 16), q1], [.int ((-10 : Int32) - ((dyF (dyK t z D) D).1))], Ac fp le lp lb il tf tz bf rfc fr mp sc ifp ib ie pw dh rl rb re sy sb rc sg (Bc (0 : Int32) (nI f) (nI z) (nif t) mmp mrg (nif b) (nI (L.filter gnz).length) mbg mhd mfo mfi mmy mwa (nI w) (nI B) (dhv D) kn1 ((dyF (dyK t z D) D).1) ((dyF (dyK t z D) D).2) men mpg mct mim))) k_M_load_85 kc_M_load_85 rfl ⟨trivial, trivial, trivial, trivial, trivial⟩ ?_
    rw [show (ldH t z B rf b ((0, -1), L, w, D)) = (dyF (dyK t z D) D, b, rf, 0, 0, 0, 0) from by unfold ldH; rw [if_pos rfl, if_pos hen, if_neg c_1]]
    exact Run.ret (r := some (.int ((-10 : Int32) - ((dyF (dyK t z D) D).1)))) ⟨d_M_load_92, _, rfl, rfl⟩ ⟨_, _, _, _, _, _, _, _, _, _, _, _, _, _, hR, by rw [if_neg c_1], by rw [if_neg c_1, if_neg c_1, if_neg c_1, if_neg c_1]⟩
set_option maxRecDepth 100000 in
set_option maxHeartbeats 4000000 in
theorem l_M_load68 (hR : Rm rf mmp mrg) (ht : ∀ k, t k < 256) (hz : z ≤ 900) (h52 : 52 ≤ z) (hb : ∀ j, b j < 256) {B f : Nat} (hB : B < 2 ^ 30) (hf : f ≤ 64) (hm : cntM rf 0 64 ≤ f) (hh : hN t z 44 ≤ 8) (hT : wN t z 28 + 32 * hN t z 44 ≤ z) {q1 : Option Value} : Run m_M_load n 0 0 68 ([some (.ref 16), q1], [.int (nI B), .ref 16], Ac fp le lp lb il tf tz bf rfc fr mp sc ifp ib ie pw dh rl rb re sy sb rc sg (Bc (0 : Int32) (nI f) (nI z) (nif t) mmp mrg (nif b) msn mbg mhd mfo mfi mmy mwa mwn mba mdy mkn (0 : Int32) (-1 : Int32) men mpg mct mim)) (fun r cs' => ∃ (sn' wn' ba' dy' fa' : Int32) (bg' hd' kn' : Nat → Int64) (fo' fi' my' wa' mp' rg' : Nat → Int32), Rm (ldG t z B rf (f - cntM rf 0 64) b).2.2.1 mp' rg' ∧ r = some (.int (if (ldG t z B rf (f - cntM rf 0 64) b).1.1 = 0 then (ldG t z B rf (f - cntM rf 0 64) b).2.2.2.2.2.2 else -10 - (ldG t z B rf (f - cntM rf 0 64) b).1.1)) ∧ cs' = Ac fp le lp lb il tf tz bf rfc fr mp sc ifp ib ie pw dh rl rb re sy sb rc sg (Bc (0 : Int32) (nI f) (nI z) (nif t) (mp') (rg') (nif (ldG t z B rf (f - cntM rf 0 64) b).2.1) (sn') (bg') (hd') (fo') (fi') (my') (wa') (wn') (ba') (dy') (kn') (fa') ((ldG t z B rf (f - cntM rf 0 64) b).1.2) (if (ldG t z B rf (f - cntM rf 0 64) b).1.1 = 0 then (ldG t z B rf (f - cntM rf 0 64) b).2.2.2.1 else men) (if (ldG t z B rf (f - cntM rf 0 64) b).1.1 = 0 then (ldG t z B rf (f - cntM rf 0 64) b).2.2.2.2.1 else mpg) (if (ldG t z B rf (f - cntM rf 0 64) b).1.1 = 0 then (ldG t z B rf (f - cntM rf 0 64) b).2.2.2.2.2.1 else mct) (if (ldG t z B rf (f - cntM rf 0 64) b).1.1 = 0 then mim + 1 else mim))) := by
  refine Run.blk (gs := [True, True]) (S' := ([some (.ref 16), q1], [.ref 16], Ac fp le lp lb il tf tz bf rfc fr mp sc ifp ib ie pw dh rl rb re sy sb rc sg (Bc (0 : Int32) (nI f) (nI z) (nif t) mmp mrg (nif b) msn mbg mhd mfo mfi mmy mwa mwn (nI B) mdy mkn (0 : Int32) (-1 : Int32) men mpg mct mim))) k_M_load_68 kc_M_load_68 rfl ⟨trivial, trivial, trivial⟩ ?_
  refine Run.callV (b := 16) (As := []) (rest := []) v_M_load_72 (c_M_areHeads hR ht hz h52 hB hm hf hh hT) rfl (Nat.le_of_ble_eq_true rfl) rfl rfl rfl rfl (fun r cs' hp => ?_)
  obtain ⟨s1, w1, d1, bg1, hd1, fo1, fi1, my1, wa1, rfl, rfl, hp1⟩ := hp
  have hok := hsF_ok (z := z) ht hB (rf := rf) (fre := f - cntM rf 0 64) (hN t z 44) 0 [] 0 0 ⟨fun g h => absurd h List.not_mem_nil, List.Pairwise.nil, rfl, Nat.zero_le _⟩ (Or.inl rfl) (by omega)
  have hz0 := hsF_z (t := t) (z := z) (B := B) (rf := rf) (fre := f - cntM rf 0 64) (hN t z 44) 0 [] 0 0
  rw [show (ldG t z B rf (f - cntM rf 0 64) b) = ldH t z B rf b (hsF t z B rf (f - cntM rf 0 64) (hN t z 44) 0 [] 0 0) from rfl]
  generalize hsF t z B rf (f - cntM rf 0 64) (hN t z 44) 0 [] 0 0 = F at hp1 hok hz0 ⊢
  show Run _ _ _ _ 75 ([some (.ref 16), q1], [.int (if (heE t z B F).1 = 0 then 1 else 0)], Ac fp le lp lb il tf tz bf rfc fr mp sc ifp ib ie pw dh rl rb re sy sb rc sg (Bc (0 : Int32) (nI f) (nI z) (nif t) mmp mrg (nif b) s1 bg1 hd1 fo1 fi1 my1 wa1 w1 (nI B) d1 mkn ((heE t z B F).1) ((heE t z B F).2) men mpg mct mim)) _
  refine Run.br (tgt := 85) d_M_load_75 rfl (by decide) (fun c_1 => ?_) (fun c_1 => ?_)
  · have c_1 := zi_f c_1
    refine Run.blk (gs := [True, True, True, True]) (S' := ([some (.ref 16), q1], [.int ((-10 : Int32) - ((heE t z B F).1))], Ac fp le lp lb il tf tz bf rfc fr mp sc ifp ib ie pw dh rl rb re sy sb rc sg (Bc (0 : Int32) (nI f) (nI z) (nif t) mmp mrg (nif b) s1 bg1 hd1 fo1 fi1 my1 wa1 w1 (nI B) d1 mkn ((heE t z B F).1) ((heE t z B F).2) men mpg mct mim))) k_M_load_85 kc_M_load_85 rfl ⟨trivial, trivial, trivial, trivial, trivial⟩ ?_
    rw [show ldH t z B rf b F = (heE t z B F, b, rf, 0, 0, 0, 0) from ldH_e c_1]
    exact Run.ret (r := some (.int ((-10 : Int32) - ((heE t z B F).1)))) ⟨d_M_load_92, _, rfl, rfl⟩ ⟨_, _, _, _, _, _, _, _, _, _, _, _, _, _, hR, by rw [if_neg c_1], by rw [if_neg c_1, if_neg c_1, if_neg c_1, if_neg c_1]⟩
  · have c_1 := zi_t c_1
    obtain ⟨rfl, rfl, rfl, hM1, hW1⟩ := hp1 c_1
    obtain ⟨k1, k2, k3⟩ := heE_0 c_1
    rw [k3]
    obtain ⟨⟨e0, p0⟩, L, w, D⟩ := F
    have k1 : e0 = 0 := k1
    have hz1 := hz0 k1
    have k4 : p0 = -1 := hz1.1
    subst k1
    subst k4
    have hL8 : L.length ≤ 8 := by have h8 : L.length ≤ 0 + hN t z 44 := hok.2.2; omega
    exact l_M_load78 (L := L) (w := w) (D := D) hR ht hz h52 hb hB hf hm hM1 hW1 hok.1 hL8 hok.2.1 k2
set_option maxRecDepth 100000 in
set_option maxHeartbeats 4000000 in
theorem l_M_load52 (hR : Rm rf mmp mrg) (ht : ∀ k, t k < 256) (hz : z ≤ 900) (h52 : 52 ≤ z) (hb : ∀ j, b j < 256) {B f : Nat} (hB : B < 2 ^ 30) (hf : f ≤ 64) (hm : cntM rf 0 64 ≤ f) (hl : (hdF t z).1 = 0) (hh : hN t z 44 ≤ 8) (hT : wN t z 28 + 32 * hN t z 44 ≤ z) : Run m_M_load n 0 0 52 ([some (.ref 16), some (.int (nI B))], [], Ac fp le lp lb il tf tz bf rfc fr mp sc ifp ib ie pw dh rl rb re sy sb rc sg (Bc (0 : Int32) (nI f) (nI z) (nif t) mmp mrg (nif b) msn mbg mhd mfo mfi mmy mwa mwn mba mdy mkn (0 : Int32) (-1 : Int32) men mpg mct mim)) (fun r cs' => ∃ (sn' wn' ba' dy' fa' : Int32) (bg' hd' kn' : Nat → Int64) (fo' fi' my' wa' mp' rg' : Nat → Int32), Rm (ldF t z B rf (f - cntM rf 0 64) b).2.2.1 mp' rg' ∧ r = some (.int (if (ldF t z B rf (f - cntM rf 0 64) b).1.1 = 0 then (ldF t z B rf (f - cntM rf 0 64) b).2.2.2.2.2.2 else -10 - (ldF t z B rf (f - cntM rf 0 64) b).1.1)) ∧ cs' = Ac fp le lp lb il tf tz bf rfc fr mp sc ifp ib ie pw dh rl rb re sy sb rc sg (Bc (0 : Int32) (nI f) (nI z) (nif t) (mp') (rg') (nif (ldF t z B rf (f - cntM rf 0 64) b).2.1) (sn') (bg') (hd') (fo') (fi') (my') (wa') (wn') (ba') (dy') (kn') (fa') ((ldF t z B rf (f - cntM rf 0 64) b).1.2) (if (ldF t z B rf (f - cntM rf 0 64) b).1.1 = 0 then (ldF t z B rf (f - cntM rf 0 64) b).2.2.2.1 else men) (if (ldF t z B rf (f - cntM rf 0 64) b).1.1 = 0 then (ldF t z B rf (f - cntM rf 0 64) b).2.2.2.2.1 else mpg) (if (ldF t z B rf (f - cntM rf 0 64) b).1.1 = 0 then (ldF t z B rf (f - cntM rf 0 64) b).2.2.2.2.2.1 else mct) (if (ldF t z B rf (f - cntM rf 0 64) b).1.1 = 0 then mim + 1 else mim))) := by
  refine Run.blk (gs := [True, True, True]) (S' := ([some (.ref 16), some (.int (nI B))], [.int (16 : Int32), .ref 16, .ref 16], Ac fp le lp lb il tf tz bf rfc fr mp sc ifp ib ie pw dh rl rb re sy sb rc sg (Bc (0 : Int32) (nI f) (nI z) (nif t) mmp mrg (nif b) msn mbg mhd mfo mfi mmy mwa mwn mba mdy mkn (0 : Int32) (-1 : Int32) men mpg mct mim))) k_M_load_52 kc_M_load_52 rfl ⟨trivial, trivial, trivial, trivial⟩ ?_
  refine Run.callV (b := 16) (As := [.int (16 : Int32)]) (rest := [.ref 16]) v_M_load_56 (c_M_half ht hz (p := 16) rfl (by omega)) rfl (Nat.le_of_ble_eq_true rfl) rfl rfl rfl rfl (fun r cs' hp => ?_)
  obtain ⟨rfl, rfl⟩ := hp
  show Run _ _ _ _ 59 ([some (.ref 16), some (.int (nI B))], [.int (nI (hN t z 16)), .ref 16], Ac fp le lp lb il tf tz bf rfc fr mp sc ifp ib ie pw dh rl rb re sy sb rc sg (Bc (0 : Int32) (nI f) (nI z) (nif t) mmp mrg (nif b) msn mbg mhd mfo mfi mmy mwa mwn mba mdy mkn (0 : Int32) (-1 : Int32) men mpg mct mim)) _
  refine Run.blk (gs := [True]) (S' := ([some (.ref 16), some (.int (nI B))], [.int (2 : Int32), .int (nI (hN t z 16)), .ref 16], Ac fp le lp lb il tf tz bf rfc fr mp sc ifp ib ie pw dh rl rb re sy sb rc sg (Bc (0 : Int32) (nI f) (nI z) (nif t) mmp mrg (nif b) msn mbg mhd mfo mfi mmy mwa mwn mba mdy mkn (0 : Int32) (-1 : Int32) men mpg mct mim))) k_M_load_59 kc_M_load_59 rfl ⟨trivial, trivial⟩ ?_
  refine Run.br (tgt := 67) d_M_load_60 rfl (by decide) (fun c_1 => ?_) (fun c_1 => ?_)
  · have c_1 : ¬ ((hN t z 16) = 2) := fun w_ => c_1 ((nI_eq (a := (hN t z 16)) (b := 2) (Nat.lt_of_lt_of_le (hN_lt ht z _) (by decide)) (by decide)).mpr w_)
    refine Run.blk (gs := [True]) (S' := ([some (.ref 16), some (.int (nI B))], [.int (nI B), .ref 16], Ac fp le lp lb il tf tz bf rfc fr mp sc ifp ib ie pw dh rl rb re sy sb rc sg (Bc (0 : Int32) (nI f) (nI z) (nif t) mmp mrg (nif b) msn mbg mhd mfo mfi mmy mwa mwn mba mdy mkn (0 : Int32) (-1 : Int32) men mpg mct mim))) k_M_load_67 kc_M_load_67 rfl ⟨trivial, trivial⟩ ?_
    rw [show (ldF t z B rf (f - cntM rf 0 64) b) = ldG t z B rf (f - cntM rf 0 64) b by unfold ldF; rw [if_pos hl, if_neg c_1]]
    exact l_M_load68 hR ht hz h52 hb hB hf hm hh hT
  · have c_1 := Classical.not_not.mp c_1
    have c_1 := (nI_eq (a := (hN t z 16)) (b := 2) (Nat.lt_of_lt_of_le (hN_lt ht z _) (by decide)) (by decide)).mp c_1
    refine Run.blk (gs := [True]) (S' := ([some (.ref 16), some (.int (nI B))], [.int (0 : Int32), .ref 16], Ac fp le lp lb il tf tz bf rfc fr mp sc ifp ib ie pw dh rl rb re sy sb rc sg (Bc (0 : Int32) (nI f) (nI z) (nif t) mmp mrg (nif b) msn mbg mhd mfo mfi mmy mwa mwn mba mdy mkn (0 : Int32) (-1 : Int32) men mpg mct mim))) k_M_load_63 kc_M_load_63 rfl ⟨trivial, trivial⟩ ?_
    refine Run.goto (tgt := 68) d_M_load_64 (by decide) ?_
    rw [show (ldF t z B rf (f - cntM rf 0 64) b) = ldG t z 0 rf (f - cntM rf 0 64) b by unfold ldF; rw [if_pos hl, if_pos c_1]]
    exact l_M_load68 hR ht hz h52 hb (by decide) hf hm hh hT
set_option maxRecDepth 100000 in
set_option maxHeartbeats 4000000 in
theorem c_M_load_B (hR : Rm rf mmp mrg) (ht : ∀ k, t k < 256) (hz : z ≤ 900) (hb : ∀ j, b j < 256) {B f : Nat} (hB : B ≤ 16128) (hB2 : B % 256 = 0) (hf : f ≤ 64) (hm : cntM rf 0 64 ≤ f) {x : Int32} (hx : x = nI B) : Ct m_M_load 0 0 [.ref 16, .int x] (Ac fp le lp lb il tf tz bf rfc fr mp sc ifp ib ie pw dh rl rb re sy sb rc sg (Bc mth (nI f) (nI z) (nif t) mmp mrg (nif b) msn mbg mhd mfo mfi mmy mwa mwn mba mdy mkn mfa mpl men mpg mct mim)) (fun r cs' => ∃ (sn' wn' ba' dy' fa' : Int32) (bg' hd' kn' : Nat → Int64) (fo' fi' my' wa' mp' rg' : Nat → Int32), Rm (ldF t z B rf (f - cntM rf 0 64) b).2.2.1 mp' rg' ∧ r = some (.int (if (ldF t z B rf (f - cntM rf 0 64) b).1.1 = 0 then (ldF t z B rf (f - cntM rf 0 64) b).2.2.2.2.2.2 else -10 - (ldF t z B rf (f - cntM rf 0 64) b).1.1)) ∧ cs' = Ac fp le lp lb il tf tz bf rfc fr mp sc ifp ib ie pw dh rl rb re sy sb rc sg (Bc (0 : Int32) (nI f) (nI z) (nif t) (mp') (rg') (nif (ldF t z B rf (f - cntM rf 0 64) b).2.1) (sn') (bg') (hd') (fo') (fi') (my') (wa') (wn') (ba') (dy') (kn') (fa') ((ldF t z B rf (f - cntM rf 0 64) b).1.2) (if (ldF t z B rf (f - cntM rf 0 64) b).1.1 = 0 then (ldF t z B rf (f - cntM rf 0 64) b).2.2.2.1 else men) (if (ldF t z B rf (f - cntM rf 0 64) b).1.1 = 0 then (ldF t z B rf (f - cntM rf 0 64) b).2.2.2.2.1 else mpg) (if (ldF t z B rf (f - cntM rf 0 64) b).1.1 = 0 then (ldF t z B rf (f - cntM rf 0 64) b).2.2.2.2.2.1 else mct) (if (ldF t z B rf (f - cntM rf 0 64) b).1.1 = 0 then mim + 1 else mim))) := by
  subst hx
  refine Ct.of ⟨by decide +kernel, rfl⟩ (Nat.le_of_ble_eq_true rfl) (lv := [some (.ref 16), some (.int (nI B))]) rfl ?_
  refine Run.blk (gs := [True, True, True, True, True, True]) (S' := ([some (.ref 16), some (.int (nI B))], [.int (16128 : Int32), .int (0 : Int32), .int (nI B)], Ac fp le lp lb il tf tz bf rfc fr mp sc ifp ib ie pw dh rl rb re sy sb rc sg (Bc (0 : Int32) (nI f) (nI z) (nif t) mmp mrg (nif b) msn mbg mhd mfo mfi mmy mwa mwn mba mdy mkn mfa mpl men mpg mct mim))) k_M_load_0 kc_M_load_0 rfl ⟨trivial, trivial, trivial, trivial, trivial, trivial, trivial⟩ ?_
  refine Run.callS (As := [.int (nI B), .int (0 : Int32), .int (16128 : Int32)]) (rest := []) v_M_load_10 (c_M_inN (a := B) (lo := 0) (hi := 16128) (by omega) (by decide) (by decide) rfl rfl rfl) rfl (Nat.le_of_ble_eq_true rfl) rfl (fun r cs' hp => ?_)
  obtain ⟨rfl, rfl⟩ := hp
  show Run _ _ _ _ 13 ([some (.ref 16), some (.int (nI B))], [.int (if 0 ≤ B ∧ B ≤ 16128 then 1 else 0)], Ac fp le lp lb il tf tz bf rfc fr mp sc ifp ib ie pw dh rl rb re sy sb rc sg (Bc (0 : Int32) (nI f) (nI z) (nif t) mmp mrg (nif b) msn mbg mhd mfo mfi mmy mwa mwn mba mdy mkn mfa mpl men mpg mct mim)) _
  refine Run.br (tgt := 24) d_M_load_13 rfl (by decide) (fun c_1 => ?_) (fun c_1 => ?_)
  · have c_1 := zi_f c_1
    exact absurd (show 0 ≤ B ∧ B ≤ 16128 by omega) c_1
  · have c_1 := zi_t c_1
    refine Run.blk (gs := [True, True, ¬ (256 : Int32) = 0]) (S' := ([some (.ref 16), some (.int (nI B))], [.int ((nI B) - (nI B) / (256 : Int32) * (256 : Int32))], Ac fp le lp lb il tf tz bf rfc fr mp sc ifp ib ie pw dh rl rb re sy sb rc sg (Bc (0 : Int32) (nI f) (nI z) (nif t) mmp mrg (nif b) msn mbg mhd mfo mfi mmy mwa mwn mba mdy mkn mfa mpl men mpg mct mim))) k_M_load_16 kc_M_load_16 rfl ⟨trivial, trivial, (by decide), trivial⟩ ?_
    refine Run.br (tgt := 27) d_M_load_21 rfl (by decide) (fun c_2 => ?_) (fun c_2 => ?_)
    · rw [show (256 : Int32) = nI 256 from rfl, pk_rem (by omega) (by decide) (by decide), show (0 : Int32) = nI 0 from rfl, nI_eq (by omega) (by decide)] at c_2
      refine Run.blk (gs := [True, True, True, True, True, True, True]) (S' := ([some (.ref 16), some (.int (nI B))], [.ref 16], Ac fp le lp lb il tf tz bf rfc fr mp sc ifp ib ie pw dh rl rb re sy sb rc sg (Bc (0 : Int32) (nI f) (nI z) (nif t) mmp mrg (nif b) msn mbg mhd mfo mfi mmy mwa mwn mba mdy mkn (0 : Int32) (-1 : Int32) men mpg mct mim))) k_M_load_27 kc_M_load_27 rfl ⟨trivial, trivial, trivial, trivial, trivial, trivial, trivial, trivial⟩ ?_
      refine Run.callV (b := 16) (As := []) (rest := []) v_M_load_38 (c_M_isHeader ht hz) rfl (Nat.le_of_ble_eq_true rfl) rfl rfl rfl rfl (fun r cs' hp => ?_)
      obtain ⟨rfl, rfl⟩ := hp
      show Run _ _ _ _ 41 ([some (.ref 16), some (.int (nI B))], [.int (if (hdF t z).1 = 0 then 1 else 0)], Ac fp le lp lb il tf tz bf rfc fr mp sc ifp ib ie pw dh rl rb re sy sb rc sg (Bc (0 : Int32) (nI f) (nI z) (nif t) mmp mrg (nif b) msn mbg mhd mfo mfi mmy mwa mwn mba mdy mkn ((hdF t z).1) ((hdF t z).2) men mpg mct mim)) _
      refine Run.br (tgt := 52) d_M_load_41 rfl (by decide) (fun c_3 => ?_) (fun c_3 => ?_)
      · have c_3 := zi_t c_3
        obtain ⟨e8, h52, hh, hT⟩ := hdF_0 c_3
        have hl := c_3
        rw [e8]
        exact l_M_load52 hR ht hz h52 hb (by omega) hf hm hl hh hT
      · have c_3 := zi_f (Classical.not_not.mp c_3)
        refine Run.blk (gs := [True, True, True, True]) (S' := ([some (.ref 16), some (.int (nI B))], [.int ((-10 : Int32) - ((hdF t z).1))], Ac fp le lp lb il tf tz bf rfc fr mp sc ifp ib ie pw dh rl rb re sy sb rc sg (Bc (0 : Int32) (nI f) (nI z) (nif t) mmp mrg (nif b) msn mbg mhd mfo mfi mmy mwa mwn mba mdy mkn ((hdF t z).1) ((hdF t z).2) men mpg mct mim))) k_M_load_44 kc_M_load_44 rfl ⟨trivial, trivial, trivial, trivial, trivial⟩ ?_
        rw [show (ldF t z B rf (f - cntM rf 0 64) b) = (hdF t z, b, rf, 0, 0, 0, 0) from by unfold ldF; rw [if_neg c_3]]
        exact Run.ret (r := some (.int ((-10 : Int32) - ((hdF t z).1)))) ⟨d_M_load_51, _, rfl, rfl⟩ ⟨_, _, _, _, _, _, _, _, _, _, _, _, _, _, hR, by rw [if_neg c_3], by rw [if_neg c_3, if_neg c_3, if_neg c_3, if_neg c_3]⟩
    · rw [show (256 : Int32) = nI 256 from rfl, pk_rem (by omega) (by decide) (by decide), show (0 : Int32) = nI 0 from rfl, nI_eq (by omega) (by decide)] at c_2
      exact absurd hB2 c_2
set_option maxRecDepth 100000 in
set_option maxHeartbeats 4000000 in
theorem c_M_load_A {x : Int32} (hx : ¬ (0 ≤ x.toInt ∧ x.toInt ≤ 16128 ∧ x.toInt.tmod 256 = 0)) : Ct m_M_load 0 0 [.ref 16, .int x] (Ac fp le lp lb il tf tz bf rfc fr mp sc ifp ib ie pw dh rl rb re sy sb rc sg (Bc mth mfr msz mtf mmp mrg mme msn mbg mhd mfo mfi mmy mwa mwn mba mdy mkn mfa mpl men mpg mct mim)) (vm_is (some (.int (-2 : Int32))) (Ac fp le lp lb il tf tz bf rfc fr mp sc ifp ib ie pw dh rl rb re sy sb rc sg (Bc (0 : Int32) mfr msz mtf mmp mrg mme msn mbg mhd mfo mfi mmy mwa mwn mba mdy mkn mfa mpl men mpg mct mim))) := by
  refine Ct.of ⟨by decide +kernel, rfl⟩ (Nat.le_of_ble_eq_true rfl) (lv := [some (.ref 16), some (.int x)]) rfl ?_
  refine Run.blk (gs := [True, True, True, True, True, True]) (S' := ([some (.ref 16), some (.int x)], [.int (16128 : Int32), .int (0 : Int32), .int x], Ac fp le lp lb il tf tz bf rfc fr mp sc ifp ib ie pw dh rl rb re sy sb rc sg (Bc (0 : Int32) mfr msz mtf mmp mrg mme msn mbg mhd mfo mfi mmy mwa mwn mba mdy mkn mfa mpl men mpg mct mim))) k_M_load_0 kc_M_load_0 rfl ⟨trivial, trivial, trivial, trivial, trivial, trivial, trivial⟩ ?_
  refine Run.callS (As := [.int x, .int (0 : Int32), .int (16128 : Int32)]) (rest := []) v_M_load_10 (c_M_in x (0 : Int32) (16128 : Int32)) rfl (Nat.le_of_ble_eq_true rfl) rfl (fun r cs' hp => ?_)
  obtain ⟨rfl, rfl⟩ := hp
  show Run _ _ _ _ 13 ([some (.ref 16), some (.int x)], [.int (if (0 : Int32).toInt ≤ x.toInt ∧ x.toInt ≤ (16128 : Int32).toInt then 1 else 0)], Ac fp le lp lb il tf tz bf rfc fr mp sc ifp ib ie pw dh rl rb re sy sb rc sg (Bc (0 : Int32) mfr msz mtf mmp mrg mme msn mbg mhd mfo mfi mmy mwa mwn mba mdy mkn mfa mpl men mpg mct mim)) _
  refine Run.br (tgt := 24) d_M_load_13 rfl (by decide) (fun c_1 => ?_) (fun c_1 => ?_)
  · have c_1 := zi_f c_1
    refine Run.blk (gs := [True]) (S' := ([some (.ref 16), some (.int x)], [.int (-2 : Int32)], Ac fp le lp lb il tf tz bf rfc fr mp sc ifp ib ie pw dh rl rb re sy sb rc sg (Bc (0 : Int32) mfr msz mtf mmp mrg mme msn mbg mhd mfo mfi mmy mwa mwn mba mdy mkn mfa mpl men mpg mct mim))) k_M_load_24 kc_M_load_24 rfl ⟨trivial, trivial⟩ ?_
    exact Run.ret (r := some (.int (-2 : Int32))) ⟨d_M_load_26, _, rfl, rfl⟩ ⟨rfl, rfl⟩
  · have c_1 := zi_t c_1
    refine Run.blk (gs := [True, True, ¬ (256 : Int32) = 0]) (S' := ([some (.ref 16), some (.int x)], [.int (x - x / (256 : Int32) * (256 : Int32))], Ac fp le lp lb il tf tz bf rfc fr mp sc ifp ib ie pw dh rl rb re sy sb rc sg (Bc (0 : Int32) mfr msz mtf mmp mrg mme msn mbg mhd mfo mfi mmy mwa mwn mba mdy mkn mfa mpl men mpg mct mim))) k_M_load_16 kc_M_load_16 rfl ⟨trivial, trivial, (by decide), trivial⟩ ?_
    refine Run.br (tgt := 27) d_M_load_21 rfl (by decide) (fun c_2 => ?_) (fun c_2 => ?_)
    · rw [← Int32.toInt_inj, rem_toInt, t256, t0] at c_2
      exact absurd (show (0 ≤ x.toInt ∧ x.toInt ≤ 16128 ∧ x.toInt.tmod 256 = 0) from by rw [t0, t16128] at c_1; exact ⟨c_1.1, c_1.2, c_2⟩) hx
    · rw [← Int32.toInt_inj, rem_toInt, t256, t0] at c_2
      refine Run.blk (gs := [True]) (S' := ([some (.ref 16), some (.int x)], [.int (-2 : Int32)], Ac fp le lp lb il tf tz bf rfc fr mp sc ifp ib ie pw dh rl rb re sy sb rc sg (Bc (0 : Int32) mfr msz mtf mmp mrg mme msn mbg mhd mfo mfi mmy mwa mwn mba mdy mkn mfa mpl men mpg mct mim))) k_M_load_24 kc_M_load_24 rfl ⟨trivial, trivial⟩ ?_
      exact Run.ret (r := some (.int (-2 : Int32))) ⟨d_M_load_26, _, rfl, rfl⟩ ⟨rfl, rfl⟩
end P48
