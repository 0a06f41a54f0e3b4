section P37
variable {fp le lp lb il : Int32} {tf bf rf : Nat → Int32} {tz fr mp sc ifp ib ie pw dh rc : Int32} {rl rb re sy sb : Int64} {sg : Nat → A_G} {ex : List va_E}
variable {cs : List va_E} {n : Nat} {t b : Nat → Nat} {z : Nat} {L : List SG} {O Ad St Fi He Al : Nat} {fl : Int32} {q j : Nat}
theorem c_J_minJN {a m : Nat} (ha : a ≤ m) (hm : m < 2 ^ 31) {x y : Int64} (hx : x = lN a) (hy : y = lN m) : Ct m_J_minJ 0 0 [.long x, .long y] cs (vm_is (some (.long (lN a))) cs) := by
  subst hx; subst hy
  have h := c_J_minJ (cs := cs) (lN a) (lN m)
  rw [show f_J_minJ (lN a) (lN m) = lN a from by unfold f_J_minJ; rw [if_neg (fun w => absurd ((pk_lLT (by omega) (by omega)).mp w) (by omega))]] at h
  exact h
theorem l_at (a i : Nat) {v : Int32} (hv : v = nI i) : (lN a).toInt32 + v = nI (a + i) := by rw [lN_i, hv, nI_add]
set_option maxRecDepth 100000 in
set_option maxHeartbeats 4000000 in
theorem l_S_lay (ht : ∀ k, t k < 256) (hz : z ≤ 900) (hj : j < 8) (hg : sg j = gI (O, Ad, St, Fi, He, Al, fl)) (hFi : Fi ≤ He) (hOz : O + Fi ≤ z) (hsp : He = 0 ∨ St + He ≤ 16384) : ∀ (k i : Nat) (v : Int32) (bb : Nat → Nat), v = nI i → bb = cpN b St t O i → i + k = Fi → Run m_S_lay n 0 0 31 ([some (.ref (8 + j)), some (.ref 1), some (.ref 3), some (.int (nI Fi)), some (.int v)], [], Ac fp le lp lb il (sbf t) (nI z) (sbf bb) rf fr mp sc ifp ib ie pw dh rl rb re sy sb rc sg ex) (vm_is none (Ac fp le lp lb il (sbf t) (nI z) (sbf (cpN b St t O Fi)) rf fr mp sc ifp ib ie pw dh rl rb re sy sb rc sg ex))
  | 0, i, v, bb, hv, hbb, h => by
    refine Run.blk (gs := [True, True]) (S' := ([some (.ref (8 + j)), some (.ref 1), some (.ref 3), some (.int (nI Fi)), some (.int v)], [.int (nI Fi), .int v], Ac fp le lp lb il (sbf t) (nI z) (sbf bb) rf fr mp sc ifp ib ie pw dh rl rb re sy sb rc sg ex)) k_S_lay_31 kc_S_lay_31 rfl ⟨trivial, trivial, trivial⟩ ?_
    refine Run.br (tgt := 67) d_S_lay_34 rfl (by decide) (fun c_1 => ?_) (fun c_1 => ?_)
    · have hik : i = Fi := by omega
      exact Run.ret (r := none) ⟨d_S_lay_67, rfl⟩ ⟨rfl, by rw [hbb, hik]⟩
    · exact absurd (by rw [hv]; exact (nI_leI (a := Fi) (b := i) (by omega) (by omega)).mpr (by omega)) c_1
  | k + 1, i, v, bb, hv, hbb, h => by
    refine Run.blk (gs := [True, True]) (S' := ([some (.ref (8 + j)), some (.ref 1), some (.ref 3), some (.int (nI Fi)), some (.int v)], [.int (nI Fi), .int v], Ac fp le lp lb il (sbf t) (nI z) (sbf bb) rf fr mp sc ifp ib ie pw dh rl rb re sy sb rc sg ex)) k_S_lay_31 kc_S_lay_31 rfl ⟨trivial, trivial, trivial⟩ ?_
    refine Run.br (tgt := 67) d_S_lay_34 rfl (by decide) (fun c_1 => ?_) (fun c_1 => ?_)
    · exact absurd ((nI_leI (a := Fi) (b := i) (by omega) (by omega)).mp (by rw [← hv]; exact c_1)) (by omega)
    · refine Run.blk (gs := [True, True]) (S' := ([some (.ref (8 + j)), some (.ref 1), some (.ref 3), some (.int (nI Fi)), some (.int v)], [.ref (8 + j), .ref 3], Ac fp le lp lb il (sbf t) (nI z) (sbf bb) rf fr mp sc ifp ib ie pw dh rl rb re sy sb rc sg ex)) k_S_lay_37 kc_S_lay_37 rfl ⟨trivial, trivial, trivial⟩ ?_
      refine Run.blk (S' := ([some (.ref (8 + j)), some (.ref 1), some (.ref 3), some (.int (nI Fi)), some (.int v)], [.long (lN St), .ref 3], Ac fp le lp lb il (sbf t) (nI z) (sbf bb) rf fr mp sc ifp ib ie pw dh rl rb re sy sb rc sg ex)) k_S_lay_39 kc_S_lay_39 (vm_x_gf (by decide) (Ac_segG hj hg) rfl) ⟨trivial, trivial⟩ ?_
      refine Run.blk (gs := [True, True, True, True, True]) (S' := ([some (.ref (8 + j)), some (.ref 1), some (.ref 3), some (.int (nI Fi)), some (.int v)], [.ref (8 + j), .ref 1, .int (((lN St).toInt32) + v), .ref 3], Ac fp le lp lb il (sbf t) (nI z) (sbf bb) rf fr mp sc ifp ib ie pw dh rl rb re sy sb rc sg ex)) k_S_lay_42 kc_S_lay_42 rfl ⟨trivial, trivial, trivial, trivial, trivial, trivial⟩ ?_
      refine Run.blk (S' := ([some (.ref (8 + j)), some (.ref 1), some (.ref 3), some (.int (nI Fi)), some (.int v)], [.long (lN O), .ref 1, .int (((lN St).toInt32) + v), .ref 3], Ac fp le lp lb il (sbf t) (nI z) (sbf bb) rf fr mp sc ifp ib ie pw dh rl rb re sy sb rc sg ex)) k_S_lay_48 kc_S_lay_48 (vm_x_gf (by decide) (Ac_segG hj hg) rfl) ⟨trivial, trivial⟩ ?_
      refine Run.blk (gs := [True, True, True]) (S' := ([some (.ref (8 + j)), some (.ref 1), some (.ref 3), some (.int (nI Fi)), some (.int v)], [.int (((lN O).toInt32) + v), .ref 1, .int (((lN St).toInt32) + v), .ref 3], Ac fp le lp lb il (sbf t) (nI z) (sbf bb) rf fr mp sc ifp ib ie pw dh rl rb re sy sb rc sg ex)) k_S_lay_51 kc_S_lay_51 rfl ⟨trivial, trivial, trivial, trivial⟩ ?_
      refine Run.callV (b := 1) (As := [.int (((lN O).toInt32) + v)]) (rest := [.int (((lN St).toInt32) + v), .ref 3]) v_S_lay_55 (c_T_byteAt ht hz (p := O + i) (l_at _ _ hv) (by omega)) rfl (Nat.le_of_ble_eq_true rfl) rfl rfl rfl rfl (fun r cs' hp => ?_)
      obtain ⟨rfl, rfl⟩ := hp
      show Run _ _ _ _ 58 ([some (.ref (8 + j)), some (.ref 1), some (.ref 3), some (.int (nI Fi)), some (.int v)], [.int (nI (tb t z (O + i))), .int (((lN St).toInt32) + v), .ref 3], Ac fp le lp lb il (sbf t) (nI z) (sbf bb) rf fr mp sc ifp ib ie pw dh rl rb re sy sb rc sg ex) _
      refine Run.callV (b := 3) (As := [.int (((lN St).toInt32) + v), .int (nI (tb t z (O + i)))]) (rest := []) v_S_lay_58 (c_P_setByte (p := St + i) (l_at _ _ hv) (by omega)) rfl (Nat.le_of_ble_eq_true rfl) rfl rfl rfl rfl (fun r cs' hp => ?_)
      obtain ⟨rfl, rfl⟩ := hp
      show Run _ _ _ _ 61 ([some (.ref (8 + j)), some (.ref 1), some (.ref 3), some (.int (nI Fi)), some (.int v)], [], Ac fp le lp lb il (sbf t) (nI z) (sbf (upN bb (St + i) (lb8 (nI (tb t z (O + i)))))) rf fr mp sc ifp ib ie pw dh rl rb re sy sb rc sg ex) _
      refine Run.blk (gs := [True]) (S' := ([some (.ref (8 + j)), some (.ref 1), some (.ref 3), some (.int (nI Fi)), some (.int (v + (1 : Int32)))], [], Ac fp le lp lb il (sbf t) (nI z) (sbf (upN bb (St + i) (lb8 (nI (tb t z (O + i)))))) rf fr mp sc ifp ib ie pw dh rl rb re sy sb rc sg ex)) k_S_lay_61 kc_S_lay_61 rfl ⟨trivial, trivial⟩ ?_
      refine Run.goto (tgt := 31) d_S_lay_64 (by decide) ?_
      exact l_S_lay ht hz hj hg hFi hOz hsp k (i + 1) _ _ (by rw [hv, nI_1]) (by rw [hbb, tb_in (by omega), lb8_b (ht _), cpN_s]) (by omega)
set_option maxRecDepth 100000 in
set_option maxHeartbeats 4000000 in
theorem c_S_lay (ht : ∀ k, t k < 256) (hz : z ≤ 900) (hj : j < 8) (hg : sg j = gI (O, Ad, St, Fi, He, Al, fl)) (hFi : Fi ≤ He) (hOz : O + Fi ≤ z) (hsp : He = 0 ∨ St + He ≤ 16384) (hO : O < 2 ^ 32) (hAd : Ad < 2 ^ 32) (hSt : St < 2 ^ 33) (hHe : He < 2 ^ 32) (hAl : Al < 2 ^ 32) (hfree : ∀ p, pgA St He ≤ p → p < pgC St He → rf p = -1) : Ct m_S_lay 0 0 [.ref (8 + j), .ref 1, .ref 3] (Ac fp le lp lb il (sbf t) (nI z) (sbf b) rf fr mp sc ifp ib ie pw dh rl rb re sy sb rc sg ex) (vm_is none (Ac fp le lp lb il (sbf t) (nI z) (sbf (cpN (fillN b (256 * pgA St He) (256 * (pgC St He - pgA St He)) 0) St t O Fi)) (fillI rf (pgA St He) (pgC St He - pgA St He) fl) fr (mp + nI (pgC St He - pgA St He)) sc ifp ib ie pw dh rl rb re sy sb rc sg ex)) := by
  refine Ct.of ⟨by decide +kernel, rfl⟩ (Nat.le_of_ble_eq_true rfl) (lv := [some (.ref (8 + j)), some (.ref 1), some (.ref 3), none, none]) rfl ?_
  refine Run.blk (gs := [True, True]) (S' := ([some (.ref (8 + j)), some (.ref 1), some (.ref 3), none, none], [.ref (8 + j), .ref 3], Ac fp le lp lb il (sbf t) (nI z) (sbf b) rf fr mp sc ifp ib ie pw dh rl rb re sy sb rc sg ex)) k_S_lay_0 kc_S_lay_0 rfl ⟨trivial, trivial, trivial⟩ ?_
  refine Run.callV (b := (8 + j)) (As := []) (rest := [.ref 3]) v_S_lay_2 (c_S_firstPage (Ac_segG hj hg) hO hAd hSt hHe hAl) rfl (Nat.le_of_ble_eq_true rfl) rfl (Ac_segG hj hg) rfl rfl (fun r cs' hp => ?_)
  obtain ⟨rfl, rfl⟩ := hp
  show Run _ _ _ _ 5 ([some (.ref (8 + j)), some (.ref 1), some (.ref 3), none, none], [.int (nI (pgA St He)), .ref 3], Ac fp le lp lb il (sbf t) (nI z) (sbf b) rf fr mp sc ifp ib ie pw dh rl rb re sy sb rc sg ex) _
  refine Run.blk (gs := [True]) (S' := ([some (.ref (8 + j)), some (.ref 1), some (.ref 3), none, none], [.ref (8 + j), .int (nI (pgA St He)), .ref 3], Ac fp le lp lb il (sbf t) (nI z) (sbf b) rf fr mp sc ifp ib ie pw dh rl rb re sy sb rc sg ex)) k_S_lay_5 kc_S_lay_5 rfl ⟨trivial, trivial⟩ ?_
  refine Run.callV (b := (8 + j)) (As := []) (rest := [.int (nI (pgA St He)), .ref 3]) v_S_lay_6 (c_S_lastPage (Ac_segG hj hg) hO hAd hSt hHe hAl) rfl (Nat.le_of_ble_eq_true rfl) rfl (Ac_segG hj hg) rfl rfl (fun r cs' hp => ?_)
  obtain ⟨rfl, rfl⟩ := hp
  show Run _ _ _ _ 9 ([some (.ref (8 + j)), some (.ref 1), some (.ref 3), none, none], [.int (pgY St He), .int (nI (pgA St He)), .ref 3], Ac fp le lp lb il (sbf t) (nI z) (sbf b) rf fr mp sc ifp ib ie pw dh rl rb re sy sb rc sg ex) _
  refine Run.blk (gs := [True]) (S' := ([some (.ref (8 + j)), some (.ref 1), some (.ref 3), none, none], [.ref (8 + j), .int (pgY St He), .int (nI (pgA St He)), .ref 3], Ac fp le lp lb il (sbf t) (nI z) (sbf b) rf fr mp sc ifp ib ie pw dh rl rb re sy sb rc sg ex)) k_S_lay_9 kc_S_lay_9 rfl ⟨trivial, trivial⟩ ?_
  refine Run.blk (S' := ([some (.ref (8 + j)), some (.ref 1), some (.ref 3), none, none], [.int fl, .int (pgY St He), .int (nI (pgA St He)), .ref 3], Ac fp le lp lb il (sbf t) (nI z) (sbf b) rf fr mp sc ifp ib ie pw dh rl rb re sy sb rc sg ex)) k_S_lay_10 kc_S_lay_10 (vm_x_gf (by decide) (Ac_segG hj hg) rfl) ⟨trivial, trivial⟩ ?_
  refine Run.callV (b := 3) (As := [.int (nI (pgA St He)), .int (pgY St He), .int fl]) (rest := []) v_S_lay_13 (c_P_mapAll (a := pgA St He) (c := pgC St He) rfl (pgY_t (by omega)) (pgC_le hsp) pgAC hfree) rfl (Nat.le_of_ble_eq_true rfl) rfl rfl rfl rfl (fun r cs' hp => ?_)
  obtain ⟨rfl, rfl⟩ := hp
  show Run _ _ _ _ 16 ([some (.ref (8 + j)), some (.ref 1), some (.ref 3), none, none], [], Ac fp le lp lb il (sbf t) (nI z) (sbf (fillN b (256 * pgA St He) (256 * (pgC St He - pgA St He)) 0)) (fillI rf (pgA St He) (pgC St He - pgA St He) fl) fr (mp + nI (pgC St He - pgA St He)) sc ifp ib ie pw dh rl rb re sy sb rc sg ex) _
  refine Run.blk (gs := [True]) (S' := ([some (.ref (8 + j)), some (.ref 1), some (.ref 3), none, none], [.ref (8 + j)], Ac fp le lp lb il (sbf t) (nI z) (sbf (fillN b (256 * pgA St He) (256 * (pgC St He - pgA St He)) 0)) (fillI rf (pgA St He) (pgC St He - pgA St He) fl) fr (mp + nI (pgC St He - pgA St He)) sc ifp ib ie pw dh rl rb re sy sb rc sg ex)) k_S_lay_16 kc_S_lay_16 rfl ⟨trivial, trivial⟩ ?_
  refine Run.blk (S' := ([some (.ref (8 + j)), some (.ref 1), some (.ref 3), none, none], [.long (lN Fi)], Ac fp le lp lb il (sbf t) (nI z) (sbf (fillN b (256 * pgA St He) (256 * (pgC St He - pgA St He)) 0)) (fillI rf (pgA St He) (pgC St He - pgA St He) fl) fr (mp + nI (pgC St He - pgA St He)) sc ifp ib ie pw dh rl rb re sy sb rc sg ex)) k_S_lay_17 kc_S_lay_17 (vm_x_gf (by decide) (Ac_segG hj hg) rfl) ⟨trivial, trivial⟩ ?_
  refine Run.blk (gs := [True]) (S' := ([some (.ref (8 + j)), some (.ref 1), some (.ref 3), none, none], [.long (900 : Int64), .long (lN Fi)], Ac fp le lp lb il (sbf t) (nI z) (sbf (fillN b (256 * pgA St He) (256 * (pgC St He - pgA St He)) 0)) (fillI rf (pgA St He) (pgC St He - pgA St He) fl) fr (mp + nI (pgC St He - pgA St He)) sc ifp ib ie pw dh rl rb re sy sb rc sg ex)) k_S_lay_20 kc_S_lay_20 rfl ⟨trivial, trivial⟩ ?_
  refine Run.callS (As := [.long (lN Fi), .long (900 : Int64)]) (rest := []) v_S_lay_23 (c_J_minJN (show Fi ≤ 900 by omega) (by decide) rfl rfl) rfl (Nat.le_of_ble_eq_true rfl) rfl (fun r cs' hp => ?_)
  obtain ⟨rfl, rfl⟩ := hp
  show Run _ _ _ _ 26 ([some (.ref (8 + j)), some (.ref 1), some (.ref 3), none, none], [.long (lN Fi)], Ac fp le lp lb il (sbf t) (nI z) (sbf (fillN b (256 * pgA St He) (256 * (pgC St He - pgA St He)) 0)) (fillI rf (pgA St He) (pgC St He - pgA St He) fl) fr (mp + nI (pgC St He - pgA St He)) sc ifp ib ie pw dh rl rb re sy sb rc sg ex) _
  refine Run.blk (gs := [True, True, True, True]) (S' := ([some (.ref (8 + j)), some (.ref 1), some (.ref 3), some (.int ((lN Fi).toInt32)), some (.int (0 : Int32))], [], Ac fp le lp lb il (sbf t) (nI z) (sbf (fillN b (256 * pgA St He) (256 * (pgC St He - pgA St He)) 0)) (fillI rf (pgA St He) (pgC St He - pgA St He) fl) fr (mp + nI (pgC St He - pgA St He)) sc ifp ib ie pw dh rl rb re sy sb rc sg ex)) k_S_lay_26 kc_S_lay_26 rfl ⟨trivial, trivial, trivial, trivial, trivial⟩ ?_
  rw [lN_i]
  exact l_S_lay ht hz hj hg hFi hOz hsp Fi 0 _ _ rfl (cpN_0 _ _ _ _).symm (by omega)
theorem cnt_set (r : Nat → Int32) {p k : Nat} {v : Int32} (h : p + k ≤ 64) (hv : ¬ v = -1) (hf : ∀ j, p ≤ j → j < p + k → r j = -1) : cntM (fillI r p k v) 0 64 = cntM r 0 64 + k := by
  have e := cnt_fill (fillI r p k v) h
  have e1 : fillI (fillI r p k v) p k (-1) = r := by
    funext j; unfold fillI
    by_cases hj : p ≤ j ∧ j < p + k
    · rw [if_pos hj, hf j hj.1 hj.2]
    · rw [if_neg hj, if_neg hj]
  rw [e1] at e
  have e2 : ∀ l, l ≤ k → cntM (fillI r p k v) p l = l := by
    intro l
    induction l with
    | zero => intro _; rfl
    | succ l ih =>
      intro hl
      rw [cntM, ih (by omega)]
      have : fillI r p k v (p + l) = v := by unfold fillI; rw [if_pos (by omega)]
      rw [this, if_neg hv]
  rw [e2 k (Nat.le_refl _)] at e
  omega
def Fre (r : Nat → Int32) (L : List SG) : Prop := ∀ g, g ∈ L → ∀ p, gA g ≤ p → p < gC g → r p = -1
theorem Fre_s {r : Nat → Int32} {R : List SG} {v : Int32} (h : Fre r ((O, Ad, St, Fi, He, Al, fl) :: R)) (hd : Dj ((O, Ad, St, Fi, He, Al, fl) :: R)) : Fre (fillI r (pgA St He) (pgC St He - pgA St He) v) R := by
  intro g hg p h1 h2
  have h3 := (List.pairwise_cons.mp hd).1 g hg
  unfold fillI
  rw [if_neg, h g (List.mem_cons_of_mem _ hg) p h1 h2]
  intro w
  have := pgAC (St := St) (He := He)
  exact h3 ⟨by show gA g < pgC St He; omega, by show pgA St He < gC g; omega⟩
theorem laM_laR {L : List SG} : ∀ {r : Nat → Int32}, Fre r L → Dj L → laM (-1) L (laR L r) = r := by
  have key : ∀ (L : List SG) (r : Nat → Int32), Fre r L → Dj L → ∀ p, laM (-1) L (laR L r) p = r p := by
    have off : ∀ (v : Int32) (L : List SG) (r : Nat → Int32) (p : Nat), (∀ g, g ∈ L → ¬ (gA g ≤ p ∧ p < gC g)) → laM v L r p = r p := by
      intro v L
      induction L with
      | nil => intro r p _; rfl
      | cons g R ih =>
        intro r p h
        obtain ⟨O, Ad, St, Fi, He, Al, fl⟩ := g
        rw [laM, ih _ p (fun g hg => h g (List.mem_cons_of_mem _ hg))]
        have h0 := h (O, Ad, St, Fi, He, Al, fl) List.mem_cons_self
        unfold fillI
        rw [if_neg]
        intro w
        have := pgAC (St := St) (He := He)
        exact h0 ⟨by show pgA St He ≤ p; omega, by show p < pgC St He; omega⟩
    have offR : ∀ (L : List SG) (r : Nat → Int32) (p : Nat), (∀ g, g ∈ L → ¬ (gA g ≤ p ∧ p < gC g)) → laR L r p = r p := by
      intro L
      induction L with
      | nil => intro r p _; rfl
      | cons g R ih =>
        intro r p h
        obtain ⟨O, Ad, St, Fi, He, Al, fl⟩ := g
        rw [laR, ih _ p (fun g hg => h g (List.mem_cons_of_mem _ hg))]
        have h0 := h (O, Ad, St, Fi, He, Al, fl) List.mem_cons_self
        unfold fillI
        rw [if_neg]
        intro w
        have := pgAC (St := St) (He := He)
        exact h0 ⟨by show pgA St He ≤ p; omega, by show p < pgC St He; omega⟩
    have on : ∀ (L : List SG) (r : Nat → Int32) (p : Nat), (∃ g, g ∈ L ∧ gA g ≤ p ∧ p < gC g) → laM (-1) L r p = -1 := by
      intro L
      induction L with
      | nil => intro r p h; obtain ⟨g, hg, -⟩ := h; exact absurd hg List.not_mem_nil
      | cons g R ih =>
        intro r p h
        obtain ⟨O, Ad, St, Fi, He, Al, fl⟩ := g
        rw [laM]
        by_cases hR : ∃ g, g ∈ R ∧ gA g ≤ p ∧ p < gC g
        · exact ih _ p hR
        · rw [off _ _ _ p (fun g hg w => hR ⟨g, hg, w.1, w.2⟩)]
          obtain ⟨g, hg, h1, h2⟩ := h
          rcases List.mem_cons.mp hg with rfl | hg
          · unfold fillI
            have := pgAC (St := St) (He := He)
            rw [if_pos ⟨h1, by have : p < pgC St He := h2; omega⟩]
          · exact absurd ⟨g, hg, h1, h2⟩ hR
    intro L r hF hD p
    by_cases h : ∃ g, g ∈ L ∧ gA g ≤ p ∧ p < gC g
    · rw [on L _ p h]
      obtain ⟨g, hg, h1, h2⟩ := h
      exact (hF g hg p h1 h2).symm
    · have h' : ∀ g, g ∈ L → ¬ (gA g ≤ p ∧ p < gC g) := fun g hg w => h ⟨g, hg, w.1, w.2⟩
      rw [off _ _ _ p h', offR _ _ p h']
  intro r hF hD
  funext p
  exact key L r hF hD p
theorem cnt_laR {z : Nat} {r0 : Nat → Int32} : ∀ {L : List SG} {r : Nat → Int32}, (∀ g, g ∈ L → Gd z r0 g) → Fre r L → Dj L → cntM (laR L r) 0 64 = cntM r 0 64 + pgs L
  | [], r, _, _, _ => rfl
  | (O, Ad, St, Fi, He, Al, fl) :: R, r, hG, hF, hD => by
    obtain ⟨h1, h2, ⟨w, hw, hfl⟩, h4⟩ := hG _ List.mem_cons_self
    rw [laR, cnt_laR (fun g hg => hG g (List.mem_cons_of_mem _ hg)) (Fre_s hF hD) (List.pairwise_cons.mp hD).2, pgs]
    have := pgAC (St := St) (He := He)
    have hc := pgC_le h2.2.2
    rw [cnt_set r (p := pgA St He) (k := pgC St He - pgA St He) (v := fl) (by omega) (by rw [hfl]; exact nI_m1n (by omega)) (fun j a1 a2 => hF _ List.mem_cons_self j a1 (by show j < pgC St He; omega))]
    show _ = _ + ((pgC St He - pgA St He) + pgs R)
    omega
set_option maxRecDepth 100000 in
set_option maxHeartbeats 4000000 in
theorem l_I_lay (ht : ∀ k, t k < 256) (hz : z ≤ 900) (hS : hSg L sg) (hG : ∀ g, g ∈ L → Gd z rf g) (hL : L.length ≤ 8) : ∀ (R : List SG) (i : Nat) (v : Int32) (bb : Nat → Nat) (r : Nat → Int32) (mq : Int32), v = nI i → L.drop i = R → i ≤ 8 → Fre r R → Dj R → mq = nI (cntM r 0 64) → Run m_I_lay n 0 0 2 ([some (.ref 6), some (.ref 1), some (.ref 3), some (.int v)], [], Ac fp le lp lb il (sbf t) (nI z) (sbf bb) r fr mq (nI L.length) ifp ib ie pw dh rl rb re sy sb rc sg ex) (vm_is none (Ac fp le lp lb il (sbf t) (nI z) (sbf (laB t R bb)) (laR R r) fr (nI (cntM (laR R r) 0 64)) (nI L.length) ifp ib ie pw dh rl rb re sy sb rc sg ex))
  | [], i, v, bb, r, mq, hv, hd, hi9, hF, hD, hmq => by
    refine Run.blk (gs := [True, True, True]) (S' := ([some (.ref 6), some (.ref 1), some (.ref 3), some (.int v)], [.int (nI L.length), .int v], Ac fp le lp lb il (sbf t) (nI z) (sbf bb) r fr mq (nI L.length) ifp ib ie pw dh rl rb re sy sb rc sg ex)) k_I_lay_2 kc_I_lay_2 rfl ⟨trivial, trivial, trivial, trivial⟩ ?_
    refine Run.br (tgt := 36) d_I_lay_7 rfl (by decide) (fun c_1 => ?_) (fun c_1 => ?_)
    · exact Run.ret (r := none) ⟨d_I_lay_36, rfl⟩ ⟨rfl, by rw [hmq]; rfl⟩
    · exact absurd (by rw [hv]; exact (nI_leI (a := L.length) (b := i) (by omega) (by omega)).mpr (drop_n hd)) c_1
  | (O, Ad, St, Fi, He, Al, fl) :: R, i, v, bb, r, mq, hv, hd, hi9, hF, hD, hmq => by
    obtain ⟨hg, hd2, hi⟩ := drop_c hd
    obtain ⟨⟨hO, hAd, hSt, hHe, hAl⟩, ⟨hFi, hOz, hsp⟩, ⟨w, hw, hfl⟩, -⟩ := hG _ (List.mem_of_getElem? hg)
    have hac := pgAC (St := St) (He := He)
    have hpc := pgC_le hsp
    refine Run.blk (gs := [True, True, True]) (S' := ([some (.ref 6), some (.ref 1), some (.ref 3), some (.int v)], [.int (nI L.length), .int v], Ac fp le lp lb il (sbf t) (nI z) (sbf bb) r fr mq (nI L.length) ifp ib ie pw dh rl rb re sy sb rc sg ex)) k_I_lay_2 kc_I_lay_2 rfl ⟨trivial, trivial, trivial, trivial⟩ ?_
    refine Run.br (tgt := 36) d_I_lay_7 rfl (by decide) (fun c_1 => ?_) (fun c_1 => ?_)
    · exact absurd ((nI_leI (a := L.length) (b := i) (by omega) (by omega)).mp (by rw [← hv]; exact c_1)) (by omega)
    · refine Run.blk (gs := [True, True, True, True]) (S' := ([some (.ref 6), some (.ref 1), some (.ref 3), some (.int v)], [.int (nI 8), .int v], Ac fp le lp lb il (sbf t) (nI z) (sbf bb) r fr mq (nI L.length) ifp ib ie pw dh rl rb re sy sb rc sg ex)) k_I_lay_10 kc_I_lay_10 rfl ⟨trivial, trivial, trivial, trivial, trivial⟩ ?_
      refine Run.br (tgt := 36) d_I_lay_16 rfl (by decide) (fun c_2 => ?_) (fun c_2 => ?_)
      · exact absurd ((nI_leI (a := 8) (b := i) (by omega) (by omega)).mp (by rw [← hv]; exact c_2)) (by omega)
      · refine Run.blk (gs := [True, True, True]) (S' := ([some (.ref 6), some (.ref 1), some (.ref 3), some (.int v)], [.int v, .ref 7], Ac fp le lp lb il (sbf t) (nI z) (sbf bb) r fr mq (nI L.length) ifp ib ie pw dh rl rb re sy sb rc sg ex)) k_I_lay_19 kc_I_lay_19 rfl ⟨trivial, trivial, trivial, trivial⟩ ?_
        refine Run.aald (q := 8 + i) d_I_lay_24 rfl rfl (vp_j hv (by omega)) (sgf_at hv (by omega)) ?_
        refine Run.blk (gs := [True, True]) (S' := ([some (.ref 6), some (.ref 1), some (.ref 3), some (.int v)], [.ref 3, .ref 1, .ref (8 + i)], Ac fp le lp lb il (sbf t) (nI z) (sbf bb) r fr mq (nI L.length) ifp ib ie pw dh rl rb re sy sb rc sg ex)) k_I_lay_25 kc_I_lay_25 rfl ⟨trivial, trivial, trivial⟩ ?_
        refine Run.callV (b := (8 + i)) (As := [.ref 1, .ref 3]) (rest := []) v_I_lay_27 (c_S_lay ht hz (show i < 8 by omega) (hS _ _ hg) hFi hOz hsp hO hAd hSt hHe hAl (fun p a1 a2 => hF _ List.mem_cons_self p a1 a2)) rfl (Nat.le_of_ble_eq_true rfl) rfl (Ac_segG (show i < 8 by omega) (hS _ _ hg)) rfl rfl (fun r cs' hp => ?_)
        obtain ⟨rfl, rfl⟩ := hp
        show Run _ _ _ _ 30 ([some (.ref 6), some (.ref 1), some (.ref 3), some (.int v)], [], Ac fp le lp lb il (sbf t) (nI z) (sbf (cpN (fillN bb (256 * pgA St He) (256 * (pgC St He - pgA St He)) 0) St t O Fi)) (fillI r (pgA St He) (pgC St He - pgA St He) fl) fr (mq + nI (pgC St He - pgA St He)) (nI L.length) ifp ib ie pw dh rl rb re sy sb rc sg ex) _
        refine Run.blk (gs := [True]) (S' := ([some (.ref 6), some (.ref 1), some (.ref 3), some (.int (v + (1 : Int32)))], [], Ac fp le lp lb il (sbf t) (nI z) (sbf (cpN (fillN bb (256 * pgA St He) (256 * (pgC St He - pgA St He)) 0) St t O Fi)) (fillI r (pgA St He) (pgC St He - pgA St He) fl) fr (mq + nI (pgC St He - pgA St He)) (nI L.length) ifp ib ie pw dh rl rb re sy sb rc sg ex)) k_I_lay_30 kc_I_lay_30 rfl ⟨trivial, trivial⟩ ?_
        refine Run.goto (tgt := 2) d_I_lay_33 (by decide) ?_
        exact l_I_lay ht hz hS hG hL R (i + 1) _ _ _ _ (by rw [hv, nI_1]) hd2 (by omega) (Fre_s hF hD) (List.pairwise_cons.mp hD).2 (by rw [hmq, nI_add, cnt_set r (p := pgA St He) (k := pgC St He - pgA St He) (v := fl) (by omega) (by rw [hfl]; exact nI_m1n (by omega)) (fun j a1 a2 => hF _ List.mem_cons_self j a1 (by show j < pgC St He; omega))])
set_option maxRecDepth 100000 in
set_option maxHeartbeats 4000000 in
theorem c_I_lay (ht : ∀ k, t k < 256) (hz : z ≤ 900) (hS : hSg L sg) (hG : ∀ g, g ∈ L → Gd z rf g) (hL : L.length ≤ 8) (hF : Fre rf L) (hD : Dj L) : Ct m_I_lay 0 0 [.ref 6, .ref 1, .ref 3] (Ac fp le lp lb il (sbf t) (nI z) (sbf b) rf fr (nI (cntM rf 0 64)) (nI L.length) ifp ib ie pw dh rl rb re sy sb rc sg ex) (vm_is none (Ac fp le lp lb il (sbf t) (nI z) (sbf (laB t L b)) (laR L rf) fr (nI (cntM (laR L rf) 0 64)) (nI L.length) ifp ib ie pw dh rl rb re sy sb rc sg ex)) := by
  refine Ct.of ⟨by decide +kernel, rfl⟩ (Nat.le_of_ble_eq_true rfl) (lv := [some (.ref 6), some (.ref 1), some (.ref 3), none]) rfl ?_
  refine Run.blk (gs := [True, True]) (S' := ([some (.ref 6), some (.ref 1), some (.ref 3), some (.int (0 : Int32))], [], Ac fp le lp lb il (sbf t) (nI z) (sbf b) rf fr (nI (cntM rf 0 64)) (nI L.length) ifp ib ie pw dh rl rb re sy sb rc sg ex)) k_I_lay_0 kc_I_lay_0 rfl ⟨trivial, trivial, trivial⟩ ?_
  exact l_I_lay ht hz hS hG hL L 0 _ _ _ _ rfl rfl (by omega) hF hD rfl
set_option maxRecDepth 100000 in
set_option maxHeartbeats 4000000 in
theorem l_I_takeBack {r0 : Nat → Int32} (hS : hSg L sg) (hG : ∀ g, g ∈ L → Gd z r0 g) (hL : L.length ≤ 8) : ∀ (R : List SG) (i : Nat) (v : Int32) (r : Nat → Int32) (mq : Int32), v = nI i → L.drop i = R → i ≤ 8 → mq = nI (cntM r 0 64) → Run m_I_takeBack n 0 0 2 ([some (.ref 6), some (.ref 3), some (.int v)], [], Ac fp le lp lb il tf tz bf r fr mq (nI L.length) ifp ib ie pw dh rl rb re sy sb rc sg ex) (vm_is none (Ac fp le lp lb il tf tz bf (laM (-1) R r) fr (nI (cntM (laM (-1) R r) 0 64)) (nI L.length) ifp ib ie pw dh rl rb re sy sb rc sg ex))
  | [], i, v, r, mq, hv, hd, hi9, hmq => by
    refine Run.blk (gs := [True, True, True]) (S' := ([some (.ref 6), some (.ref 3), some (.int v)], [.int (nI L.length), .int v], Ac fp le lp lb il tf tz bf r fr mq (nI L.length) ifp ib ie pw dh rl rb re sy sb rc sg ex)) k_I_takeBack_2 kc_I_takeBack_2 rfl ⟨trivial, trivial, trivial, trivial⟩ ?_
    refine Run.br (tgt := 47) d_I_takeBack_7 rfl (by decide) (fun c_1 => ?_) (fun c_1 => ?_)
    · exact Run.ret (r := none) ⟨d_I_takeBack_47, rfl⟩ ⟨rfl, by rw [hmq]; rfl⟩
    · exact absurd (by rw [hv]; exact (nI_leI (a := L.length) (b := i) (by omega) (by omega)).mpr (drop_n hd)) c_1
  | (O, Ad, St, Fi, He, Al, fl) :: R, i, v, r, mq, hv, hd, hi9, hmq => by
    obtain ⟨hg, hd2, hi⟩ := drop_c hd
    obtain ⟨⟨hO, hAd, hSt, hHe, hAl⟩, ⟨hFi, hOz, hsp⟩, ⟨w, hw, hfl⟩, -⟩ := hG _ (List.mem_of_getElem? hg)
    have hac := pgAC (St := St) (He := He)
    have hpc := pgC_le hsp
    refine Run.blk (gs := [True, True, True]) (S' := ([some (.ref 6), some (.ref 3), some (.int v)], [.int (nI L.length), .int v], Ac fp le lp lb il tf tz bf r fr mq (nI L.length) ifp ib ie pw dh rl rb re sy sb rc sg ex)) k_I_takeBack_2 kc_I_takeBack_2 rfl ⟨trivial, trivial, trivial, trivial⟩ ?_
    refine Run.br (tgt := 47) d_I_takeBack_7 rfl (by decide) (fun c_1 => ?_) (fun c_1 => ?_)
    · exact absurd ((nI_leI (a := L.length) (b := i) (by omega) (by omega)).mp (by rw [← hv]; exact c_1)) (by omega)
    · refine Run.blk (gs := [True, True, True, True]) (S' := ([some (.ref 6), some (.ref 3), some (.int v)], [.int (nI 8), .int v], Ac fp le lp lb il tf tz bf r fr mq (nI L.length) ifp ib ie pw dh rl rb re sy sb rc sg ex)) k_I_takeBack_10 kc_I_takeBack_10 rfl ⟨trivial, trivial, trivial, trivial, trivial⟩ ?_
      refine Run.br (tgt := 47) d_I_takeBack_16 rfl (by decide) (fun c_2 => ?_) (fun c_2 => ?_)
      · exact absurd ((nI_leI (a := 8) (b := i) (by omega) (by omega)).mp (by rw [← hv]; exact c_2)) (by omega)
      · refine Run.blk (gs := [True, True, True, True]) (S' := ([some (.ref 6), some (.ref 3), some (.int v)], [.int v, .ref 7, .ref 3], Ac fp le lp lb il tf tz bf r fr mq (nI L.length) ifp ib ie pw dh rl rb re sy sb rc sg ex)) k_I_takeBack_19 kc_I_takeBack_19 rfl ⟨trivial, trivial, trivial, trivial, trivial⟩ ?_
        refine Run.aald (q := 8 + i) d_I_takeBack_25 rfl rfl (vp_j hv (by omega)) (sgf_at hv (by omega)) ?_
        refine Run.callV (b := (8 + i)) (As := []) (rest := [.ref 3]) v_I_takeBack_26 (c_S_firstPage (Ac_segG (show i < 8 by omega) (hS _ _ hg)) hO hAd hSt hHe hAl) rfl (Nat.le_of_ble_eq_true rfl) rfl (Ac_segG (show i < 8 by omega) (hS _ _ hg)) rfl rfl (fun r cs' hp => ?_)
        obtain ⟨rfl, rfl⟩ := hp
        show Run _ _ _ _ 29 ([some (.ref 6), some (.ref 3), some (.int v)], [.int (nI (pgA St He)), .ref 3], Ac fp le lp lb il tf tz bf r fr mq (nI L.length) ifp ib ie pw dh rl rb re sy sb rc sg ex) _
        refine Run.blk (gs := [True, True, True]) (S' := ([some (.ref 6), some (.ref 3), some (.int v)], [.int v, .ref 7, .int (nI (pgA St He)), .ref 3], Ac fp le lp lb il tf tz bf r fr mq (nI L.length) ifp ib ie pw dh rl rb re sy sb rc sg ex)) k_I_takeBack_29 kc_I_takeBack_29 rfl ⟨trivial, trivial, trivial, trivial⟩ ?_
        refine Run.aald (q := 8 + i) d_I_takeBack_34 rfl rfl (vp_j hv (by omega)) (sgf_at hv (by omega)) ?_
        refine Run.callV (b := (8 + i)) (As := []) (rest := [.int (nI (pgA St He)), .ref 3]) v_I_takeBack_35 (c_S_lastPage (Ac_segG (show i < 8 by omega) (hS _ _ hg)) hO hAd hSt hHe hAl) rfl (Nat.le_of_ble_eq_true rfl) rfl (Ac_segG (show i < 8 by omega) (hS _ _ hg)) rfl rfl (fun r cs' hp => ?_)
        obtain ⟨rfl, rfl⟩ := hp
        show Run _ _ _ _ 38 ([some (.ref 6), some (.ref 3), some (.int v)], [.int (pgY St He), .int (nI (pgA St He)), .ref 3], Ac fp le lp lb il tf tz bf r fr mq (nI L.length) ifp ib ie pw dh rl rb re sy sb rc sg ex) _
        refine Run.callV (b := 3) (As := [.int (nI (pgA St He)), .int (pgY St He)]) (rest := []) v_I_takeBack_38 (c_P_releaseAll (a := pgA St He) (c := pgC St He) rfl (pgY_t (by omega)) hpc hac) rfl (Nat.le_of_ble_eq_true rfl) rfl rfl rfl rfl (fun r cs' hp => ?_)
        obtain ⟨rfl, rfl⟩ := hp
        show Run _ _ _ _ 41 ([some (.ref 6), some (.ref 3), some (.int v)], [], Ac fp le lp lb il tf tz bf (fillI r (pgA St He) (pgC St He - pgA St He) (-1)) fr (mq - nI (cntM r (pgA St He) (pgC St He - pgA St He))) (nI L.length) ifp ib ie pw dh rl rb re sy sb rc sg ex) _
        refine Run.blk (gs := [True]) (S' := ([some (.ref 6), some (.ref 3), some (.int (v + (1 : Int32)))], [], Ac fp le lp lb il tf tz bf (fillI r (pgA St He) (pgC St He - pgA St He) (-1)) fr (mq - nI (cntM r (pgA St He) (pgC St He - pgA St He))) (nI L.length) ifp ib ie pw dh rl rb re sy sb rc sg ex)) k_I_takeBack_41 kc_I_takeBack_41 rfl ⟨trivial, trivial⟩ ?_
        refine Run.goto (tgt := 2) d_I_takeBack_44 (by decide) ?_
        have hcf := cnt_fill r (show pgA St He + (pgC St He - pgA St He) ≤ 64 by omega)
        exact l_I_takeBack hS hG hL R (i + 1) _ _ _ (by rw [hv, nI_1]) hd2 (by omega) (by rw [hmq, pk_sub (by omega)]; congr 1; omega)
set_option maxRecDepth 100000 in
set_option maxHeartbeats 4000000 in
theorem c_I_takeBack {r0 : Nat → Int32} (hS : hSg L sg) (hG : ∀ g, g ∈ L → Gd z r0 g) (hL : L.length ≤ 8) : Ct m_I_takeBack 0 0 [.ref 6, .ref 3] (Ac fp le lp lb il tf tz bf rf fr (nI (cntM rf 0 64)) (nI L.length) ifp ib ie pw dh rl rb re sy sb rc sg ex) (vm_is none (Ac fp le lp lb il tf tz bf (laM (-1) L rf) fr (nI (cntM (laM (-1) L rf) 0 64)) (nI L.length) ifp ib ie pw dh rl rb re sy sb rc sg ex)) := by
  refine Ct.of ⟨by decide +kernel, rfl⟩ (Nat.le_of_ble_eq_true rfl) (lv := [some (.ref 6), some (.ref 3), none]) rfl ?_
  refine Run.blk (gs := [True, True]) (S' := ([some (.ref 6), some (.ref 3), some (.int (0 : Int32))], [], Ac fp le lp lb il tf tz bf rf fr (nI (cntM rf 0 64)) (nI L.length) ifp ib ie pw dh rl rb re sy sb rc sg ex)) k_I_takeBack_0 kc_I_takeBack_0 rfl ⟨trivial, trivial, trivial⟩ ?_
  exact l_I_takeBack hS hG hL L 0 _ _ _ rfl rfl (by omega) rfl
end P37
