theorem laM_off (v : Int32) : ∀ (L : List SG) (r : Nat → Int32) (p : Nat), ¬ wnt p L = true → laM v L r p = r p
  | [], r, p, _ => rfl
  | (O, Ad, St, Fi, He, Al, fl) :: R, r, p, h => by
    rw [wnt] at h
    by_cases c : pgA St He ≤ p ∧ p < pgC St He
    · rw [if_pos c] at h; exact absurd rfl h
    · rw [if_neg c] at h
      have := pgAC (St := St) (He := He)
      rw [laM, laM_off v R _ p h, fillI, if_neg (by omega)]
theorem laR_off : ∀ (L : List SG) (r : Nat → Int32) (p : Nat), ¬ wnt p L = true → laR L r p = r p
  | [], r, p, _ => rfl
  | (O, Ad, St, Fi, He, Al, fl) :: R, r, p, h => by
    rw [wnt] at h
    by_cases c : pgA St He ≤ p ∧ p < pgC St He
    · rw [if_pos c] at h; exact absurd rfl h
    · rw [if_neg c] at h
      have := pgAC (St := St) (He := He)
      rw [laR, laR_off R _ p h, fillI, if_neg (by omega)]
theorem fl_ne {z : Nat} {r0 : Nat → Int32} {O Ad St Fi He Al : Nat} {fl : Int32} (h : Gd z r0 (O, Ad, St, Fi, He, Al, fl)) : ¬ fl = -1 := by
  obtain ⟨-, -, ⟨r, hr, rfl⟩, -⟩ := h
  exact nI_m1n (by omega)
theorem Rm_la {z : Nat} {r0 : Nat → Int32} : ∀ {L : List SG} {rf mp rg : Nat → Int32}, (∀ g, g ∈ L → Gd z r0 g) → Rm rf mp rg → Rm (laR L rf) (laM 1 L mp) (laR L rg)
  | [], rf, mp, rg, _, h => h
  | (O, Ad, St, Fi, He, Al, fl) :: R, rf, mp, rg, hG, h => by
    rw [laR, laM, laR]
    refine Rm_la (fun g hg => hG g (List.mem_cons_of_mem _ hg)) (fun j hj => ?_)
    unfold fillI
    by_cases c : pgA St He ≤ j ∧ j < pgA St He + (pgC St He - pgA St He)
    · rw [if_pos c, if_pos c, if_pos c]; exact Or.inr ⟨fl_ne (hG _ List.mem_cons_self), rfl, rfl⟩
    · rw [if_neg c, if_neg c, if_neg c]; exact h j hj
theorem Rm_un {L : List SG} {rf mp rg wa : Nat → Int32} (hF : Fre rf L) (hW : Wr L wa) (h : Rm rf mp rg) : Rm rf (unF (laM 1 L mp) wa 64) (laR L rg) := by
  intro j hj
  unfold unF
  rw [if_pos hj, hW j hj]
  by_cases c : wnt j L = true
  · obtain ⟨g, hg, h1, h2⟩ := wnt_iff.mp c
    refine Or.inl ⟨hF g hg j h1 h2, ?_⟩
    rw [if_pos c]
    by_cases d : laM 1 L mp j = 0
    · rw [if_pos d]
    · rw [if_neg d, if_neg (by decide)]
  · rw [laM_off 1 L mp j c, laR_off L rg j c, if_neg c]
    rcases h j hj with ⟨h1, h2⟩ | ⟨h1, h2, h3⟩
    · refine Or.inl ⟨h1, ?_⟩; rw [if_pos h2]
    · refine Or.inr ⟨h1, ?_, h3⟩; rw [h2, if_neg (by decide), if_pos rfl]
theorem pg0 {St He : Nat} (h : He = 0) : pgA St He = 0 ∧ pgC St He = 0 := by unfold pgA pgC; rw [if_pos h, if_pos h]; exact ⟨rfl, rfl⟩
theorem la_f {z : Nat} {r0 : Nat → Int32} (t : Nat → Nat) : ∀ {L : List SG}, (∀ g, g ∈ L → Gd z r0 g) → (∀ b, laB t (L.filter gnz) b = laB t L b) ∧ (∀ r, laR (L.filter gnz) r = laR L r) ∧ (∀ v r, laM v (L.filter gnz) r = laM v L r)
  | [], _ => ⟨fun _ => rfl, fun _ => rfl, fun _ _ => rfl⟩
  | (O, Ad, St, Fi, He, Al, fl) :: R, hG => by
    obtain ⟨i1, i2, i3⟩ := la_f t (fun g hg => hG g (List.mem_cons_of_mem _ hg))
    by_cases h : He = 0
    · have hFi : Fi = 0 := by have := (hG _ List.mem_cons_self).2.1.1; omega
      have e : List.filter gnz ((O, Ad, St, Fi, He, Al, fl) :: R) = R.filter gnz := by rw [List.filter_cons, gnz_f (g := (O, Ad, St, Fi, He, Al, fl)) h]; rfl
      obtain ⟨p1, p2⟩ := pg0 (St := St) h
      rw [e]
      refine ⟨fun b => ?_, fun r => ?_, fun v r => ?_⟩
      · rw [i1, laB, p1, p2, hFi, cpN_0, fillN_0]
      · rw [i2, laR, p1, p2, fillI_0]
      · rw [i3, laM, p1, p2, fillI_0]
    · have e : List.filter gnz ((O, Ad, St, Fi, He, Al, fl) :: R) = (O, Ad, St, Fi, He, Al, fl) :: R.filter gnz := by rw [List.filter_cons, gnz_t (g := (O, Ad, St, Fi, He, Al, fl)) (by show 0 < He; omega)]; rfl
      rw [e]
      refine ⟨fun b => ?_, fun r => ?_, fun v r => ?_⟩
      · rw [laB, laB, i1]
      · rw [laR, laR, i2]
      · rw [laM, laM, i3]
theorem hB_f (x : Nat) : ∀ (L : List SG), hB x (L.filter gnz) = hB x L
  | [] => rfl
  | (O, Ad, St, Fi, He, Al, fl) :: R => by
    by_cases h : He = 0
    · have e : List.filter gnz ((O, Ad, St, Fi, He, Al, fl) :: R) = R.filter gnz := by rw [List.filter_cons, gnz_f (g := (O, Ad, St, Fi, He, Al, fl)) h]; rfl
      rw [e, hB_f x R, hB, if_neg (by omega)]
    · have e : List.filter gnz ((O, Ad, St, Fi, He, Al, fl) :: R) = (O, Ad, St, Fi, He, Al, fl) :: R.filter gnz := by rw [List.filter_cons, gnz_t (g := (O, Ad, St, Fi, He, Al, fl)) (by show 0 < He; omega)]; rfl
      rw [e, hB, hB, hB_f x R]
theorem hA_f (L : List SG) (a : Nat) : ∀ (r k : Nat), hA (L.filter gnz) a k r = hA L a k r
  | 0, k => rfl
  | r + 1, k => by rw [hA, hA, hB_f, hA_f L a r (k + 1)]
section P46
variable {fp le lp lb il : Int32} {tf bf rf : Nat → Int32} {tz fr mp sc ifp ib ie pw dh rc : Int32} {rl rb re sy sb : Int64} {sg : Nat → A_G} {ex : List va_E}
variable {mth mfr msz msn mwn mba mdy mfa mpl men mpg mct mim : Int32} {mtf mmp mrg mme mfo mfi mmy mwa : Nat → Int32} {mbg mhd mkn : Nat → Int64} {rfc : Nat → Int32}
variable {cs : List va_E} {n : Nat} {t b : Nat → Nat} {z : Nat} {L : List SG} {O Ad St Fi He Al : Nat} {fl : Int32} {K : Nat → Nat}
theorem p256 (p j : Nat) {v u : Int32} (hv : v = nI p) (hu : u = nI j) : (256 : Int32) * v + u = nI (256 * p + j) := by
  rw [hv, hu, show (256 : Int32) * nI p = nI (256 * p) from pk_mul 256 p, nI_add]
theorem fillNif (f : Nat → Nat) (a k : Nat) : upd (nif (fillN f a k 0)) (a + k) 0 = nif (fillN f a (k + 1) 0) := by
  rw [← fillN_s]; exact upd_nif _ _ 0
set_option maxRecDepth 100000 in
set_option maxHeartbeats 4000000 in
theorem l_M_lay72 {p : Nat} {kv v : Int32} {mq rq : Nat → Int32} (hp : p < 64) (hv : v = nI p) {post : Option Value → List va_E → Prop} (kont : ∀ (u' : Int32), Run m_M_lay n 0 0 101 ([some (.ref 16), some (.int kv), some (.int (nI St)), some (.int (nI (St + He - 1))), some (.int v), some (.int (u'))], [], Ac fp le lp lb il tf tz bf rfc fr mp sc ifp ib ie pw dh rl rb re sy sb rc sg (Bc mth mfr msz (nif t) mq rq (nif (fillN b (256 * p) 256 0)) msn mbg mhd mfo mfi mmy mwa mwn mba mdy mkn mfa mpl men mpg mct mim)) post) : ∀ (r j : Nat) (u : Int32) (bb : Nat → Nat), u = nI j → bb = fillN b (256 * p) j 0 → j + r = 256 → Run m_M_lay n 0 0 72 ([some (.ref 16), some (.int kv), some (.int (nI St)), some (.int (nI (St + He - 1))), some (.int v), some (.int u)], [], Ac fp le lp lb il tf tz bf rfc fr mp sc ifp ib ie pw dh rl rb re sy sb rc sg (Bc mth mfr msz (nif t) mq rq (nif bb) msn mbg mhd mfo mfi mmy mwa mwn mba mdy mkn mfa mpl men mpg mct mim)) post
  | 0, j, u, bb, hu, hbb, h => by
    refine Run.blk (gs := [True, True]) (S' := ([some (.ref 16), some (.int kv), some (.int (nI St)), some (.int (nI (St + He - 1))), some (.int v), some (.int u)], [.int (256 : Int32), .int u], Ac fp le lp lb il tf tz bf rfc fr mp sc ifp ib ie pw dh rl rb re sy sb rc sg (Bc mth mfr msz (nif t) mq rq (nif bb) msn mbg mhd mfo mfi mmy mwa mwn mba mdy mkn mfa mpl men mpg mct mim))) k_M_lay_72 kc_M_lay_72 rfl ⟨trivial, trivial, trivial⟩ ?_
    refine Run.br (tgt := 101) d_M_lay_77 rfl (by decide) (fun c_1 => ?_) (fun c_1 => ?_)
    · rw [hbb, show j = 256 by omega]
      exact kont _
    · exact absurd (by rw [hu]; exact (nI_leI (a := 256) (b := j) (by omega) (by omega)).mpr (by omega)) c_1
  | r + 1, j, u, bb, hu, hbb, h => by
    refine Run.blk (gs := [True, True]) (S' := ([some (.ref 16), some (.int kv), some (.int (nI St)), some (.int (nI (St + He - 1))), some (.int v), some (.int u)], [.int (256 : Int32), .int u], Ac fp le lp lb il tf tz bf rfc fr mp sc ifp ib ie pw dh rl rb re sy sb rc sg (Bc mth mfr msz (nif t) mq rq (nif bb) msn mbg mhd mfo mfi mmy mwa mwn mba mdy mkn mfa mpl men mpg mct mim))) k_M_lay_72 kc_M_lay_72 rfl ⟨trivial, trivial, trivial⟩ ?_
    refine Run.br (tgt := 101) d_M_lay_77 rfl (by decide) (fun c_1 => ?_) (fun c_1 => ?_)
    · exact absurd ((nI_leI (a := 256) (b := j) (by omega) (by omega)).mp (by rw [← hu]; exact c_1)) (by omega)
    · refine Run.blk (gs := [True, True, True, True, True, True, True, True, vp_in (((256 : Int32) * v) + u) 16384, True]) (S' := ([some (.ref 16), some (.int kv), some (.int (nI St)), some (.int (nI (St + He - 1))), some (.int v), some (.int (u + (1 : Int32)))], [], Ac fp le lp lb il tf tz bf rfc fr mp sc ifp ib ie pw dh rl rb re sy sb rc sg (Bc mth mfr msz (nif t) mq rq (upd (nif bb) (((256 : Int32) * v) + u).toNatClampNeg (0 : Int32)) msn mbg mhd mfo mfi mmy mwa mwn mba mdy mkn mfa mpl men mpg mct mim))) k_M_lay_80 kc_M_lay_80 rfl ⟨trivial, trivial, trivial, trivial, trivial, trivial, trivial, trivial, (by rw [p256 p j hv hu]; exact vp_in_nI (show 256 * p + j < 16384 by omega) (by decide)), trivial, trivial⟩ ?_
      refine Run.goto (tgt := 72) d_M_lay_98 (by decide) ?_
      rw [p256 p j hv hu, nI_clamp (by omega), hbb, fillNif]
      exact l_M_lay72 hp hv kont r (j + 1) _ _ (by rw [hu, nI_1]) rfl (by omega)
set_option maxRecDepth 100000 in
set_option maxHeartbeats 4000000 in
theorem l_M_lay38 {i0 : Nat} {kv : Int32} (hkv : kv = nI i0) (hi0 : i0 < 8) (hmy : mmy i0 = fl) (h0 : 0 < He) (hsp : St + He ≤ 16384) {post : Option Value → List va_E → Prop} (kont : ∀ (v' : Int32) (q5 : Option Value), Run m_M_lay n 0 0 107 ([some (.ref 16), some (.int kv), some (.int (nI St)), some (.int (nI (St + He - 1))), some (.int (v')), q5], [], Ac fp le lp lb il tf tz bf rfc fr mp sc ifp ib ie pw dh rl rb re sy sb rc sg (Bc mth mfr msz (nif t) (fillI mmp (St / 256) (((St + He - 1) / 256 + 1) - (St / 256)) 1) (fillI mrg (St / 256) (((St + He - 1) / 256 + 1) - (St / 256)) fl) (nif (fillN b (256 * (St / 256)) (256 * (((St + He - 1) / 256 + 1) - (St / 256))) 0)) msn mbg mhd mfo mfi mmy mwa mwn mba mdy mkn mfa mpl men mpg mct mim)) post) : ∀ (k i : Nat) (v : Int32) (q5 : Option Value) (mq rq : Nat → Int32) (bb : Nat → Nat), v = nI (St / 256 + i) → mq = fillI mmp (St / 256) i 1 → rq = fillI mrg (St / 256) i fl → bb = fillN b (256 * (St / 256)) (256 * i) 0 → (St / 256) + i + k = ((St + He - 1) / 256 + 1) → Run m_M_lay n 0 0 38 ([some (.ref 16), some (.int kv), some (.int (nI St)), some (.int (nI (St + He - 1))), some (.int v), q5], [], Ac fp le lp lb il tf tz bf rfc fr mp sc ifp ib ie pw dh rl rb re sy sb rc sg (Bc mth mfr msz (nif t) mq rq (nif bb) msn mbg mhd mfo mfi mmy mwa mwn mba mdy mkn mfa mpl men mpg mct mim)) post
  | 0, i, v, q5, mq, rq, bb, hv, hmq, hrq, hbb, h => by
    refine Run.blk (gs := [True, True, True, ¬ (256 : Int32) = 0]) (S' := ([some (.ref 16), some (.int kv), some (.int (nI St)), some (.int (nI (St + He - 1))), some (.int v), q5], [.int ((nI (St + He - 1)) / (256 : Int32)), .int v], Ac fp le lp lb il tf tz bf rfc fr mp sc ifp ib ie pw dh rl rb re sy sb rc sg (Bc mth mfr msz (nif t) mq rq (nif bb) msn mbg mhd mfo mfi mmy mwa mwn mba mdy mkn mfa mpl men mpg mct mim))) k_M_lay_38 kc_M_lay_38 rfl ⟨trivial, trivial, trivial, (by decide), trivial⟩ ?_
    refine Run.br (tgt := 107) d_M_lay_45 rfl (by decide) (fun c_1 => ?_) (fun c_1 => ?_)
    · rw [hv, d256 (by omega), nI_ltI (by omega) (by omega)] at c_1
      rw [hmq, hrq, hbb, show i = ((St + He - 1) / 256 + 1) - (St / 256) by omega]
      exact kont _ _
    · rw [hv, d256 (by omega), nI_ltI (by omega) (by omega)] at c_1
      exact absurd c_1 (by omega)
  | k + 1, i, v, q5, mq, rq, bb, hv, hmq, hrq, hbb, h => by
    have key : ∀ u', Run m_M_lay n 0 0 101 ([some (.ref 16), some (.int kv), some (.int (nI St)), some (.int (nI (St + He - 1))), some (.int v), some (.int (u'))], [], Ac fp le lp lb il tf tz bf rfc fr mp sc ifp ib ie pw dh rl rb re sy sb rc sg (Bc mth mfr msz (nif t) (fillI mmp (St / 256) (i + 1) 1) (fillI mrg (St / 256) (i + 1) fl) (nif (fillN bb (256 * (St / 256 + i)) 256 0)) msn mbg mhd mfo mfi mmy mwa mwn mba mdy mkn mfa mpl men mpg mct mim)) post := by
      intro u'
      refine Run.blk (gs := [True]) (S' := ([some (.ref 16), some (.int kv), some (.int (nI St)), some (.int (nI (St + He - 1))), some (.int (v + (1 : Int32))), some (.int (u'))], [], Ac fp le lp lb il tf tz bf rfc fr mp sc ifp ib ie pw dh rl rb re sy sb rc sg (Bc mth mfr msz (nif t) (fillI mmp (St / 256) (i + 1) 1) (fillI mrg (St / 256) (i + 1) fl) (nif (fillN bb (256 * (St / 256 + i)) 256 0)) msn mbg mhd mfo mfi mmy mwa mwn mba mdy mkn mfa mpl men mpg mct mim))) k_M_lay_101 kc_M_lay_101 rfl ⟨trivial, trivial⟩ ?_
      refine Run.goto (tgt := 38) d_M_lay_104 (by decide) ?_
      exact l_M_lay38 hkv hi0 hmy h0 hsp kont k (i + 1) _ _ _ _ _ (by rw [hv, nI_1]; rfl) rfl rfl (by rw [hbb, show 256 * (St / 256 + i) = 256 * (St / 256) + 256 * i by omega, fillN_app]; rfl) (by omega)
    refine Run.blk (gs := [True, True, True, ¬ (256 : Int32) = 0]) (S' := ([some (.ref 16), some (.int kv), some (.int (nI St)), some (.int (nI (St + He - 1))), some (.int v), q5], [.int ((nI (St + He - 1)) / (256 : Int32)), .int v], Ac fp le lp lb il tf tz bf rfc fr mp sc ifp ib ie pw dh rl rb re sy sb rc sg (Bc mth mfr msz (nif t) mq rq (nif bb) msn mbg mhd mfo mfi mmy mwa mwn mba mdy mkn mfa mpl men mpg mct mim))) k_M_lay_38 kc_M_lay_38 rfl ⟨trivial, trivial, trivial, (by decide), trivial⟩ ?_
    refine Run.br (tgt := 107) d_M_lay_45 rfl (by decide) (fun c_1 => ?_) (fun c_1 => ?_)
    · rw [hv, d256 (by omega), nI_ltI (by omega) (by omega)] at c_1
      exact absurd c_1 (by omega)
    · rw [hv, d256 (by omega), nI_ltI (by omega) (by omega)] at c_1
      refine Run.blk (gs := [True, True, True, True, vp_in v 64, True, True, True, True, True, True, vp_in kv 8, vp_in v 64, True, True]) (S' := ([some (.ref 16), some (.int kv), some (.int (nI St)), some (.int (nI (St + He - 1))), some (.int v), some (.int (0 : Int32))], [], Ac fp le lp lb il tf tz bf rfc fr mp sc ifp ib ie pw dh rl rb re sy sb rc sg (Bc mth mfr msz (nif t) (upd mq v.toNatClampNeg (vp_nar .boolean (1 : Int32))) (upd rq v.toNatClampNeg (mmy kv.toNatClampNeg)) (nif bb) msn mbg mhd mfo mfi mmy mwa mwn mba mdy mkn mfa mpl men mpg mct mim))) k_M_lay_48 kc_M_lay_48 rfl ⟨trivial, trivial, trivial, trivial, (by rw [hv]; exact vp_in_nI (show St / 256 + i < 64 by omega) (by decide)), trivial, trivial, trivial, trivial, trivial, trivial, (by rw [hkv]; exact vp_in_nI hi0 (by decide)), (by rw [hv]; exact vp_in_nI (show St / 256 + i < 64 by omega) (by decide)), trivial, trivial, trivial⟩ ?_
      rw [show upd mq v.toNatClampNeg (vp_nar .boolean (1 : Int32)) = fillI mmp (St / 256) (i + 1) 1 by rw [hmq, hv, nI_clamp (by omega), ← fillI_s]; rfl, show upd rq v.toNatClampNeg (mmy kv.toNatClampNeg) = fillI mrg (St / 256) (i + 1) fl by rw [hrq, hv, nI_clamp (by omega), hkv, nI_clamp (by omega), hmy, ← fillI_s]]
      exact l_M_lay72 (show St / 256 + i < 64 by omega) hv key 256 0 _ _ rfl (fillN_0 _ _ _).symm (by omega)
set_option maxRecDepth 100000 in
set_option maxHeartbeats 4000000 in
theorem l_M_lay110 {i0 : Nat} {kv : Int32} (hkv : kv = nI i0) (hi0 : i0 < 8) (hfo : mfo i0 = nI O) (hfi : mfi i0 = nI Fi) (hz : z ≤ 900) (hFi : Fi ≤ He) (hOz : O + Fi ≤ z) (hsp : St + He ≤ 16384) {post : Option Value → List va_E → Prop} (kont : ∀ (v' : Int32) (q5 : Option Value), Run m_M_lay n 0 0 150 ([some (.ref 16), some (.int kv), some (.int (nI St)), some (.int (nI (St + He - 1))), some (.int (v')), q5], [], Ac fp le lp lb il tf tz bf rfc fr mp sc ifp ib ie pw dh rl rb re sy sb rc sg (Bc mth mfr msz (nif t) mmp mrg (nif (cpN b St t O Fi)) msn mbg mhd mfo mfi mmy mwa mwn mba mdy mkn mfa mpl men mpg mct mim)) post) : ∀ (r j : Nat) (v : Int32) (q5 : Option Value) (bb : Nat → Nat), v = nI j → bb = cpN b St t O j → j + r = Fi → Run m_M_lay n 0 0 110 ([some (.ref 16), some (.int kv), some (.int (nI St)), some (.int (nI (St + He - 1))), some (.int v), q5], [], Ac fp le lp lb il tf tz bf rfc fr mp sc ifp ib ie pw dh rl rb re sy sb rc sg (Bc mth mfr msz (nif t) mmp mrg (nif bb) msn mbg mhd mfo mfi mmy mwa mwn mba mdy mkn mfa mpl men mpg mct mim)) post
  | 0, j, v, q5, bb, hv, hbb, h => by
    refine Run.blk (gs := [True, True, True, True, vp_in kv 8]) (S' := ([some (.ref 16), some (.int kv), some (.int (nI St)), some (.int (nI (St + He - 1))), some (.int v), q5], [.int (mfi kv.toNatClampNeg), .int v], Ac fp le lp lb il tf tz bf rfc fr mp sc ifp ib ie pw dh rl rb re sy sb rc sg (Bc mth mfr msz (nif t) mmp mrg (nif bb) msn mbg mhd mfo mfi mmy mwa mwn mba mdy mkn mfa mpl men mpg mct mim))) k_M_lay_110 kc_M_lay_110 rfl ⟨trivial, trivial, trivial, trivial, (by rw [hkv]; exact vp_in_nI hi0 (by decide)), trivial⟩ ?_
    refine Run.br (tgt := 150) d_M_lay_118 rfl (by decide) (fun c_1 => ?_) (fun c_1 => ?_)
    · rw [hkv, nI_clamp (by omega), hfi, hv, nI_leI (by omega) (by omega)] at c_1
      rw [hbb, show j = Fi by omega]
      exact kont _ _
    · rw [hkv, nI_clamp (by omega), hfi, hv, nI_leI (by omega) (by omega)] at c_1
      exact absurd (show Fi ≤ j by omega) c_1
  | r + 1, j, v, q5, bb, hv, hbb, h => by
    refine Run.blk (gs := [True, True, True, True, vp_in kv 8]) (S' := ([some (.ref 16), some (.int kv), some (.int (nI St)), some (.int (nI (St + He - 1))), some (.int v), q5], [.int (mfi kv.toNatClampNeg), .int v], Ac fp le lp lb il tf tz bf rfc fr mp sc ifp ib ie pw dh rl rb re sy sb rc sg (Bc mth mfr msz (nif t) mmp mrg (nif bb) msn mbg mhd mfo mfi mmy mwa mwn mba mdy mkn mfa mpl men mpg mct mim))) k_M_lay_110 kc_M_lay_110 rfl ⟨trivial, trivial, trivial, trivial, (by rw [hkv]; exact vp_in_nI hi0 (by decide)), trivial⟩ ?_
    refine Run.br (tgt := 150) d_M_lay_118 rfl (by decide) (fun c_1 => ?_) (fun c_1 => ?_)
    · rw [hkv, nI_clamp (by omega), hfi, hv, nI_leI (by omega) (by omega)] at c_1
      exact absurd c_1 (by omega)
    · rw [hkv, nI_clamp (by omega), hfi, hv, nI_leI (by omega) (by omega)] at c_1
      refine Run.blk (gs := [True, True, True, True, True, True, True, True, True, True, vp_in kv 8, True, True, vp_in ((mfo kv.toNatClampNeg) + v) 900, vp_in ((nI St) + v) 16384, True]) (S' := ([some (.ref 16), some (.int kv), some (.int (nI St)), some (.int (nI (St + He - 1))), some (.int (v + (1 : Int32))), q5], [], Ac fp le lp lb il tf tz bf rfc fr mp sc ifp ib ie pw dh rl rb re sy sb rc sg (Bc mth mfr msz (nif t) mmp mrg (upd (nif bb) ((nI St) + v).toNatClampNeg ((nif t) ((mfo kv.toNatClampNeg) + v).toNatClampNeg)) msn mbg mhd mfo mfi mmy mwa mwn mba mdy mkn mfa mpl men mpg mct mim))) k_M_lay_121 kc_M_lay_121 rfl ⟨trivial, trivial, trivial, trivial, trivial, trivial, trivial, trivial, trivial, trivial, (by rw [hkv]; exact vp_in_nI hi0 (by decide)), trivial, trivial, (by rw [hkv, nI_clamp (by omega), hfo, hv, nI_add]; exact vp_in_nI (show O + j < 900 by omega) (by decide)), (by rw [hv, nI_add]; exact vp_in_nI (show St + j < 16384 by omega) (by decide)), trivial, trivial⟩ ?_
      refine Run.goto (tgt := 110) d_M_lay_147 (by decide) ?_
      rw [hv, nI_add, nI_clamp (by omega), hkv, nI_clamp (by omega), hfo, nI_add, nI_clamp (by omega), hbb]
      rw [show upd (nif (cpN b St t O j)) (St + j) (nif t (O + j)) = nif (upN (cpN b St t O j) (St + j) (t (O + j))) from upd_nif _ _ _]
      exact l_M_lay110 rfl hi0 hfo hfi hz hFi hOz hsp (by rw [← hkv]; exact kont) r (j + 1) _ _ _ (nI_1 j) (cpN_s _ _ _ _ _) (by omega)
set_option maxRecDepth 100000 in
set_option maxHeartbeats 4000000 in
theorem l_M_lay {H : List SG} {r0 : Nat → Int32} (hM : MS H mbg mhd mfo mfi mmy) (hG : ∀ g, g ∈ H → Gd z r0 g) (hpos : ∀ g, g ∈ H → 0 < g.2.2.2.2.1) (hL : H.length ≤ 8) (hz : z ≤ 900) : ∀ (R : List SG) (i : Nat) (v : Int32) (q2 q3 q4 q5 : Option Value) (mq rq : Nat → Int32) (bb : Nat → Nat), v = nI i → H.drop i = R → i ≤ 8 → Run m_M_lay n 0 0 2 ([some (.ref 16), some (.int v), q2, q3, q4, q5], [], Ac fp le lp lb il tf tz bf rfc fr mp sc ifp ib ie pw dh rl rb re sy sb rc sg (Bc mth mfr msz (nif t) mq rq (nif bb) (nI H.length) mbg mhd mfo mfi mmy mwa mwn mba mdy mkn mfa mpl men mpg mct mim)) (vm_is none (Ac fp le lp lb il tf tz bf rfc fr mp sc ifp ib ie pw dh rl rb re sy sb rc sg (Bc mth mfr msz (nif t) (laM 1 R mq) (laR R rq) (nif (laB t R bb)) (nI H.length) mbg mhd mfo mfi mmy mwa mwn mba mdy mkn mfa mpl men mpg mct mim)))
  | [], i, v, q2, q3, q4, q5, mq, rq, bb, hv, hd, hi9 => by
    refine Run.blk (gs := [True, True, True]) (S' := ([some (.ref 16), some (.int v), q2, q3, q4, q5], [.int (nI H.length), .int v], Ac fp le lp lb il tf tz bf rfc fr mp sc ifp ib ie pw dh rl rb re sy sb rc sg (Bc mth mfr msz (nif t) mq rq (nif bb) (nI H.length) mbg mhd mfo mfi mmy mwa mwn mba mdy mkn mfa mpl men mpg mct mim))) k_M_lay_2 kc_M_lay_2 rfl ⟨trivial, trivial, trivial, trivial⟩ ?_
    refine Run.br (tgt := 156) d_M_lay_7 rfl (by decide) (fun c_1 => ?_) (fun c_1 => ?_)
    · exact Run.ret (r := none) ⟨d_M_lay_156, rfl⟩ ⟨rfl, rfl⟩
    · exact absurd (by rw [hv]; exact (nI_leI (a := H.length) (b := i) (by omega) (by omega)).mpr (drop_n hd)) c_1
  | (O, Ad, St, Fi, He, Al, fl) :: R, i, v, q2, q3, q4, q5, mq, rq, bb, hv, hd, hi9 => by
    obtain ⟨hg, hd2, hi⟩ := drop_c hd
    obtain ⟨hb1, hb2, hb3, hb4, hb5⟩ := hM _ _ hg
    simp only at hb1 hb2 hb3 hb4 hb5
    have h0 : 0 < He := hpos _ (List.mem_of_getElem? hg)
    obtain ⟨⟨hO, hAd, hSt, hHe, hAl⟩, ⟨hFi, hOz, hsp0⟩, -⟩ := hG _ (List.mem_of_getElem? hg)
    have hsp : St + He ≤ 16384 := by omega
    subst hv
    have e1 : pgA St He = St / 256 := by unfold pgA; rw [if_neg (by omega)]
    have e2 : pgC St He = (St + He - 1) / 256 + 1 := by unfold pgC; rw [if_neg (by omega)]
    rw [laB, laM, laR, e1, e2]
    have key : ∀ v' q5', Run m_M_lay n 0 0 150 ([some (.ref 16), some (.int (nI i)), some (.int (nI St)), some (.int (nI (St + He - 1))), some (.int (v')), q5'], [], Ac fp le lp lb il tf tz bf rfc fr mp sc ifp ib ie pw dh rl rb re sy sb rc sg (Bc mth mfr msz (nif t) (fillI mq (St / 256) (((St + He - 1) / 256 + 1) - (St / 256)) 1) (fillI rq (St / 256) (((St + He - 1) / 256 + 1) - (St / 256)) fl) (nif (cpN (fillN bb (256 * (St / 256)) (256 * (((St + He - 1) / 256 + 1) - (St / 256))) 0) St t O Fi)) (nI H.length) mbg mhd mfo mfi mmy mwa mwn mba mdy mkn mfa mpl men mpg mct mim)) (vm_is none (Ac fp le lp lb il tf tz bf rfc fr mp sc ifp ib ie pw dh rl rb re sy sb rc sg (Bc mth mfr msz (nif t) (laM 1 R (fillI mq (St / 256) (((St + He - 1) / 256 + 1) - (St / 256)) 1)) (laR R (fillI rq (St / 256) (((St + He - 1) / 256 + 1) - (St / 256)) fl)) (nif (laB t R (cpN (fillN bb (256 * (St / 256)) (256 * (((St + He - 1) / 256 + 1) - (St / 256))) 0) St t O Fi))) (nI H.length) mbg mhd mfo mfi mmy mwa mwn mba mdy mkn mfa mpl men mpg mct mim))) := by
      intro v' q5'
      refine Run.blk (gs := [True]) (S' := ([some (.ref 16), some (.int ((nI i) + (1 : Int32))), some (.int (nI St)), some (.int (nI (St + He - 1))), some (.int (v')), q5'], [], Ac fp le lp lb il tf tz bf rfc fr mp sc ifp ib ie pw dh rl rb re sy sb rc sg (Bc mth mfr msz (nif t) (fillI mq (St / 256) (((St + He - 1) / 256 + 1) - (St / 256)) 1) (fillI rq (St / 256) (((St + He - 1) / 256 + 1) - (St / 256)) fl) (nif (cpN (fillN bb (256 * (St / 256)) (256 * (((St + He - 1) / 256 + 1) - (St / 256))) 0) St t O Fi)) (nI H.length) mbg mhd mfo mfi mmy mwa mwn mba mdy mkn mfa mpl men mpg mct mim))) k_M_lay_150 kc_M_lay_150 rfl ⟨trivial, trivial⟩ ?_
      refine Run.goto (tgt := 2) d_M_lay_153 (by decide) ?_
      exact l_M_lay hM hG hpos hL hz R (i + 1) _ _ _ _ _ _ _ _ (nI_1 i) hd2 (by omega)
    have key2 : ∀ v' q5', Run m_M_lay n 0 0 107 ([some (.ref 16), some (.int (nI i)), some (.int (nI St)), some (.int (nI (St + He - 1))), some (.int (v')), q5'], [], Ac fp le lp lb il tf tz bf rfc fr mp sc ifp ib ie pw dh rl rb re sy sb rc sg (Bc mth mfr msz (nif t) (fillI mq (St / 256) (((St + He - 1) / 256 + 1) - (St / 256)) 1) (fillI rq (St / 256) (((St + He - 1) / 256 + 1) - (St / 256)) fl) (nif (fillN bb (256 * (St / 256)) (256 * (((St + He - 1) / 256 + 1) - (St / 256))) 0)) (nI H.length) mbg mhd mfo mfi mmy mwa mwn mba mdy mkn mfa mpl men mpg mct mim)) (vm_is none (Ac fp le lp lb il tf tz bf rfc fr mp sc ifp ib ie pw dh rl rb re sy sb rc sg (Bc mth mfr msz (nif t) (laM 1 R (fillI mq (St / 256) (((St + He - 1) / 256 + 1) - (St / 256)) 1)) (laR R (fillI rq (St / 256) (((St + He - 1) / 256 + 1) - (St / 256)) fl)) (nif (laB t R (cpN (fillN bb (256 * (St / 256)) (256 * (((St + He - 1) / 256 + 1) - (St / 256))) 0) St t O Fi))) (nI H.length) mbg mhd mfo mfi mmy mwa mwn mba mdy mkn mfa mpl men mpg mct mim))) := by
      intro v' q5'
      refine Run.blk (gs := [True, True]) (S' := ([some (.ref 16), some (.int (nI i)), some (.int (nI St)), some (.int (nI (St + He - 1))), some (.int (0 : Int32)), q5'], [], Ac fp le lp lb il tf tz bf rfc fr mp sc ifp ib ie pw dh rl rb re sy sb rc sg (Bc mth mfr msz (nif t) (fillI mq (St / 256) (((St + He - 1) / 256 + 1) - (St / 256)) 1) (fillI rq (St / 256) (((St + He - 1) / 256 + 1) - (St / 256)) fl) (nif (fillN bb (256 * (St / 256)) (256 * (((St + He - 1) / 256 + 1) - (St / 256))) 0)) (nI H.length) mbg mhd mfo mfi mmy mwa mwn mba mdy mkn mfa mpl men mpg mct mim))) k_M_lay_107 kc_M_lay_107 rfl ⟨trivial, trivial, trivial⟩ ?_
      exact l_M_lay110 rfl (show i < 8 by omega) hb3 hb4 hz hFi hOz hsp key Fi 0 _ _ _ rfl (cpN_0 _ _ _ _).symm (by omega)
    refine Run.blk (gs := [True, True, True]) (S' := ([some (.ref 16), some (.int (nI i)), q2, q3, q4, q5], [.int (nI H.length), .int (nI i)], Ac fp le lp lb il tf tz bf rfc fr mp sc ifp ib ie pw dh rl rb re sy sb rc sg (Bc mth mfr msz (nif t) mq rq (nif bb) (nI H.length) mbg mhd mfo mfi mmy mwa mwn mba mdy mkn mfa mpl men mpg mct mim))) k_M_lay_2 kc_M_lay_2 rfl ⟨trivial, trivial, trivial, trivial⟩ ?_
    refine Run.br (tgt := 156) d_M_lay_7 rfl (by decide) (fun c_1 => ?_) (fun c_1 => ?_)
    · exact absurd ((nI_leI (a := H.length) (b := i) (by omega) (by omega)).mp c_1) (by omega)
    · refine Run.blk (gs := [True, True, True, vp_in (nI i) 8, True, True, True, True, True, True, True, vp_in (nI i) 8, True, True, True, True, True, True, True, ¬ (256 : Int32) = 0, True]) (S' := ([some (.ref 16), some (.int (nI i)), some (.int ((mbg (nI i).toNatClampNeg).toInt32)), some (.int ((((((mbg (nI i).toNatClampNeg).toInt32).toInt64) + (mhd (nI i).toNatClampNeg)) - (1 : Int64)).toInt32)), some (.int (((mbg (nI i).toNatClampNeg).toInt32) / (256 : Int32))), q5], [], Ac fp le lp lb il tf tz bf rfc fr mp sc ifp ib ie pw dh rl rb re sy sb rc sg (Bc mth mfr msz (nif t) mq rq (nif bb) (nI H.length) mbg mhd mfo mfi mmy mwa mwn mba mdy mkn mfa mpl men mpg mct mim))) k_M_lay_10 kc_M_lay_10 rfl ⟨trivial, trivial, trivial, (vp_in_nI (show i < 8 by omega) (by decide)), trivial, trivial, trivial, trivial, trivial, trivial, trivial, (vp_in_nI (show i < 8 by omega) (by decide)), trivial, trivial, trivial, trivial, trivial, trivial, trivial, (by decide), trivial, trivial⟩ ?_
      rw [nI_clamp (show i < 2 ^ 31 by omega), hb1, hb2, lN_i, sg_last (by omega) (by omega), d256 (by omega)]
      exact l_M_lay38 rfl (show i < 8 by omega) hb5 h0 hsp key2 ((St + He - 1) / 256 + 1 - St / 256) 0 _ _ _ _ _ rfl (fillI_0 _ _ _).symm (fillI_0 _ _ _).symm (fillN_0 _ _ _).symm (by omega)

set_option maxRecDepth 100000 in
set_option maxHeartbeats 4000000 in
theorem c_M_lay {r0 : Nat → Int32} (hM : MS (L.filter gnz) mbg mhd mfo mfi mmy) (hG : ∀ g, g ∈ L → Gd z r0 g) (hL : L.length ≤ 8) (hz : z ≤ 900) : Ct m_M_lay 0 0 [.ref 16] (Ac fp le lp lb il tf tz bf rfc fr mp sc ifp ib ie pw dh rl rb re sy sb rc sg (Bc mth mfr msz (nif t) mmp mrg (nif b) (nI (L.filter gnz).length) mbg mhd mfo mfi mmy mwa mwn mba mdy mkn mfa mpl men mpg mct mim)) (vm_is none (Ac fp le lp lb il tf tz bf rfc fr mp sc ifp ib ie pw dh rl rb re sy sb rc sg (Bc mth mfr msz (nif t) (laM 1 L mmp) (laR L mrg) (nif (laB t L b)) (nI (L.filter gnz).length) mbg mhd mfo mfi mmy mwa mwn mba mdy mkn mfa mpl men mpg mct mim))) := by
  obtain ⟨f1, f2, f3⟩ := la_f t hG
  have hl : (L.filter gnz).length ≤ L.length := List.length_filter_le _ _
  rw [← f1 b, ← f2 mrg, ← f3 1 mmp]
  refine Ct.of ⟨by decide +kernel, rfl⟩ (Nat.le_of_ble_eq_true rfl) (lv := [some (.ref 16), none, none, none, none, none]) rfl ?_
  refine Run.blk (gs := [True, True]) (S' := ([some (.ref 16), some (.int (0 : Int32)), none, none, none, none], [], Ac fp le lp lb il tf tz bf rfc fr mp sc ifp ib ie pw dh rl rb re sy sb rc sg (Bc mth mfr msz (nif t) mmp mrg (nif b) (nI (L.filter gnz).length) mbg mhd mfo mfi mmy mwa mwn mba mdy mkn mfa mpl men mpg mct mim))) k_M_lay_0 kc_M_lay_0 rfl ⟨trivial, trivial, trivial⟩ ?_
  exact l_M_lay hM (fun g hg => hG g (List.mem_filter.mp hg).1) (fun g hg => by have := (List.mem_filter.mp hg).2; unfold gnz at this; rw [Nat.blt_eq] at this; exact this) (by omega) hz _ 0 _ _ _ _ _ _ _ _ rfl rfl (by omega)
end P46
