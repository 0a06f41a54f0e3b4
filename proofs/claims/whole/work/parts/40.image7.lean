/-- a load: fault and place, memory, rights; entry, pages, base, relocations -/
abbrev LR : Type := (Int32 × Int32) × (Nat → Nat) × (Nat → Int32) × Int32 × Int32 × Int32 × Int32
def ldR (t : Nat → Nat) (z B : Nat) (rf : Nat → Int32) (b : Nat → Nat) (L : List SG) (w : Nat) (K : Nat → Nat) : LR :=
  if (reL L B K (K 8 / 12) 0 (laB t L b)).1.1 = 0 then ((0, -1), (reL L B K (K 8 / 12) 0 (laB t L b)).2, laR L rf, nI (wN t z 24 + B), nI w, nI B, nI (K 8 / 12))
  else ((reL L B K (K 8 / 12) 0 (laB t L b)).1, (reL L B K (K 8 / 12) 0 (laB t L b)).2, rf, 0, 0, 0, 0)
def ldH (t : Nat → Nat) (z B : Nat) (rf : Nat → Int32) (b : Nat → Nat) (S : (Int32 × Int32) × List SG × Nat × Nat) : LR :=
  if S.1.1 = 0 then if enB (wN t z 24 + B) S.2.1 = true then if (dyF (dyK t z S.2.2.2) S.2.2.2).1 = 0 then ldR t z B rf b S.2.1 S.2.2.1 (dyK t z S.2.2.2) else (dyF (dyK t z S.2.2.2) S.2.2.2, b, rf, 0, 0, 0, 0) else ((18, 24), b, rf, 0, 0, 0, 0) else (S.1, b, rf, 0, 0, 0, 0)
def ldG (t : Nat → Nat) (z B : Nat) (rf : Nat → Int32) (fre : Nat) (b : Nat → Nat) : LR := ldH t z B rf b (hsF t z B rf fre (hN t z 44) 0 [] 0 0)
def ldF (t : Nat → Nat) (z B : Nat) (rf : Nat → Int32) (fre : Nat) (b : Nat → Nat) : LR :=
  if (hdF t z).1 = 0 then if hN t z 16 = 2 then ldG t z 0 rf fre b else ldG t z B rf fre b else (hdF t z, b, rf, 0, 0, 0, 0)
theorem hdR_0 {t : Nat → Nat} {z : Nat} (h : (hdR t z).1 = 0) : hdR t z = (0, -1) ∧ hN t z 44 ≤ 8 ∧ wN t z 28 + 32 * hN t z 44 ≤ z := by
  unfold hdR at h ⊢
  by_cases c1 : hN t z 16 = 2 ∨ hN t z 16 = 3
  · rw [if_pos c1] at h ⊢
    by_cases c2 : hN t z 18 = 243
    · rw [if_pos c2] at h ⊢
      by_cases c3 : wN t z 20 = 1
      · rw [if_pos c3] at h ⊢
        by_cases c4 : hN t z 40 = 52
        · rw [if_pos c4] at h ⊢
          by_cases c5 : hN t z 42 = 32
          · rw [if_pos c5] at h ⊢
            by_cases c6 : 1 ≤ hN t z 44 ∧ hN t z 44 ≤ 8
            · rw [if_pos c6] at h ⊢
              by_cases c7 : wN t z 28 + 32 * hN t z 44 ≤ z
              · rw [if_pos c7]; exact ⟨rfl, c6.2, c7⟩
              · rw [if_neg c7] at h; exact absurd (show (8 : Int32) = 0 from h) (by decide)
            · rw [if_neg c6] at h; exact absurd (show (7 : Int32) = 0 from h) (by decide)
          · rw [if_neg c5] at h; exact absurd (show (6 : Int32) = 0 from h) (by decide)
        · rw [if_neg c4] at h; exact absurd (show (6 : Int32) = 0 from h) (by decide)
      · rw [if_neg c3] at h; exact absurd (show (5 : Int32) = 0 from h) (by decide)
    · rw [if_neg c2] at h; exact absurd (show (4 : Int32) = 0 from h) (by decide)
  · rw [if_neg c1] at h; exact absurd (show (3 : Int32) = 0 from h) (by decide)
theorem hdL_0 {t : Nat → Nat} {z : Nat} : ∀ {k i : Nat}, (hdL t z k i).1 = 0 → hdL t z k i = (0, -1) ∧ hN t z 44 ≤ 8 ∧ wN t z 28 + 32 * hN t z 44 ≤ z
  | 0, _, h => hdR_0 h
  | k + 1, i, h => by
    unfold hdL at h ⊢
    by_cases c : nI (t i) = G_mag i
    · rw [if_pos c] at h ⊢; exact hdL_0 h
    · rw [if_neg c] at h; exact absurd (show (2 : Int32) = 0 from h) (by decide)
theorem hdF_0 {t : Nat → Nat} {z : Nat} (h : (hdF t z).1 = 0) : hdF t z = (0, -1) ∧ 52 ≤ z ∧ hN t z 44 ≤ 8 ∧ wN t z 28 + 32 * hN t z 44 ≤ z := by
  unfold hdF at h ⊢
  by_cases c : z < 52
  · rw [if_pos c] at h; exact absurd (show (1 : Int32) = 0 from h) (by decide)
  · rw [if_neg c] at h ⊢
    obtain ⟨h1, h2, h3⟩ := hdL_0 h
    exact ⟨h1, by omega, h2, h3⟩
theorem sgF_z {z : Nat} {rf : Nat → Int32} {fre : Nat} {L : List SG} {pw p : Nat} {g : SG} (h : (sgF z rf fre L pw p g).1 = 0) : (sgF z rf fre L pw p g).2 = -1 := by
  obtain ⟨O, Ad, St, Fi, He, Al, fl⟩ := g
  rw [sgF] at h ⊢
  by_cases c1 : He < Fi
  · rw [if_pos c1] at h; exact absurd (show (9 : Int32) = 0 from h) (by decide)
  rw [if_neg c1] at h ⊢
  by_cases c2 : O + Fi ≤ z
  · rw [if_pos c2] at h ⊢
    by_cases c3 : Al ≤ 1 ∨ (Al ≤ 4096 ∧ apw Al = true)
    · rw [if_pos c3] at h ⊢
      by_cases c4 : Al ≤ 1 ∨ Ad % Al = O % Al
      · rw [if_pos c4] at h ⊢
        by_cases c5 : He = 0 ∨ St + He ≤ 16384
        · rw [if_pos c5] at h ⊢
          by_cases c6 : anyM rf (pgA St He) (pgC St He - pgA St He) = true ∨ mtB (pgA St He) (pgC St He) L = true
          · rw [if_pos c6] at h; exact absurd (show (14 : Int32) = 0 from h) (by decide)
          · rw [if_neg c6] at h ⊢
            by_cases c7 : fre < pw + (pgC St He - pgA St He)
            · rw [if_pos c7] at h; exact absurd (show (15 : Int32) = 0 from h) (by decide)
            · rw [if_neg c7]
        · rw [if_neg c5] at h; exact absurd (show (13 : Int32) = 0 from h) (by decide)
      · rw [if_neg c4] at h; exact absurd (show (12 : Int32) = 0 from h) (by decide)
    · rw [if_neg c3] at h; exact absurd (show (11 : Int32) = 0 from h) (by decide)
  · rw [if_neg c2] at h; exact absurd (show (10 : Int32) = 0 from h) (by decide)
theorem hsF_z {t : Nat → Nat} {z B : Nat} {rf : Nat → Int32} {fre : Nat} : ∀ (k i : Nat) (L : List SG) (pw D : Nat), (hsF t z B rf fre k i L pw D).1.1 = 0 → (hsF t z B rf fre k i L pw D).1.2 = -1 ∧ ¬ (hsF t z B rf fre k i L pw D).2.2.1 = 0
  | 0, i, L, pw, D, h => by
    rw [hsF] at h ⊢
    by_cases c : pw = 0
    · rw [if_pos c] at h; exact absurd (show (17 : Int32) = 0 from h) (by decide)
    · rw [if_neg c]; exact ⟨rfl, c⟩
  | k + 1, i, L, pw, D, h => by
    unfold hsF at h ⊢
    by_cases c1 : wN t z (wN t z 28 + 32 * i) = 1
    · rw [if_pos c1] at h ⊢
      by_cases c2 : (sgF z rf fre L pw (wN t z 28 + 32 * i) (gT t z (wN t z 28 + 32 * i) B)).1 = 0
      · rw [if_pos c2] at h ⊢; exact hsF_z k (i + 1) _ _ D h
      · rw [if_neg c2] at h; exact absurd h c2
    · rw [if_neg c1] at h ⊢
      by_cases c2 : wN t z (wN t z 28 + 32 * i) = 2
      · rw [if_pos c2] at h ⊢
        by_cases c3 : wN t z (wN t z 28 + 32 * i + 4) + wN t z (wN t z 28 + 32 * i + 16) ≤ z
        · rw [if_pos c3] at h ⊢
          by_cases c4 : wN t z (wN t z 28 + 32 * i + 16) % 8 = 0
          · rw [if_pos c4] at h ⊢; exact hsF_z k (i + 1) L pw _ h
          · rw [if_neg c4] at h; exact absurd (show (16 : Int32) = 0 from h) (by decide)
        · rw [if_neg c3] at h; exact absurd (show (10 : Int32) = 0 from h) (by decide)
      · rw [if_neg c2] at h ⊢; exact hsF_z k (i + 1) L pw D h
theorem dyF_z {K : Nat → Nat} {D : Nat} (h : (dyF K D).1 = 0) : dyF K D = (0, -1) ∧ K 8 / 12 ≤ 60 := by
  unfold dyF at h ⊢
  by_cases c : K 8 % 12 = 0 ∧ K 8 / 12 ≤ 60 ∧ (K 8 = 0 ∨ K 9 = 12)
  · rw [if_pos c]; exact ⟨rfl, c.2.1⟩
  · rw [if_neg c] at h; exact absurd (show (19 : Int32) = 0 from h) (by decide)
theorem i18 {q : Prop} [Decidable q] : ((if q then (0 : Int32) else 18) = 0) ↔ q := by
  by_cases h : q
  · rw [if_pos h]; exact ⟨fun _ => h, fun _ => rfl⟩
  · rw [if_neg h]; exact ⟨fun w => absurd w (by decide), fun w => absurd w h⟩
theorem laB_lt {t : Nat → Nat} (ht : ∀ k, t k < 256) : ∀ (L : List SG) (b : Nat → Nat), (∀ j, b j < 256) → ∀ j, laB t L b j < 256
  | [], b, hb, j => hb j
  | (O, Ad, St, Fi, He, Al, fl) :: R, b, hb, j => by
    rw [laB]
    refine laB_lt ht R _ (fun k => ?_) j
    unfold cpN
    split
    · exact ht _
    · exact fill_lt hb _ _ k
theorem LI_free {z : Nat} {rf : Nat → Int32} {fre : Nat} {L : List SG} {w : Nat} (h : LI z rf fre L w) : Fre rf L := fun g hg p h1 h2 => by
  obtain ⟨O, Ad, St, Fi, He, Al, fl⟩ := g
  exact (h.1 _ hg).2.2.2 p h1 h2
section P40
variable {fp le lp lb il : Int32} {tf bf rf : Nat → Int32} {tz fr mp sc ifp ib ie pw dh rc : Int32} {rl rb re sy sb : Int64} {sg : Nat → A_G} {ex : List va_E}
variable {cs : List va_E} {n : Nat} {t b : Nat → Nat} {z : Nat} {L : List SG} {K : Nat → Nat}
set_option maxRecDepth 100000 in
set_option maxHeartbeats 4000000 in
theorem l_I_bring_78 (ht : ∀ k, t k < 256) (hz : z ≤ 900) (hb : ∀ j, b j < 256) {B f w : Nat} (hB : B < 2 ^ 30) (hf : f ≤ 64) (hm : cntM rf 0 64 ≤ f) (hS : hSg L sg) (hLI : LI z rf (f - cntM rf 0 64) L w) (hL : L.length ≤ 8) (hK : ∀ j, K j < 2 ^ 32) (hN : K 8 / 12 ≤ 60) {x3 : Int32} {q4 : Option Value} : Run m_I_bring n 0 0 78 ([some (.ref 6), some (.ref 1), some (.ref 3), some (.int x3), q4], [], Ac fp le lp lb il (sbf t) (nI z) (sbf b) rf (nI f) (nI (cntM rf 0 64)) (nI L.length) (-1 : Int32) (nI B) (nI (wN t z 24 + B)) (nI w) dh (lN (K 7)) (lN (K 8)) (lN (K 9)) (lN (K 6)) (lN (K 11)) (nI (K 8 / 12)) sg ex) (fun r cs' => ∃ (sc' ib' ie' pw' dh' rc' : Int32) (rl' rb' re' sy' sb' : Int64) (sg' : Nat → A_G), r = some (.int (ldR t z B rf b L w K).1.1) ∧ cs' = Ac fp le lp lb il (sbf t) (nI z) (sbf (ldR t z B rf b L w K).2.1) ((ldR t z B rf b L w K).2.2.1) (nI f) (nI (cntM (ldR t z B rf b L w K).2.2.1 0 64)) (sc') ((ldR t z B rf b L w K).1.2) (ib') (ie') (pw') (dh') (rl') (rb') (re') (sy') (sb') (rc') (sg') ex ∧ ((ldR t z B rf b L w K).1.1 = 0 → ie' = (ldR t z B rf b L w K).2.2.2.1 ∧ pw' = (ldR t z B rf b L w K).2.2.2.2.1 ∧ ib' = (ldR t z B rf b L w K).2.2.2.2.2.1 ∧ rc' = (ldR t z B rf b L w K).2.2.2.2.2.2)) := by
  refine Run.blk (gs := [True, True, True]) (S' := ([some (.ref 6), some (.ref 1), some (.ref 3), some (.int x3), q4], [.ref 3, .ref 1, .ref 6], Ac fp le lp lb il (sbf t) (nI z) (sbf b) rf (nI f) (nI (cntM rf 0 64)) (nI L.length) (-1 : Int32) (nI B) (nI (wN t z 24 + B)) (nI w) dh (lN (K 7)) (lN (K 8)) (lN (K 9)) (lN (K 6)) (lN (K 11)) (nI (K 8 / 12)) sg ex)) k_I_bring_78 kc_I_bring_78 rfl ⟨trivial, trivial, trivial, trivial⟩ ?_
  refine Run.callV (b := 6) (As := [.ref 1, .ref 3]) (rest := []) v_I_bring_81 (c_I_lay ht hz hS hLI.1 hL (LI_free hLI) hLI.2.1) rfl (Nat.le_of_ble_eq_true rfl) rfl rfl rfl rfl (fun r cs' hp => ?_)
  obtain ⟨rfl, rfl⟩ := hp
  show Run _ _ _ _ 84 ([some (.ref 6), some (.ref 1), some (.ref 3), some (.int x3), q4], [], Ac fp le lp lb il (sbf t) (nI z) (sbf (laB t L b)) (laR L rf) (nI f) (nI (cntM (laR L rf) 0 64)) (nI L.length) (-1 : Int32) (nI B) (nI (wN t z 24 + B)) (nI w) dh (lN (K 7)) (lN (K 8)) (lN (K 9)) (lN (K 6)) (lN (K 11)) (nI (K 8 / 12)) sg ex) _
  refine Run.blk (gs := [True, True]) (S' := ([some (.ref 6), some (.ref 1), some (.ref 3), some (.int x3), q4], [.ref 3, .ref 6], Ac fp le lp lb il (sbf t) (nI z) (sbf (laB t L b)) (laR L rf) (nI f) (nI (cntM (laR L rf) 0 64)) (nI L.length) (-1 : Int32) (nI B) (nI (wN t z 24 + B)) (nI w) dh (lN (K 7)) (lN (K 8)) (lN (K 9)) (lN (K 6)) (lN (K 11)) (nI (K 8 / 12)) sg ex)) k_I_bring_84 kc_I_bring_84 rfl ⟨trivial, trivial, trivial⟩ ?_
  refine Run.callV (b := 6) (As := [.ref 3]) (rest := []) v_I_bring_86 (c_I_relocationsFault hS hLI.1 hL hLI.2.1 hK hN (laB_lt ht L b hb)) rfl (Nat.le_of_ble_eq_true rfl) rfl rfl rfl rfl (fun r cs' hp => ?_)
  obtain ⟨rfl, rfl⟩ := hp
  show Run _ _ _ _ 89 ([some (.ref 6), some (.ref 1), some (.ref 3), some (.int x3), q4], [.int ((reL L B K (K 8 / 12) 0 (laB t L b)).1.1)], Ac fp le lp lb il (sbf t) (nI z) (sbf (reL L B K (K 8 / 12) 0 (laB t L b)).2) (laR L rf) (nI f) (nI (cntM (laR L rf) 0 64)) (nI L.length) ((reL L B K (K 8 / 12) 0 (laB t L b)).1.2) (nI B) (nI (wN t z 24 + B)) (nI w) dh (lN (K 7)) (lN (K 8)) (lN (K 9)) (lN (K 6)) (lN (K 11)) (nI (K 8 / 12)) sg ex) _
  refine Run.blk (gs := [True, True]) (S' := ([some (.ref 6), some (.ref 1), some (.ref 3), some (.int x3), some (.int ((reL L B K (K 8 / 12) 0 (laB t L b)).1.1))], [.int ((reL L B K (K 8 / 12) 0 (laB t L b)).1.1)], Ac fp le lp lb il (sbf t) (nI z) (sbf (reL L B K (K 8 / 12) 0 (laB t L b)).2) (laR L rf) (nI f) (nI (cntM (laR L rf) 0 64)) (nI L.length) ((reL L B K (K 8 / 12) 0 (laB t L b)).1.2) (nI B) (nI (wN t z 24 + B)) (nI w) dh (lN (K 7)) (lN (K 8)) (lN (K 9)) (lN (K 6)) (lN (K 11)) (nI (K 8 / 12)) sg ex)) k_I_bring_89 kc_I_bring_89 rfl ⟨trivial, trivial, trivial⟩ ?_
  refine Run.br (tgt := 101) d_I_bring_93 rfl (by decide) (fun c_1 => ?_) (fun c_1 => ?_)
  · refine Run.blk (gs := [True]) (S' := ([some (.ref 6), some (.ref 1), some (.ref 3), some (.int x3), some (.int ((reL L B K (K 8 / 12) 0 (laB t L b)).1.1))], [.int ((reL L B K (K 8 / 12) 0 (laB t L b)).1.1)], Ac fp le lp lb il (sbf t) (nI z) (sbf (reL L B K (K 8 / 12) 0 (laB t L b)).2) (laR L rf) (nI f) (nI (cntM (laR L rf) 0 64)) (nI L.length) ((reL L B K (K 8 / 12) 0 (laB t L b)).1.2) (nI B) (nI (wN t z 24 + B)) (nI w) dh (lN (K 7)) (lN (K 8)) (lN (K 9)) (lN (K 6)) (lN (K 11)) (nI (K 8 / 12)) sg ex)) k_I_bring_101 kc_I_bring_101 rfl ⟨trivial, trivial⟩ ?_
    have e9 := reL_0 B K _ _ _ c_1
    rw [show ldR t z B rf b L w K = ((0, -1), (reL L B K (K 8 / 12) 0 (laB t L b)).2, laR L rf, nI (wN t z 24 + B), nI w, nI B, nI (K 8 / 12)) by unfold ldR; rw [if_pos c_1]]
    rw [show (reL L B K (K 8 / 12) 0 (laB t L b)).1.1 = 0 from c_1, show (reL L B K (K 8 / 12) 0 (laB t L b)).1.2 = -1 by rw [e9]]
    exact Run.ret (r := some (.int (0 : Int32))) ⟨d_I_bring_103, _, rfl, rfl⟩ ⟨_, _, _, _, _, _, _, _, _, _, _, _, rfl, rfl, fun _ => ⟨rfl, rfl, rfl, rfl⟩⟩
  · refine Run.blk (gs := [True, True]) (S' := ([some (.ref 6), some (.ref 1), some (.ref 3), some (.int x3), some (.int ((reL L B K (K 8 / 12) 0 (laB t L b)).1.1))], [.ref 3, .ref 6], Ac fp le lp lb il (sbf t) (nI z) (sbf (reL L B K (K 8 / 12) 0 (laB t L b)).2) (laR L rf) (nI f) (nI (cntM (laR L rf) 0 64)) (nI L.length) ((reL L B K (K 8 / 12) 0 (laB t L b)).1.2) (nI B) (nI (wN t z 24 + B)) (nI w) dh (lN (K 7)) (lN (K 8)) (lN (K 9)) (lN (K 6)) (lN (K 11)) (nI (K 8 / 12)) sg ex)) k_I_bring_96 kc_I_bring_96 rfl ⟨trivial, trivial, trivial⟩ ?_
    refine Run.callV (b := 6) (As := [.ref 3]) (rest := []) v_I_bring_98 (c_I_takeBack hS hLI.1 hL) rfl (Nat.le_of_ble_eq_true rfl) rfl rfl rfl rfl (fun r cs' hp => ?_)
    obtain ⟨rfl, rfl⟩ := hp
    show Run _ _ _ _ 101 ([some (.ref 6), some (.ref 1), some (.ref 3), some (.int x3), some (.int ((reL L B K (K 8 / 12) 0 (laB t L b)).1.1))], [], Ac fp le lp lb il (sbf t) (nI z) (sbf (reL L B K (K 8 / 12) 0 (laB t L b)).2) (laM (-1) L (laR L rf)) (nI f) (nI (cntM (laM (-1) L (laR L rf)) 0 64)) (nI L.length) ((reL L B K (K 8 / 12) 0 (laB t L b)).1.2) (nI B) (nI (wN t z 24 + B)) (nI w) dh (lN (K 7)) (lN (K 8)) (lN (K 9)) (lN (K 6)) (lN (K 11)) (nI (K 8 / 12)) sg ex) _
    refine Run.blk (gs := [True]) (S' := ([some (.ref 6), some (.ref 1), some (.ref 3), some (.int x3), some (.int ((reL L B K (K 8 / 12) 0 (laB t L b)).1.1))], [.int ((reL L B K (K 8 / 12) 0 (laB t L b)).1.1)], Ac fp le lp lb il (sbf t) (nI z) (sbf (reL L B K (K 8 / 12) 0 (laB t L b)).2) (laM (-1) L (laR L rf)) (nI f) (nI (cntM (laM (-1) L (laR L rf)) 0 64)) (nI L.length) ((reL L B K (K 8 / 12) 0 (laB t L b)).1.2) (nI B) (nI (wN t z 24 + B)) (nI w) dh (lN (K 7)) (lN (K 8)) (lN (K 9)) (lN (K 6)) (lN (K 11)) (nI (K 8 / 12)) sg ex)) k_I_bring_101 kc_I_bring_101 rfl ⟨trivial, trivial⟩ ?_
    rw [show ldR t z B rf b L w K = ((reL L B K (K 8 / 12) 0 (laB t L b)).1, (reL L B K (K 8 / 12) 0 (laB t L b)).2, rf, 0, 0, 0, 0) by unfold ldR; rw [if_neg c_1], laM_laR (LI_free hLI) hLI.2.1]
    exact Run.ret (r := some (.int ((reL L B K (K 8 / 12) 0 (laB t L b)).1.1))) ⟨d_I_bring_103, _, rfl, rfl⟩ ⟨_, _, _, _, _, _, _, _, _, _, _, _, rfl, rfl, fun w_ => absurd w_ c_1⟩
set_option maxRecDepth 100000 in
set_option maxHeartbeats 4000000 in
theorem l_I_bring_63 (ht : ∀ k, t k < 256) (hz : z ≤ 900) (hb : ∀ j, b j < 256) {B f w : Nat} (hB : B < 2 ^ 30) (hf : f ≤ 64) (hm : cntM rf 0 64 ≤ f) (hS : hSg L sg) (hLI : LI z rf (f - cntM rf 0 64) L w) (hL : L.length ≤ 8) {D : Nat} (hDv : Dv t z D) (hen : enB (wN t z 24 + B) L = true) {x3 : Int32} {q4 : Option Value} : Run m_I_bring n 0 0 63 ([some (.ref 6), some (.ref 1), some (.ref 3), some (.int x3), q4], [], Ac fp le lp lb il (sbf t) (nI z) (sbf b) rf (nI f) (nI (cntM rf 0 64)) (nI L.length) (-1 : Int32) (nI B) (nI (wN t z 24 + B)) (nI w) (dhv D) (0 : Int64) (0 : Int64) (0 : Int64) (0 : Int64) (0 : Int64) (0 : Int32) sg ex) (fun r cs' => ∃ (sc' ib' ie' pw' dh' rc' : Int32) (rl' rb' re' sy' sb' : Int64) (sg' : Nat → A_G), r = some (.int (ldH t z B rf b ((0, -1), L, w, D)).1.1) ∧ cs' = Ac fp le lp lb il (sbf t) (nI z) (sbf (ldH t z B rf b ((0, -1), L, w, D)).2.1) ((ldH t z B rf b ((0, -1), L, w, D)).2.2.1) (nI f) (nI (cntM (ldH t z B rf b ((0, -1), L, w, D)).2.2.1 0 64)) (sc') ((ldH t z B rf b ((0, -1), L, w, D)).1.2) (ib') (ie') (pw') (dh') (rl') (rb') (re') (sy') (sb') (rc') (sg') ex ∧ ((ldH t z B rf b ((0, -1), L, w, D)).1.1 = 0 → ie' = (ldH t z B rf b ((0, -1), L, w, D)).2.2.2.1 ∧ pw' = (ldH t z B rf b ((0, -1), L, w, D)).2.2.2.2.1 ∧ ib' = (ldH t z B rf b ((0, -1), L, w, D)).2.2.2.2.2.1 ∧ rc' = (ldH t z B rf b ((0, -1), L, w, D)).2.2.2.2.2.2)) := by
  refine Run.blk (gs := [True, True]) (S' := ([some (.ref 6), some (.ref 1), some (.ref 3), some (.int x3), q4], [.ref 1, .ref 6], Ac fp le lp lb il (sbf t) (nI z) (sbf b) rf (nI f) (nI (cntM rf 0 64)) (nI L.length) (-1 : Int32) (nI B) (nI (wN t z 24 + B)) (nI w) (dhv D) (0 : Int64) (0 : Int64) (0 : Int64) (0 : Int64) (0 : Int64) (0 : Int32) sg ex)) k_I_bring_63 kc_I_bring_63 rfl ⟨trivial, trivial, trivial⟩ ?_
  refine Run.callV (b := 6) (As := [.ref 1]) (rest := []) v_I_bring_65 (c_I_dynamicFault ht hz hDv) rfl (Nat.le_of_ble_eq_true rfl) rfl rfl rfl rfl (fun r cs' hp => ?_)
  obtain ⟨rc1, rfl, rfl, hrc⟩ := hp
  show Run _ _ _ _ 68 ([some (.ref 6), some (.ref 1), some (.ref 3), some (.int x3), q4], [.int ((dyF (dyK t z D) D).1)], Ac fp le lp lb il (sbf t) (nI z) (sbf b) rf (nI f) (nI (cntM rf 0 64)) (nI L.length) ((dyF (dyK t z D) D).2) (nI B) (nI (wN t z 24 + B)) (nI w) (dhv D) (lN ((dyK t z D) 7)) (lN ((dyK t z D) 8)) (lN ((dyK t z D) 9)) (lN ((dyK t z D) 6)) (lN ((dyK t z D) 11)) rc1 sg ex) _
  refine Run.blk (gs := [True]) (S' := ([some (.ref 6), some (.ref 1), some (.ref 3), some (.int x3), some (.int ((dyF (dyK t z D) D).1))], [], Ac fp le lp lb il (sbf t) (nI z) (sbf b) rf (nI f) (nI (cntM rf 0 64)) (nI L.length) ((dyF (dyK t z D) D).2) (nI B) (nI (wN t z 24 + B)) (nI w) (dhv D) (lN ((dyK t z D) 7)) (lN ((dyK t z D) 8)) (lN ((dyK t z D) 9)) (lN ((dyK t z D) 6)) (lN ((dyK t z D) 11)) rc1 sg ex)) k_I_bring_68 kc_I_bring_68 rfl ⟨trivial, trivial⟩ ?_
  refine Run.blk (gs := [True]) (S' := ([some (.ref 6), some (.ref 1), some (.ref 3), some (.int x3), some (.int ((dyF (dyK t z D) D).1))], [.int ((dyF (dyK t z D) D).1)], Ac fp le lp lb il (sbf t) (nI z) (sbf b) rf (nI f) (nI (cntM rf 0 64)) (nI L.length) ((dyF (dyK t z D) D).2) (nI B) (nI (wN t z 24 + B)) (nI w) (dhv D) (lN ((dyK t z D) 7)) (lN ((dyK t z D) 8)) (lN ((dyK t z D) 9)) (lN ((dyK t z D) 6)) (lN ((dyK t z D) 11)) rc1 sg ex)) k_I_bring_70 kc_I_bring_70 rfl ⟨trivial, trivial⟩ ?_
  refine Run.br (tgt := 78) d_I_bring_72 rfl (by decide) (fun c_1 => ?_) (fun c_1 => ?_)
  · obtain ⟨e8, hN⟩ := dyF_z c_1
    obtain rfl := hrc c_1
    rw [show (ldH t z B rf b ((0, -1), L, w, D)) = ldR t z B rf b L w (dyK t z D) by unfold ldH; rw [if_pos rfl, if_pos hen, if_pos c_1], e8]
    exact l_I_bring_78 ht hz hb hB hf hm hS hLI hL (dyK_lt ht z D) hN
  · refine Run.blk (gs := [True]) (S' := ([some (.ref 6), some (.ref 1), some (.ref 3), some (.int x3), some (.int ((dyF (dyK t z D) D).1))], [.int ((dyF (dyK t z D) D).1)], Ac fp le lp lb il (sbf t) (nI z) (sbf b) rf (nI f) (nI (cntM rf 0 64)) (nI L.length) ((dyF (dyK t z D) D).2) (nI B) (nI (wN t z 24 + B)) (nI w) (dhv D) (lN ((dyK t z D) 7)) (lN ((dyK t z D) 8)) (lN ((dyK t z D) 9)) (lN ((dyK t z D) 6)) (lN ((dyK t z D) 11)) rc1 sg ex)) k_I_bring_75 kc_I_bring_75 rfl ⟨trivial, trivial⟩ ?_
    rw [show (ldH t z B rf b ((0, -1), L, w, D)) = (dyF (dyK t z D) D, b, rf, 0, 0, 0, 0) by unfold ldH; rw [if_pos rfl, if_pos hen, if_neg c_1]]
    exact Run.ret (r := some (.int ((dyF (dyK t z D) D).1))) ⟨d_I_bring_77, _, rfl, rfl⟩ ⟨_, _, _, _, _, _, _, _, _, _, _, _, rfl, rfl, fun w_ => absurd w_ c_1⟩
set_option maxRecDepth 100000 in
set_option maxHeartbeats 4000000 in
theorem l_I_bring_51 (ht : ∀ k, t k < 256) (hz : z ≤ 900) (hb : ∀ j, b j < 256) {B f w : Nat} (hB : B < 2 ^ 30) (hf : f ≤ 64) (hm : cntM rf 0 64 ≤ f) (hS : hSg L sg) (hLI : LI z rf (f - cntM rf 0 64) L w) (hL : L.length ≤ 8) {D : Nat} (hDv : Dv t z D) {x3 : Int32} {q4 : Option Value} : Run m_I_bring n 0 0 51 ([some (.ref 6), some (.ref 1), some (.ref 3), some (.int x3), q4], [], Ac fp le lp lb il (sbf t) (nI z) (sbf b) rf (nI f) (nI (cntM rf 0 64)) (nI L.length) (-1 : Int32) (nI B) (-1 : Int32) (nI w) (dhv D) (0 : Int64) (0 : Int64) (0 : Int64) (0 : Int64) (0 : Int64) (0 : Int32) sg ex) (fun r cs' => ∃ (sc' ib' ie' pw' dh' rc' : Int32) (rl' rb' re' sy' sb' : Int64) (sg' : Nat → A_G), r = some (.int (ldH t z B rf b ((0, -1), L, w, D)).1.1) ∧ cs' = Ac fp le lp lb il (sbf t) (nI z) (sbf (ldH t z B rf b ((0, -1), L, w, D)).2.1) ((ldH t z B rf b ((0, -1), L, w, D)).2.2.1) (nI f) (nI (cntM (ldH t z B rf b ((0, -1), L, w, D)).2.2.1 0 64)) (sc') ((ldH t z B rf b ((0, -1), L, w, D)).1.2) (ib') (ie') (pw') (dh') (rl') (rb') (re') (sy') (sb') (rc') (sg') ex ∧ ((ldH t z B rf b ((0, -1), L, w, D)).1.1 = 0 → ie' = (ldH t z B rf b ((0, -1), L, w, D)).2.2.2.1 ∧ pw' = (ldH t z B rf b ((0, -1), L, w, D)).2.2.2.2.1 ∧ ib' = (ldH t z B rf b ((0, -1), L, w, D)).2.2.2.2.2.1 ∧ rc' = (ldH t z B rf b ((0, -1), L, w, D)).2.2.2.2.2.2)) := by
  refine Run.blk (gs := [True, True]) (S' := ([some (.ref 6), some (.ref 1), some (.ref 3), some (.int x3), q4], [.ref 1, .ref 6], Ac fp le lp lb il (sbf t) (nI z) (sbf b) rf (nI f) (nI (cntM rf 0 64)) (nI L.length) (-1 : Int32) (nI B) (-1 : Int32) (nI w) (dhv D) (0 : Int64) (0 : Int64) (0 : Int64) (0 : Int64) (0 : Int64) (0 : Int32) sg ex)) k_I_bring_51 kc_I_bring_51 rfl ⟨trivial, trivial, trivial⟩ ?_
  refine Run.callV (b := 6) (As := [.ref 1]) (rest := []) v_I_bring_53 (c_I_entryFault ht hz hB rfl hS hLI.1 hL) rfl (Nat.le_of_ble_eq_true rfl) rfl rfl rfl rfl (fun r cs' hp => ?_)
  obtain ⟨rfl, rfl⟩ := hp
  show Run _ _ _ _ 56 ([some (.ref 6), some (.ref 1), some (.ref 3), some (.int x3), q4], [.int (if enB (wN t z 24 + B) L = true then 0 else 18)], Ac fp le lp lb il (sbf t) (nI z) (sbf b) rf (nI f) (nI (cntM rf 0 64)) (nI L.length) (if enB (wN t z 24 + B) L = true then -1 else 24) (nI B) (if enB (wN t z 24 + B) L = true then nI (wN t z 24 + B) else -1) (nI w) (dhv D) (0 : Int64) (0 : Int64) (0 : Int64) (0 : Int64) (0 : Int64) (0 : Int32) sg ex) _
  refine Run.blk (gs := [True]) (S' := ([some (.ref 6), some (.ref 1), some (.ref 3), some (.int x3), some (.int (if enB (wN t z 24 + B) L = true then 0 else 18))], [], Ac fp le lp lb il (sbf t) (nI z) (sbf b) rf (nI f) (nI (cntM rf 0 64)) (nI L.length) (if enB (wN t z 24 + B) L = true then -1 else 24) (nI B) (if enB (wN t z 24 + B) L = true then nI (wN t z 24 + B) else -1) (nI w) (dhv D) (0 : Int64) (0 : Int64) (0 : Int64) (0 : Int64) (0 : Int64) (0 : Int32) sg ex)) k_I_bring_56 kc_I_bring_56 rfl ⟨trivial, trivial⟩ ?_
  refine Run.blk (gs := [True]) (S' := ([some (.ref 6), some (.ref 1), some (.ref 3), some (.int x3), some (.int (if enB (wN t z 24 + B) L = true then 0 else 18))], [.int (if enB (wN t z 24 + B) L = true then 0 else 18)], Ac fp le lp lb il (sbf t) (nI z) (sbf b) rf (nI f) (nI (cntM rf 0 64)) (nI L.length) (if enB (wN t z 24 + B) L = true then -1 else 24) (nI B) (if enB (wN t z 24 + B) L = true then nI (wN t z 24 + B) else -1) (nI w) (dhv D) (0 : Int64) (0 : Int64) (0 : Int64) (0 : Int64) (0 : Int64) (0 : Int32) sg ex)) k_I_bring_58 kc_I_bring_58 rfl ⟨trivial, trivial⟩ ?_
  refine Run.br (tgt := 70) d_I_bring_60 rfl (by decide) (fun c_1 => ?_) (fun c_1 => ?_)
  · have c_1 : ¬ (enB (wN t z 24 + B) L = true) := fun w_ => c_1 (i18.mpr w_)
    refine Run.blk (gs := [True]) (S' := ([some (.ref 6), some (.ref 1), some (.ref 3), some (.int x3), some (.int (if enB (wN t z 24 + B) L = true then 0 else 18))], [.int (if enB (wN t z 24 + B) L = true then 0 else 18)], Ac fp le lp lb il (sbf t) (nI z) (sbf b) rf (nI f) (nI (cntM rf 0 64)) (nI L.length) (if enB (wN t z 24 + B) L = true then -1 else 24) (nI B) (if enB (wN t z 24 + B) L = true then nI (wN t z 24 + B) else -1) (nI w) (dhv D) (0 : Int64) (0 : Int64) (0 : Int64) (0 : Int64) (0 : Int64) (0 : Int32) sg ex)) k_I_bring_70 kc_I_bring_70 rfl ⟨trivial, trivial⟩ ?_
    refine Run.br (tgt := 78) d_I_bring_72 rfl (by decide) (fun c_2 => ?_) (fun c_2 => ?_)
    · have c_2 := i18.mp c_2
      exact absurd c_2 c_1
    · have c_2 : ¬ (enB (wN t z 24 + B) L = true) := fun w_ => c_2 (i18.mpr w_)
      refine Run.blk (gs := [True]) (S' := ([some (.ref 6), some (.ref 1), some (.ref 3), some (.int x3), some (.int (if enB (wN t z 24 + B) L = true then 0 else 18))], [.int (if enB (wN t z 24 + B) L = true then 0 else 18)], Ac fp le lp lb il (sbf t) (nI z) (sbf b) rf (nI f) (nI (cntM rf 0 64)) (nI L.length) (if enB (wN t z 24 + B) L = true then -1 else 24) (nI B) (if enB (wN t z 24 + B) L = true then nI (wN t z 24 + B) else -1) (nI w) (dhv D) (0 : Int64) (0 : Int64) (0 : Int64) (0 : Int64) (0 : Int64) (0 : Int32) sg ex)) k_I_bring_75 kc_I_bring_75 rfl ⟨trivial, trivial⟩ ?_
      rw [show (ldH t z B rf b ((0, -1), L, w, D)) = ((18, 24), b, rf, 0, 0, 0, 0) by unfold ldH; rw [if_pos rfl, if_neg c_1]]
      rw [if_neg c_1, if_neg c_1, if_neg c_1]
      exact Run.ret (r := some (.int (18 : Int32))) ⟨d_I_bring_77, _, rfl, rfl⟩ ⟨_, _, _, _, _, _, _, _, _, _, _, _, rfl, rfl, fun w_ => absurd (show (18 : Int32) = 0 from w_) (by decide)⟩
  · have c_1 := Classical.not_not.mp c_1
    have c_1 := i18.mp c_1
    rw [if_pos c_1, if_pos c_1, if_pos c_1]
    exact l_I_bring_63 ht hz hb hB hf hm hS hLI hL hDv c_1
set_option maxRecDepth 100000 in
set_option maxHeartbeats 4000000 in
theorem l_I_bring_35 (ht : ∀ k, t k < 256) (hz : z ≤ 900) (hb : ∀ j, b j < 256) {B f : Nat} (hB : B < 2 ^ 30) (hf : f ≤ 64) (hm : cntM rf 0 64 ≤ f) (hh : hN t z 44 ≤ 8) (hT : wN t z 28 + 32 * hN t z 44 ≤ z) {x3 : Int32} {q4 : Option Value} : Run m_I_bring n 0 0 35 ([some (.ref 6), some (.ref 1), some (.ref 3), some (.int x3), q4], [.int (nI B), .ref 6], Ac fp le lp lb il (sbf t) (nI z) (sbf b) rf (nI f) (nI (cntM rf 0 64)) (0 : Int32) (-1 : Int32) (0 : Int32) (-1 : Int32) (0 : Int32) (-1 : Int32) (0 : Int64) (0 : Int64) (0 : Int64) (0 : Int64) (0 : Int64) (0 : Int32) sg ex) (fun r cs' => ∃ (sc' ib' ie' pw' dh' rc' : Int32) (rl' rb' re' sy' sb' : Int64) (sg' : Nat → A_G), r = some (.int (ldG t z B rf (f - cntM rf 0 64) b).1.1) ∧ cs' = Ac fp le lp lb il (sbf t) (nI z) (sbf (ldG t z B rf (f - cntM rf 0 64) b).2.1) ((ldG t z B rf (f - cntM rf 0 64) b).2.2.1) (nI f) (nI (cntM (ldG t z B rf (f - cntM rf 0 64) b).2.2.1 0 64)) (sc') ((ldG t z B rf (f - cntM rf 0 64) b).1.2) (ib') (ie') (pw') (dh') (rl') (rb') (re') (sy') (sb') (rc') (sg') ex ∧ ((ldG t z B rf (f - cntM rf 0 64) b).1.1 = 0 → ie' = (ldG t z B rf (f - cntM rf 0 64) b).2.2.2.1 ∧ pw' = (ldG t z B rf (f - cntM rf 0 64) b).2.2.2.2.1 ∧ ib' = (ldG t z B rf (f - cntM rf 0 64) b).2.2.2.2.2.1 ∧ rc' = (ldG t z B rf (f - cntM rf 0 64) b).2.2.2.2.2.2)) := by
  refine Run.blk (gs := [True, True, True, True]) (S' := ([some (.ref 6), some (.ref 1), some (.ref 3), some (.int x3), q4], [.ref 3, .ref 1, .ref 6], Ac fp le lp lb il (sbf t) (nI z) (sbf b) rf (nI f) (nI (cntM rf 0 64)) (0 : Int32) (-1 : Int32) (nI B) (-1 : Int32) (0 : Int32) (-1 : Int32) (0 : Int64) (0 : Int64) (0 : Int64) (0 : Int64) (0 : Int64) (0 : Int32) sg ex)) k_I_bring_35 kc_I_bring_35 rfl ⟨trivial, trivial, trivial, trivial, trivial⟩ ?_
  refine Run.callV (b := 6) (As := [.ref 1, .ref 3]) (rest := []) v_I_bring_41 (c_I_headsFault ht hz hB hm hf hh hT) rfl (Nat.le_of_ble_eq_true rfl) rfl rfl rfl rfl (fun r cs' hp => ?_)
  obtain ⟨g1, hS1, rfl, rfl⟩ := hp
  have hok := hsF_ok (z := z) ht hB (rf := rf) (fre := f - cntM rf 0 64) (hN t z 44) 0 [] 0 0 ⟨fun g h => absurd h List.not_mem_nil, List.Pairwise.nil, rfl, Nat.zero_le _⟩ (Or.inl rfl) (by omega)
  have hz0 := hsF_z (t := t) (z := z) (B := B) (rf := rf) (fre := f - cntM rf 0 64) (hN t z 44) 0 [] 0 0
  rw [show (ldG t z B rf (f - cntM rf 0 64) b) = ldH t z B rf b (hsF t z B rf (f - cntM rf 0 64) (hN t z 44) 0 [] 0 0) from rfl]
  generalize hsF t z B rf (f - cntM rf 0 64) (hN t z 44) 0 [] 0 0 = F at hS1 hok hz0 ⊢
  obtain ⟨⟨e0, p0⟩, L, w, D⟩ := F
  have hS1 : hSg L g1 := hS1
  have hok : LI z rf (f - cntM rf 0 64) L w ∧ Dv t z D ∧ L.length ≤ 0 + hN t z 44 := hok
  have hz0 : e0 = 0 → p0 = -1 ∧ ¬ w = 0 := hz0
  show Run _ _ _ _ 44 ([some (.ref 6), some (.ref 1), some (.ref 3), some (.int x3), q4], [.int e0], Ac fp le lp lb il (sbf t) (nI z) (sbf b) rf (nI f) (nI (cntM rf 0 64)) (nI L.length) p0 (nI B) (-1 : Int32) (nI w) (dhv D) (0 : Int64) (0 : Int64) (0 : Int64) (0 : Int64) (0 : Int64) (0 : Int32) g1 ex) _
  refine Run.blk (gs := [True, True]) (S' := ([some (.ref 6), some (.ref 1), some (.ref 3), some (.int x3), some (.int e0)], [.int e0], Ac fp le lp lb il (sbf t) (nI z) (sbf b) rf (nI f) (nI (cntM rf 0 64)) (nI L.length) p0 (nI B) (-1 : Int32) (nI w) (dhv D) (0 : Int64) (0 : Int64) (0 : Int64) (0 : Int64) (0 : Int64) (0 : Int32) g1 ex)) k_I_bring_44 kc_I_bring_44 rfl ⟨trivial, trivial, trivial⟩ ?_
  refine Run.br (tgt := 58) d_I_bring_48 rfl (by decide) (fun c_1 => ?_) (fun c_1 => ?_)
  · refine Run.blk (gs := [True]) (S' := ([some (.ref 6), some (.ref 1), some (.ref 3), some (.int x3), some (.int e0)], [.int e0], Ac fp le lp lb il (sbf t) (nI z) (sbf b) rf (nI f) (nI (cntM rf 0 64)) (nI L.length) p0 (nI B) (-1 : Int32) (nI w) (dhv D) (0 : Int64) (0 : Int64) (0 : Int64) (0 : Int64) (0 : Int64) (0 : Int32) g1 ex)) k_I_bring_58 kc_I_bring_58 rfl ⟨trivial, trivial⟩ ?_
    refine Run.br (tgt := 70) d_I_bring_60 rfl (by decide) (fun c_2 => ?_) (fun c_2 => ?_)
    · refine Run.blk (gs := [True]) (S' := ([some (.ref 6), some (.ref 1), some (.ref 3), some (.int x3), some (.int e0)], [.int e0], Ac fp le lp lb il (sbf t) (nI z) (sbf b) rf (nI f) (nI (cntM rf 0 64)) (nI L.length) p0 (nI B) (-1 : Int32) (nI w) (dhv D) (0 : Int64) (0 : Int64) (0 : Int64) (0 : Int64) (0 : Int64) (0 : Int32) g1 ex)) k_I_bring_70 kc_I_bring_70 rfl ⟨trivial, trivial⟩ ?_
      refine Run.br (tgt := 78) d_I_bring_72 rfl (by decide) (fun c_3 => ?_) (fun c_3 => ?_)
      · exact absurd c_3 c_1
      · refine Run.blk (gs := [True]) (S' := ([some (.ref 6), some (.ref 1), some (.ref 3), some (.int x3), some (.int e0)], [.int e0], Ac fp le lp lb il (sbf t) (nI z) (sbf b) rf (nI f) (nI (cntM rf 0 64)) (nI L.length) p0 (nI B) (-1 : Int32) (nI w) (dhv D) (0 : Int64) (0 : Int64) (0 : Int64) (0 : Int64) (0 : Int64) (0 : Int32) g1 ex)) k_I_bring_75 kc_I_bring_75 rfl ⟨trivial, trivial⟩ ?_
        rw [show ldH t z B rf b ((e0, p0), L, w, D) = ((e0, p0), b, rf, 0, 0, 0, 0) by unfold ldH; rw [if_neg c_1]]
        exact Run.ret (r := some (.int e0)) ⟨d_I_bring_77, _, rfl, rfl⟩ ⟨_, _, _, _, _, _, _, _, _, _, _, _, rfl, rfl, fun w_ => absurd w_ c_1⟩
    · have c_2 := Classical.not_not.mp c_2
      exact absurd c_2 c_1
  · have c_1 := Classical.not_not.mp c_1
    obtain ⟨rfl, hw0⟩ := hz0 c_1
    subst c_1
    have hL8 : L.length ≤ 8 := by have := hok.2.2; omega
    exact l_I_bring_51 (L := L) (w := w) (D := D) ht hz hb hB hf hm hS1 hok.1 hL8 hok.2.1
set_option maxRecDepth 100000 in
set_option maxHeartbeats 4000000 in
theorem l_I_bring_19 (ht : ∀ k, t k < 256) (hz : z ≤ 900) (hb : ∀ j, b j < 256) {B f : Nat} (hB : B < 2 ^ 30) (hf : f ≤ 64) (hm : cntM rf 0 64 ≤ f) (hl : (hdF t z).1 = 0) (hh : hN t z 44 ≤ 8) (hT : wN t z 28 + 32 * hN t z 44 ≤ z) {q4 : Option Value} : Run m_I_bring n 0 0 19 ([some (.ref 6), some (.ref 1), some (.ref 3), some (.int (nI B)), q4], [], Ac fp le lp lb il (sbf t) (nI z) (sbf b) rf (nI f) (nI (cntM rf 0 64)) (0 : Int32) (-1 : Int32) (0 : Int32) (-1 : Int32) (0 : Int32) (-1 : Int32) (0 : Int64) (0 : Int64) (0 : Int64) (0 : Int64) (0 : Int64) (0 : Int32) sg ex) (fun r cs' => ∃ (sc' ib' ie' pw' dh' rc' : Int32) (rl' rb' re' sy' sb' : Int64) (sg' : Nat → A_G), r = some (.int (ldF t z B rf (f - cntM rf 0 64) b).1.1) ∧ cs' = Ac fp le lp lb il (sbf t) (nI z) (sbf (ldF t z B rf (f - cntM rf 0 64) b).2.1) ((ldF t z B rf (f - cntM rf 0 64) b).2.2.1) (nI f) (nI (cntM (ldF t z B rf (f - cntM rf 0 64) b).2.2.1 0 64)) (sc') ((ldF t z B rf (f - cntM rf 0 64) b).1.2) (ib') (ie') (pw') (dh') (rl') (rb') (re') (sy') (sb') (rc') (sg') ex ∧ ((ldF t z B rf (f - cntM rf 0 64) b).1.1 = 0 → ie' = (ldF t z B rf (f - cntM rf 0 64) b).2.2.2.1 ∧ pw' = (ldF t z B rf (f - cntM rf 0 64) b).2.2.2.2.1 ∧ ib' = (ldF t z B rf (f - cntM rf 0 64) b).2.2.2.2.2.1 ∧ rc' = (ldF t z B rf (f - cntM rf 0 64) b).2.2.2.2.2.2)) := by
  refine Run.blk (gs := [True, True, True]) (S' := ([some (.ref 6), some (.ref 1), some (.ref 3), some (.int (nI B)), q4], [.int (16 : Int32), .ref 1, .ref 6], Ac fp le lp lb il (sbf t) (nI z) (sbf b) rf (nI f) (nI (cntM rf 0 64)) (0 : Int32) (-1 : Int32) (0 : Int32) (-1 : Int32) (0 : Int32) (-1 : Int32) (0 : Int64) (0 : Int64) (0 : Int64) (0 : Int64) (0 : Int64) (0 : Int32) sg ex)) k_I_bring_19 kc_I_bring_19 rfl ⟨trivial, trivial, trivial, trivial⟩ ?_
  refine Run.callV (b := 1) (As := [.int (16 : Int32)]) (rest := [.ref 6]) v_I_bring_23 (c_T_half ht hz (p := 16) rfl (by decide)) rfl (Nat.le_of_ble_eq_true rfl) rfl rfl rfl rfl (fun r cs' hp => ?_)
  obtain ⟨rfl, rfl⟩ := hp
  show Run _ _ _ _ 26 ([some (.ref 6), some (.ref 1), some (.ref 3), some (.int (nI B)), q4], [.int (nI (hN t z 16)), .ref 6], Ac fp le lp lb il (sbf t) (nI z) (sbf b) rf (nI f) (nI (cntM rf 0 64)) (0 : Int32) (-1 : Int32) (0 : Int32) (-1 : Int32) (0 : Int32) (-1 : Int32) (0 : Int64) (0 : Int64) (0 : Int64) (0 : Int64) (0 : Int64) (0 : Int32) sg ex) _
  refine Run.blk (gs := [True]) (S' := ([some (.ref 6), some (.ref 1), some (.ref 3), some (.int (nI B)), q4], [.int (2 : Int32), .int (nI (hN t z 16)), .ref 6], Ac fp le lp lb il (sbf t) (nI z) (sbf b) rf (nI f) (nI (cntM rf 0 64)) (0 : Int32) (-1 : Int32) (0 : Int32) (-1 : Int32) (0 : Int32) (-1 : Int32) (0 : Int64) (0 : Int64) (0 : Int64) (0 : Int64) (0 : Int64) (0 : Int32) sg ex)) k_I_bring_26 kc_I_bring_26 rfl ⟨trivial, trivial⟩ ?_
  refine Run.br (tgt := 34) d_I_bring_27 rfl (by decide) (fun c_1 => ?_) (fun c_1 => ?_)
  · have c_1 : ¬ ((hN t z 16) = 2) := fun w_ => c_1 ((nI_eq (a := (hN t z 16)) (b := 2) (Nat.lt_of_lt_of_le (hN_lt ht z _) (by decide)) (by decide)).mpr w_)
    refine Run.blk (gs := [True]) (S' := ([some (.ref 6), some (.ref 1), some (.ref 3), some (.int (nI B)), q4], [.int (nI B), .ref 6], Ac fp le lp lb il (sbf t) (nI z) (sbf b) rf (nI f) (nI (cntM rf 0 64)) (0 : Int32) (-1 : Int32) (0 : Int32) (-1 : Int32) (0 : Int32) (-1 : Int32) (0 : Int64) (0 : Int64) (0 : Int64) (0 : Int64) (0 : Int64) (0 : Int32) sg ex)) k_I_bring_34 kc_I_bring_34 rfl ⟨trivial, trivial⟩ ?_
    rw [show (ldF t z B rf (f - cntM rf 0 64) b) = ldG t z B rf (f - cntM rf 0 64) b by unfold ldF; rw [if_pos hl, if_neg c_1]]
    exact l_I_bring_35 ht hz hb hB hf hm hh hT
  · have c_1 := Classical.not_not.mp c_1
    have c_1 := (nI_eq (a := (hN t z 16)) (b := 2) (Nat.lt_of_lt_of_le (hN_lt ht z _) (by decide)) (by decide)).mp c_1
    refine Run.blk (gs := [True]) (S' := ([some (.ref 6), some (.ref 1), some (.ref 3), some (.int (nI B)), q4], [.int (0 : Int32), .ref 6], Ac fp le lp lb il (sbf t) (nI z) (sbf b) rf (nI f) (nI (cntM rf 0 64)) (0 : Int32) (-1 : Int32) (0 : Int32) (-1 : Int32) (0 : Int32) (-1 : Int32) (0 : Int64) (0 : Int64) (0 : Int64) (0 : Int64) (0 : Int64) (0 : Int32) sg ex)) k_I_bring_30 kc_I_bring_30 rfl ⟨trivial, trivial⟩ ?_
    refine Run.goto (tgt := 35) d_I_bring_31 (by decide) ?_
    rw [show (ldF t z B rf (f - cntM rf 0 64) b) = ldG t z 0 rf (f - cntM rf 0 64) b by unfold ldF; rw [if_pos hl, if_pos c_1]]
    exact l_I_bring_35 ht hz hb (by decide) hf hm hh hT
set_option maxRecDepth 100000 in
set_option maxHeartbeats 4000000 in
theorem c_I_bring (ht : ∀ k, t k < 256) (hz : z ≤ 900) (hb : ∀ j, b j < 256) {B f : Nat} (hB : B < 2 ^ 30) (hf : f ≤ 64) (hm : cntM rf 0 64 ≤ f) {x : Int32} (hx : x = nI B) : Ct m_I_bring 0 0 [.ref 6, .ref 1, .ref 3, .int x] (Ac fp le lp lb il (sbf t) (nI z) (sbf b) rf (nI f) (nI (cntM rf 0 64)) sc ifp ib ie pw dh rl rb re sy sb rc sg ex) (fun r cs' => ∃ (sc' ib' ie' pw' dh' rc' : Int32) (rl' rb' re' sy' sb' : Int64) (sg' : Nat → A_G), r = some (.int (ldF t z B rf (f - cntM rf 0 64) b).1.1) ∧ cs' = Ac fp le lp lb il (sbf t) (nI z) (sbf (ldF t z B rf (f - cntM rf 0 64) b).2.1) ((ldF t z B rf (f - cntM rf 0 64) b).2.2.1) (nI f) (nI (cntM (ldF t z B rf (f - cntM rf 0 64) b).2.2.1 0 64)) (sc') ((ldF t z B rf (f - cntM rf 0 64) b).1.2) (ib') (ie') (pw') (dh') (rl') (rb') (re') (sy') (sb') (rc') (sg') ex ∧ ((ldF t z B rf (f - cntM rf 0 64) b).1.1 = 0 → ie' = (ldF t z B rf (f - cntM rf 0 64) b).2.2.2.1 ∧ pw' = (ldF t z B rf (f - cntM rf 0 64) b).2.2.2.2.1 ∧ ib' = (ldF t z B rf (f - cntM rf 0 64) b).2.2.2.2.2.1 ∧ rc' = (ldF t z B rf (f - cntM rf 0 64) b).2.2.2.2.2.2)) := by
  subst hx
  refine Ct.of ⟨by decide +kernel, rfl⟩ (Nat.le_of_ble_eq_true rfl) (lv := [some (.ref 6), some (.ref 1), some (.ref 3), some (.int (nI B)), none]) rfl ?_
  refine Run.blk (gs := [True]) (S' := ([some (.ref 6), some (.ref 1), some (.ref 3), some (.int (nI B)), none], [.ref 6], Ac fp le lp lb il (sbf t) (nI z) (sbf b) rf (nI f) (nI (cntM rf 0 64)) sc ifp ib ie pw dh rl rb re sy sb rc sg ex)) k_I_bring_0 kc_I_bring_0 rfl ⟨trivial, trivial⟩ ?_
  refine Run.callV (b := 6) (As := []) (rest := []) v_I_bring_1 c_I_forget rfl (Nat.le_of_ble_eq_true rfl) rfl rfl rfl rfl (fun r cs' hp => ?_)
  obtain ⟨rfl, rfl⟩ := hp
  show Run _ _ _ _ 4 ([some (.ref 6), some (.ref 1), some (.ref 3), some (.int (nI B)), none], [], Ac fp le lp lb il (sbf t) (nI z) (sbf b) rf (nI f) (nI (cntM rf 0 64)) (0 : Int32) (-1 : Int32) (0 : Int32) (-1 : Int32) (0 : Int32) (-1 : Int32) (0 : Int64) (0 : Int64) (0 : Int64) (0 : Int64) (0 : Int64) (0 : Int32) sg ex) _
  refine Run.blk (gs := [True, True]) (S' := ([some (.ref 6), some (.ref 1), some (.ref 3), some (.int (nI B)), none], [.ref 1, .ref 6], Ac fp le lp lb il (sbf t) (nI z) (sbf b) rf (nI f) (nI (cntM rf 0 64)) (0 : Int32) (-1 : Int32) (0 : Int32) (-1 : Int32) (0 : Int32) (-1 : Int32) (0 : Int64) (0 : Int64) (0 : Int64) (0 : Int64) (0 : Int64) (0 : Int32) sg ex)) k_I_bring_4 kc_I_bring_4 rfl ⟨trivial, trivial, trivial⟩ ?_
  refine Run.callV (b := 6) (As := [.ref 1]) (rest := []) v_I_bring_6 (c_I_headerFault ht hz) rfl (Nat.le_of_ble_eq_true rfl) rfl rfl rfl rfl (fun r cs' hp => ?_)
  obtain ⟨rfl, rfl⟩ := hp
  show Run _ _ _ _ 9 ([some (.ref 6), some (.ref 1), some (.ref 3), some (.int (nI B)), none], [.int ((hdF t z).1)], Ac fp le lp lb il (sbf t) (nI z) (sbf b) rf (nI f) (nI (cntM rf 0 64)) (0 : Int32) ((hdF t z).2) (0 : Int32) (-1 : Int32) (0 : Int32) (-1 : Int32) (0 : Int64) (0 : Int64) (0 : Int64) (0 : Int64) (0 : Int64) (0 : Int32) sg ex) _
  refine Run.blk (gs := [True, True]) (S' := ([some (.ref 6), some (.ref 1), some (.ref 3), some (.int (nI B)), some (.int ((hdF t z).1))], [.int ((hdF t z).1)], Ac fp le lp lb il (sbf t) (nI z) (sbf b) rf (nI f) (nI (cntM rf 0 64)) (0 : Int32) ((hdF t z).2) (0 : Int32) (-1 : Int32) (0 : Int32) (-1 : Int32) (0 : Int64) (0 : Int64) (0 : Int64) (0 : Int64) (0 : Int64) (0 : Int32) sg ex)) k_I_bring_9 kc_I_bring_9 rfl ⟨trivial, trivial, trivial⟩ ?_
  refine Run.br (tgt := 19) d_I_bring_13 rfl (by decide) (fun c_1 => ?_) (fun c_1 => ?_)
  · obtain ⟨e8, h52, hh, hT⟩ := hdF_0 c_1
    have hl := c_1
    rw [e8]
    exact l_I_bring_19 ht hz hb hB hf hm hl hh hT
  · refine Run.blk (gs := [True]) (S' := ([some (.ref 6), some (.ref 1), some (.ref 3), some (.int (nI B)), some (.int ((hdF t z).1))], [.int ((hdF t z).1)], Ac fp le lp lb il (sbf t) (nI z) (sbf b) rf (nI f) (nI (cntM rf 0 64)) (0 : Int32) ((hdF t z).2) (0 : Int32) (-1 : Int32) (0 : Int32) (-1 : Int32) (0 : Int64) (0 : Int64) (0 : Int64) (0 : Int64) (0 : Int64) (0 : Int32) sg ex)) k_I_bring_16 kc_I_bring_16 rfl ⟨trivial, trivial⟩ ?_
    rw [show (ldF t z B rf (f - cntM rf 0 64) b) = (hdF t z, b, rf, 0, 0, 0, 0) by unfold ldF; rw [if_neg c_1]]
    exact Run.ret (r := some (.int ((hdF t z).1))) ⟨d_I_bring_18, _, rfl, rfl⟩ ⟨_, _, _, _, _, _, _, _, _, _, _, _, rfl, rfl, fun w_ => absurd w_ c_1⟩
end P40
