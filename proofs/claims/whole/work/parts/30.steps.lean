
theorem Ct.mono {M : vm_M} {bc bs : Nat} {av : List Value} {cs : List va_E} {post post' : Option Value → List va_E → Prop} (h : Ct M bc bs av cs post) (hp : ∀ r cs', post r cs' → post' r cs') : Ct M bc bs av cs post' := by
  intro l D ad tc sz p e ha hc hk s m args below hf happ hP hK
  obtain ⟨n, o, h1, h2, h3, ⟨⟨r, cs', ad', q1, q2, q3⟩, q4⟩, q5⟩ := h l D ad tc sz p e ha hc hk s m args below hf happ hP hK
  exact ⟨n, o, h1, h2, h3, ⟨⟨r, cs', ad', q1, hp r cs' q2, q3⟩, q4⟩, q5⟩
abbrev AX : Type := (Nat → Nat) × Nat × (Nat → Nat) × (Nat → Int32) × Int32 × Int32 × Int32 × Int32 × Int32
/-- tape, its size, memory, rights; what told() answers, the images -/
def K2 (f : Nat) (A B : AX) (cs : List va_E) : Prop := ∃ (sc ifp ib ie pw dh : Int32) (rl rb re sy sb : Int64) (rc : Int32) (sg : Nat → A_G) (mth msn mwn mba mdy mfa : Int32) (mbg mhd mkn : Nat → Int64) (mfo mfi mmy mwa mmp mrg : Nat → Int32), Rm B.2.2.2.1 mmp mrg ∧ cs = Ac A.2.2.2.2.1 A.2.2.2.2.2.1 A.2.2.2.2.2.2.1 A.2.2.2.2.2.2.2.1 A.2.2.2.2.2.2.2.2 (sbf A.1) (nI A.2.1) (sbf A.2.2.1) A.2.2.2.1 (nI f) (nI (cntM A.2.2.2.1 0 64)) sc ifp ib ie pw dh rl rb re sy sb rc sg
    (Bc mth (nI f) (nI B.2.1) (nif B.1) mmp mrg (nif B.2.2.1) msn mbg mhd mfo mfi mmy mwa mwn mba mdy mkn mfa B.2.2.2.2.1 B.2.2.2.2.2.1 B.2.2.2.2.2.2.1 B.2.2.2.2.2.2.2.1 B.2.2.2.2.2.2.2.2)
def Inv (f : Nat) (X : AX) : Prop := (∀ j, X.1 j < 256) ∧ X.2.1 ≤ 900 ∧ (∀ j, X.2.2.1 j < 256) ∧ (∀ j, j < 64 → X.2.2.2.1 j = -1 ∨ ∃ r, r < 8 ∧ X.2.2.2.1 j = nI r) ∧ (1 ≤ f ∧ f ≤ 64) ∧ cntM X.2.2.2.1 0 64 ≤ f
def Step1 (mL mM : vm_M) (av : List Value) (r : Value) (f : Nat) (X X1 : AX) (cs : List va_E) : Prop :=
  Inv f X1 ∧ Ct mL 0 0 (.ref 0 :: av) cs (fun r' cs' => r' = some r ∧ K2 f X1 X cs') ∧ ∀ cs', K2 f X1 X cs' → Ct mM 0 0 (.ref 16 :: av) cs' (fun r' cs'' => r' = some r ∧ K2 f X1 X1 cs'')
def StepI (mL mM : vm_M) (av : List Value) : Prop := ∀ (f : Nat) (X : AX) (cs : List va_E), Inv f X → K2 f X X cs → ∃ (r : Int32) (X1 : AX), Step1 mL mM av (.int r) f X X1 cs
def StepJ (mL mM : vm_M) (av : List Value) : Prop := ∀ (f : Nat) (X : AX) (cs : List va_E), Inv f X → K2 f X X cs → ∃ (r : Int64) (X1 : AX), Step1 mL mM av (.long r) f X X1 cs
theorem cnt_congr {f g : Nat → Int32} {a : Nat} : ∀ (k : Nat), (∀ j, a ≤ j → j < a + k → (f j = -1 ↔ g j = -1)) → cntM f a k = cntM g a k
  | 0, _ => rfl
  | k + 1, h => by
    unfold cntM
    rw [cnt_congr k (fun j h1 h2 => h j h1 (by omega))]
    have := h (a + k) (by omega) (by omega)
    by_cases hf : f (a + k) = -1
    · rw [if_pos hf, if_pos (this.mp hf)]
    · rw [if_neg hf, if_neg (fun q => hf (this.mpr q))]
theorem cnt_app (f : Nat → Int32) (a k : Nat) : ∀ l, cntM f a (k + l) = cntM f a k + cntM f (a + k) l
  | 0 => rfl
  | l + 1 => by
    rw [← Nat.add_assoc, cntM, cnt_app f a k l, cntM, Nat.add_assoc, show a + (k + l) = a + k + l by omega]
theorem cnt_none {f : Nat → Int32} {a : Nat} : ∀ (k : Nat), (∀ j, a ≤ j → j < a + k → f j = -1) → cntM f a k = 0
  | 0, _ => rfl
  | k + 1, h => by rw [cntM, cnt_none k (fun j h1 h2 => h j h1 (by omega)), if_pos (h _ (by omega) (by omega))]
theorem cnt_fill (f : Nat → Int32) {p k : Nat} (h : p + k ≤ 64) : cntM (fillI f p k (-1)) 0 64 + cntM f p k = cntM f 0 64 := by
  have e1 := cnt_app (fillI f p k (-1)) 0 p (64 - p)
  have e2 := cnt_app (fillI f p k (-1)) p k (64 - p - k)
  have e3 := cnt_app f 0 p (64 - p)
  have e4 := cnt_app f p k (64 - p - k)
  rw [show p + (64 - p) = 64 by omega, Nat.zero_add] at e1 e3
  rw [show k + (64 - p - k) = 64 - p by omega] at e2 e4
  have c1 : cntM (fillI f p k (-1)) 0 p = cntM f 0 p := cnt_congr p (fun j h1 h2 => by unfold fillI; rw [if_neg (by omega)])
  have c2 : cntM (fillI f p k (-1)) p k = 0 := cnt_none k (fun j h1 h2 => by unfold fillI; rw [if_pos ⟨h1, h2⟩])
  have c3 : cntM (fillI f p k (-1)) (p + k) (64 - p - k) = cntM f (p + k) (64 - p - k) := cnt_congr _ (fun j h1 h2 => by unfold fillI; rw [if_neg (by omega)])
  omega
theorem nI_ofr {x : Int32} {lo hi : Nat} (h1 : (lo : Int) ≤ x.toInt) (h2 : x.toInt ≤ (hi : Int)) (hh : hi < 2 ^ 31) : ∃ k : Nat, x = nI k ∧ lo ≤ k ∧ k ≤ hi := by
  obtain ⟨j, hj, rfl⟩ := nI_of (x := x) (by rw [Int32.lt_iff_toInt_lt, t0]; omega)
  rw [nI_toInt hj] at h1 h2
  exact ⟨j, rfl, by omega, by omega⟩
theorem apW_lt {t : Nat → Nat} (ht : ∀ j, t j < 256) (z : Nat) (w : Int64) : ∀ k j, apW t z w k j < 256
  | 0, j => ht j
  | k + 1, j => upN_lt (apW_lt ht z w k) _ (wby_lt w k) j
theorem fill_lt {t : Nat → Nat} (ht : ∀ j, t j < 256) (a k : Nat) : ∀ j, fillN t a k 0 j < 256 := by
  intro j; unfold fillN; split
  · decide
  · exact ht j
theorem u1_lt {b : Nat → Nat} (hb : ∀ j, b j < 256) (p : Nat) (v : Int32) : ∀ j, u1 b p v j < 256 := upN_lt hb _ (byt_lt v 0)
theorem u2_lt {b : Nat → Nat} (hb : ∀ j, b j < 256) (p : Nat) (v : Int32) : ∀ j, u2 b p v j < 256 := upN_lt (upN_lt hb _ (byt_lt v 0)) _ (byt_lt v 1)
theorem u4_lt {b : Nat → Nat} (hb : ∀ j, b j < 256) (p : Nat) (v : Int32) : ∀ j, u4 b p v j < 256 := upN_lt (upN_lt (upN_lt (upN_lt hb _ (byt_lt v 0)) _ (byt_lt v 1)) _ (byt_lt v 2)) _ (byt_lt v 3)

set_option maxRecDepth 100000 in
set_option maxHeartbeats 4000000 in
theorem s_add (w : Int64) {x : Int32} : StepI m_L_add m_M_add [.long w, .int x] := by
  intro f X cs hI hK
  obtain ⟨t, z, b, rf, fp, le, lp, lb, il⟩ := X
  obtain ⟨ht, hz, hb, hr, hf, hc⟩ := hI
  simp only at ht hz hb hr hc
  by_cases h1 : 1 ≤ x.toInt ∧ x.toInt ≤ 8
  · obtain ⟨k, hk, h2, h3⟩ := nI_ofr (lo := 1) (hi := 8) h1.1 h1.2 (by decide)
    by_cases h4 : z + k ≤ 900
    · refine ⟨nI (z + k), ((apW t z w k), z + k, b, rf, fp, le, lp, lb, il), ⟨(apW_lt ht z w k), h4, hb, hr, hf, hc⟩, ?_, ?_⟩
      · obtain ⟨sc, ifp, ib, ie, pw, dh, rl, rb, re, sy, sb, rc, sg, mth, msn, mwn, mba, mdy, mfa, mbg, mhd, mkn, mfo, mfi, mmy, mwa, mmp, mrg, hR, rfl⟩ := hK
        exact (c_L_add_C w hk h2 h3 h4).mono (fun r cs' hp => by obtain ⟨rfl, rfl⟩ := hp; exact ⟨rfl, ⟨_, _, _, _, _, _, _, _, _, _, _, _, _, _, _, _, _, _, _, _, _, _, _, _, _, _, _, _, hR, rfl⟩⟩)
      · intro cs1 hK1
        obtain ⟨sc, ifp, ib, ie, pw, dh, rl, rb, re, sy, sb, rc, sg, mth, msn, mwn, mba, mdy, mfa, mbg, mhd, mkn, mfo, mfi, mmy, mwa, mmp, mrg, hR, rfl⟩ := hK1
        exact (c_M_add_C w hk h2 h3 h4).mono (fun r cs' hp => by obtain ⟨rfl, rfl⟩ := hp; exact ⟨rfl, ⟨_, _, _, _, _, _, _, _, _, _, _, _, _, _, _, _, _, _, _, _, _, _, _, _, _, _, _, _, hR, rfl⟩⟩)
    · refine ⟨-3, (t, z, b, rf, fp, le, lp, lb, il), ⟨ht, hz, hb, hr, hf, hc⟩, ?_, ?_⟩
      · obtain ⟨sc, ifp, ib, ie, pw, dh, rl, rb, re, sy, sb, rc, sg, mth, msn, mwn, mba, mdy, mfa, mbg, mhd, mkn, mfo, mfi, mmy, mwa, mmp, mrg, hR, rfl⟩ := hK
        exact (c_L_add_B w hz hk h2 h3 (by omega)).mono (fun r cs' hp => by obtain ⟨rfl, rfl⟩ := hp; exact ⟨rfl, ⟨_, _, _, _, _, _, _, _, _, _, _, _, _, _, _, _, _, _, _, _, _, _, _, _, _, _, _, _, hR, rfl⟩⟩)
      · intro cs1 hK1
        obtain ⟨sc, ifp, ib, ie, pw, dh, rl, rb, re, sy, sb, rc, sg, mth, msn, mwn, mba, mdy, mfa, mbg, mhd, mkn, mfo, mfi, mmy, mwa, mmp, mrg, hR, rfl⟩ := hK1
        exact (c_M_add_B w hz hk h2 h3 (by omega)).mono (fun r cs' hp => by obtain ⟨rfl, rfl⟩ := hp; exact ⟨rfl, ⟨_, _, _, _, _, _, _, _, _, _, _, _, _, _, _, _, _, _, _, _, _, _, _, _, _, _, _, _, hR, rfl⟩⟩)
  · refine ⟨-2, (t, z, b, rf, fp, le, lp, lb, il), ⟨ht, hz, hb, hr, hf, hc⟩, ?_, ?_⟩
    · obtain ⟨sc, ifp, ib, ie, pw, dh, rl, rb, re, sy, sb, rc, sg, mth, msn, mwn, mba, mdy, mfa, mbg, mhd, mkn, mfo, mfi, mmy, mwa, mmp, mrg, hR, rfl⟩ := hK
      exact (c_L_add_A w h1).mono (fun r cs' hp => by obtain ⟨rfl, rfl⟩ := hp; exact ⟨rfl, ⟨_, _, _, _, _, _, _, _, _, _, _, _, _, _, _, _, _, _, _, _, _, _, _, _, _, _, _, _, hR, rfl⟩⟩)
    · intro cs1 hK1
      obtain ⟨sc, ifp, ib, ie, pw, dh, rl, rb, re, sy, sb, rc, sg, mth, msn, mwn, mba, mdy, mfa, mbg, mhd, mkn, mfo, mfi, mmy, mwa, mmp, mrg, hR, rfl⟩ := hK1
      exact (c_M_add_A w h1).mono (fun r cs' hp => by obtain ⟨rfl, rfl⟩ := hp; exact ⟨rfl, ⟨_, _, _, _, _, _, _, _, _, _, _, _, _, _, _, _, _, _, _, _, _, _, _, _, _, _, _, _, hR, rfl⟩⟩)
set_option maxRecDepth 100000 in
set_option maxHeartbeats 4000000 in
theorem s_zeros {x : Int32} : StepI m_L_zeros m_M_zeros [.int x] := by
  intro f X cs hI hK
  obtain ⟨t, z, b, rf, fp, le, lp, lb, il⟩ := X
  obtain ⟨ht, hz, hb, hr, hf, hc⟩ := hI
  simp only at ht hz hb hr hc
  by_cases h1 : 1 ≤ x.toInt ∧ x.toInt ≤ 900
  · obtain ⟨k, hk, h2, h3⟩ := nI_ofr (lo := 1) (hi := 900) h1.1 h1.2 (by decide)
    by_cases h4 : z + k ≤ 900
    · refine ⟨nI (z + k), ((fillN t z k 0), z + k, b, rf, fp, le, lp, lb, il), ⟨(fill_lt ht z k), h4, hb, hr, hf, hc⟩, ?_, ?_⟩
      · obtain ⟨sc, ifp, ib, ie, pw, dh, rl, rb, re, sy, sb, rc, sg, mth, msn, mwn, mba, mdy, mfa, mbg, mhd, mkn, mfo, mfi, mmy, mwa, mmp, mrg, hR, rfl⟩ := hK
        exact (c_L_zeros_C hk h2 h3 h4).mono (fun r cs' hp => by obtain ⟨rfl, rfl⟩ := hp; exact ⟨rfl, ⟨_, _, _, _, _, _, _, _, _, _, _, _, _, _, _, _, _, _, _, _, _, _, _, _, _, _, _, _, hR, rfl⟩⟩)
      · intro cs1 hK1
        obtain ⟨sc, ifp, ib, ie, pw, dh, rl, rb, re, sy, sb, rc, sg, mth, msn, mwn, mba, mdy, mfa, mbg, mhd, mkn, mfo, mfi, mmy, mwa, mmp, mrg, hR, rfl⟩ := hK1
        exact (c_M_zeros_C hk h2 h3 h4).mono (fun r cs' hp => by obtain ⟨rfl, rfl⟩ := hp; exact ⟨rfl, ⟨_, _, _, _, _, _, _, _, _, _, _, _, _, _, _, _, _, _, _, _, _, _, _, _, _, _, _, _, hR, rfl⟩⟩)
    · refine ⟨-3, (t, z, b, rf, fp, le, lp, lb, il), ⟨ht, hz, hb, hr, hf, hc⟩, ?_, ?_⟩
      · obtain ⟨sc, ifp, ib, ie, pw, dh, rl, rb, re, sy, sb, rc, sg, mth, msn, mwn, mba, mdy, mfa, mbg, mhd, mkn, mfo, mfi, mmy, mwa, mmp, mrg, hR, rfl⟩ := hK
        exact (c_L_zeros_B hz hk h2 h3 (by omega)).mono (fun r cs' hp => by obtain ⟨rfl, rfl⟩ := hp; exact ⟨rfl, ⟨_, _, _, _, _, _, _, _, _, _, _, _, _, _, _, _, _, _, _, _, _, _, _, _, _, _, _, _, hR, rfl⟩⟩)
      · intro cs1 hK1
        obtain ⟨sc, ifp, ib, ie, pw, dh, rl, rb, re, sy, sb, rc, sg, mth, msn, mwn, mba, mdy, mfa, mbg, mhd, mkn, mfo, mfi, mmy, mwa, mmp, mrg, hR, rfl⟩ := hK1
        exact (c_M_zeros_B hz hk h2 h3 (by omega)).mono (fun r cs' hp => by obtain ⟨rfl, rfl⟩ := hp; exact ⟨rfl, ⟨_, _, _, _, _, _, _, _, _, _, _, _, _, _, _, _, _, _, _, _, _, _, _, _, _, _, _, _, hR, rfl⟩⟩)
  · refine ⟨-2, (t, z, b, rf, fp, le, lp, lb, il), ⟨ht, hz, hb, hr, hf, hc⟩, ?_, ?_⟩
    · obtain ⟨sc, ifp, ib, ie, pw, dh, rl, rb, re, sy, sb, rc, sg, mth, msn, mwn, mba, mdy, mfa, mbg, mhd, mkn, mfo, mfi, mmy, mwa, mmp, mrg, hR, rfl⟩ := hK
      exact (c_L_zeros_A h1).mono (fun r cs' hp => by obtain ⟨rfl, rfl⟩ := hp; exact ⟨rfl, ⟨_, _, _, _, _, _, _, _, _, _, _, _, _, _, _, _, _, _, _, _, _, _, _, _, _, _, _, _, hR, rfl⟩⟩)
    · intro cs1 hK1
      obtain ⟨sc, ifp, ib, ie, pw, dh, rl, rb, re, sy, sb, rc, sg, mth, msn, mwn, mba, mdy, mfa, mbg, mhd, mkn, mfo, mfi, mmy, mwa, mmp, mrg, hR, rfl⟩ := hK1
      exact (c_M_zeros_A h1).mono (fun r cs' hp => by obtain ⟨rfl, rfl⟩ := hp; exact ⟨rfl, ⟨_, _, _, _, _, _, _, _, _, _, _, _, _, _, _, _, _, _, _, _, _, _, _, _, _, _, _, _, hR, rfl⟩⟩)
set_option maxRecDepth 100000 in
set_option maxHeartbeats 4000000 in
theorem s_poke {x y v : Int32} : StepI m_L_poke m_M_poke [.int x, .int y, .int v] := by
  intro f X cs hI hK
  obtain ⟨t, z, b, rf, fp, le, lp, lb, il⟩ := X
  obtain ⟨ht, hz, hb, hr, hf, hc⟩ := hI
  simp only at ht hz hb hr hc
  by_cases h1 : (y.toInt = 1 ∨ y.toInt = 2 ∨ y.toInt = 4) ∧ 0 ≤ x.toInt ∧ x.toInt + y.toInt ≤ (z : Int)
  · obtain ⟨hy, h2, h3⟩ := h1
    obtain ⟨p, hp, -, hp2⟩ := nI_ofr (x := x) (lo := 0) (hi := 900) (by omega) (by omega) (by decide)
    rw [nI_ret (lo := 0) (hi := 0) hp (by omega)] at h3
    rcases hy with h | h | h
    · obtain rfl : y = 1 := Int32.toInt_inj.mp (by rw [h]; decide)
      refine ⟨0, (u1 t p v, z, b, rf, fp, le, lp, lb, il), ⟨u1_lt ht p v, hz, hb, hr, hf, hc⟩, ?_, ?_⟩
      · obtain ⟨sc, ifp, ib, ie, pw, dh, rl, rb, re, sy, sb, rc, sg, mth, msn, mwn, mba, mdy, mfa, mbg, mhd, mkn, mfo, mfi, mmy, mwa, mmp, mrg, hR, rfl⟩ := hK
        exact (c_L_poke_1 hz hp (by omega)).mono (fun r cs' hp => by obtain ⟨rfl, rfl⟩ := hp; exact ⟨rfl, ⟨_, _, _, _, _, _, _, _, _, _, _, _, _, _, _, _, _, _, _, _, _, _, _, _, _, _, _, _, hR, rfl⟩⟩)
      · intro cs1 hK1
        obtain ⟨sc, ifp, ib, ie, pw, dh, rl, rb, re, sy, sb, rc, sg, mth, msn, mwn, mba, mdy, mfa, mbg, mhd, mkn, mfo, mfi, mmy, mwa, mmp, mrg, hR, rfl⟩ := hK1
        exact (c_M_poke_1 hz hp (by omega)).mono (fun r cs' hp => by obtain ⟨rfl, rfl⟩ := hp; exact ⟨rfl, ⟨_, _, _, _, _, _, _, _, _, _, _, _, _, _, _, _, _, _, _, _, _, _, _, _, _, _, _, _, hR, rfl⟩⟩)
    · obtain rfl : y = 2 := Int32.toInt_inj.mp (by rw [h]; decide)
      refine ⟨0, (u2 t p v, z, b, rf, fp, le, lp, lb, il), ⟨u2_lt ht p v, hz, hb, hr, hf, hc⟩, ?_, ?_⟩
      · obtain ⟨sc, ifp, ib, ie, pw, dh, rl, rb, re, sy, sb, rc, sg, mth, msn, mwn, mba, mdy, mfa, mbg, mhd, mkn, mfo, mfi, mmy, mwa, mmp, mrg, hR, rfl⟩ := hK
        exact (c_L_poke_2 hz hp (by omega)).mono (fun r cs' hp => by obtain ⟨rfl, rfl⟩ := hp; exact ⟨rfl, ⟨_, _, _, _, _, _, _, _, _, _, _, _, _, _, _, _, _, _, _, _, _, _, _, _, _, _, _, _, hR, rfl⟩⟩)
      · intro cs1 hK1
        obtain ⟨sc, ifp, ib, ie, pw, dh, rl, rb, re, sy, sb, rc, sg, mth, msn, mwn, mba, mdy, mfa, mbg, mhd, mkn, mfo, mfi, mmy, mwa, mmp, mrg, hR, rfl⟩ := hK1
        exact (c_M_poke_2 hz hp (by omega)).mono (fun r cs' hp => by obtain ⟨rfl, rfl⟩ := hp; exact ⟨rfl, ⟨_, _, _, _, _, _, _, _, _, _, _, _, _, _, _, _, _, _, _, _, _, _, _, _, _, _, _, _, hR, rfl⟩⟩)
    · obtain rfl : y = 4 := Int32.toInt_inj.mp (by rw [h]; decide)
      refine ⟨0, (u4 t p v, z, b, rf, fp, le, lp, lb, il), ⟨u4_lt ht p v, hz, hb, hr, hf, hc⟩, ?_, ?_⟩
      · obtain ⟨sc, ifp, ib, ie, pw, dh, rl, rb, re, sy, sb, rc, sg, mth, msn, mwn, mba, mdy, mfa, mbg, mhd, mkn, mfo, mfi, mmy, mwa, mmp, mrg, hR, rfl⟩ := hK
        exact (c_L_poke_4 hz hp (by omega)).mono (fun r cs' hp => by obtain ⟨rfl, rfl⟩ := hp; exact ⟨rfl, ⟨_, _, _, _, _, _, _, _, _, _, _, _, _, _, _, _, _, _, _, _, _, _, _, _, _, _, _, _, hR, rfl⟩⟩)
      · intro cs1 hK1
        obtain ⟨sc, ifp, ib, ie, pw, dh, rl, rb, re, sy, sb, rc, sg, mth, msn, mwn, mba, mdy, mfa, mbg, mhd, mkn, mfo, mfi, mmy, mwa, mmp, mrg, hR, rfl⟩ := hK1
        exact (c_M_poke_4 hz hp (by omega)).mono (fun r cs' hp => by obtain ⟨rfl, rfl⟩ := hp; exact ⟨rfl, ⟨_, _, _, _, _, _, _, _, _, _, _, _, _, _, _, _, _, _, _, _, _, _, _, _, _, _, _, _, hR, rfl⟩⟩)
  · refine ⟨-2, (t, z, b, rf, fp, le, lp, lb, il), ⟨ht, hz, hb, hr, hf, hc⟩, ?_, ?_⟩
    · obtain ⟨sc, ifp, ib, ie, pw, dh, rl, rb, re, sy, sb, rc, sg, mth, msn, mwn, mba, mdy, mfa, mbg, mhd, mkn, mfo, mfi, mmy, mwa, mmp, mrg, hR, rfl⟩ := hK
      exact (c_L_poke_A hz h1).mono (fun r cs' hp => by obtain ⟨rfl, rfl⟩ := hp; exact ⟨rfl, ⟨_, _, _, _, _, _, _, _, _, _, _, _, _, _, _, _, _, _, _, _, _, _, _, _, _, _, _, _, hR, rfl⟩⟩)
    · intro cs1 hK1
      obtain ⟨sc, ifp, ib, ie, pw, dh, rl, rb, re, sy, sb, rc, sg, mth, msn, mwn, mba, mdy, mfa, mbg, mhd, mkn, mfo, mfi, mmy, mwa, mmp, mrg, hR, rfl⟩ := hK1
      exact (c_M_poke_A hz h1).mono (fun r cs' hp => by obtain ⟨rfl, rfl⟩ := hp; exact ⟨rfl, ⟨_, _, _, _, _, _, _, _, _, _, _, _, _, _, _, _, _, _, _, _, _, _, _, _, _, _, _, _, hR, rfl⟩⟩)
set_option maxRecDepth 100000 in
set_option maxHeartbeats 4000000 in
theorem s_peek {x : Int32} : StepI m_L_peek m_M_peek [.int x] := by
  intro f X cs hI hK
  obtain ⟨t, z, b, rf, fp, le, lp, lb, il⟩ := X
  obtain ⟨ht, hz, hb, hr, hf, hc⟩ := hI
  simp only at ht hz hb hr hc
  by_cases h1 : 0 ≤ x.toInt ∧ x.toInt < (z : Int)
  · obtain ⟨p, hp, -, hp2⟩ := nI_ofr (x := x) (lo := 0) (hi := 900) (by omega) (by omega) (by decide)
    rw [nI_ret (lo := 0) (hi := 0) hp (by omega)] at h1
    refine ⟨nI (t p), (t, z, b, rf, fp, le, lp, lb, il), ⟨ht, hz, hb, hr, hf, hc⟩, ?_, ?_⟩
    · obtain ⟨sc, ifp, ib, ie, pw, dh, rl, rb, re, sy, sb, rc, sg, mth, msn, mwn, mba, mdy, mfa, mbg, mhd, mkn, mfo, mfi, mmy, mwa, mmp, mrg, hR, rfl⟩ := hK
      exact (c_L_peek_B ht hz hp (by omega)).mono (fun r cs' hp => by obtain ⟨rfl, rfl⟩ := hp; exact ⟨rfl, ⟨_, _, _, _, _, _, _, _, _, _, _, _, _, _, _, _, _, _, _, _, _, _, _, _, _, _, _, _, hR, rfl⟩⟩)
    · intro cs1 hK1
      obtain ⟨sc, ifp, ib, ie, pw, dh, rl, rb, re, sy, sb, rc, sg, mth, msn, mwn, mba, mdy, mfa, mbg, mhd, mkn, mfo, mfi, mmy, mwa, mmp, mrg, hR, rfl⟩ := hK1
      exact (c_M_peek_B hz hp (by omega)).mono (fun r cs' hp => by obtain ⟨rfl, rfl⟩ := hp; exact ⟨rfl, ⟨_, _, _, _, _, _, _, _, _, _, _, _, _, _, _, _, _, _, _, _, _, _, _, _, _, _, _, _, hR, rfl⟩⟩)
  · refine ⟨-1, (t, z, b, rf, fp, le, lp, lb, il), ⟨ht, hz, hb, hr, hf, hc⟩, ?_, ?_⟩
    · obtain ⟨sc, ifp, ib, ie, pw, dh, rl, rb, re, sy, sb, rc, sg, mth, msn, mwn, mba, mdy, mfa, mbg, mhd, mkn, mfo, mfi, mmy, mwa, mmp, mrg, hR, rfl⟩ := hK
      exact (c_L_peek_A hz h1).mono (fun r cs' hp => by obtain ⟨rfl, rfl⟩ := hp; exact ⟨rfl, ⟨_, _, _, _, _, _, _, _, _, _, _, _, _, _, _, _, _, _, _, _, _, _, _, _, _, _, _, _, hR, rfl⟩⟩)
    · intro cs1 hK1
      obtain ⟨sc, ifp, ib, ie, pw, dh, rl, rb, re, sy, sb, rc, sg, mth, msn, mwn, mba, mdy, mfa, mbg, mhd, mkn, mfo, mfi, mmy, mwa, mmp, mrg, hR, rfl⟩ := hK1
      exact (c_M_peek_A hz h1).mono (fun r cs' hp => by obtain ⟨rfl, rfl⟩ := hp; exact ⟨rfl, ⟨_, _, _, _, _, _, _, _, _, _, _, _, _, _, _, _, _, _, _, _, _, _, _, _, _, _, _, _, hR, rfl⟩⟩)
set_option maxRecDepth 100000 in
set_option maxHeartbeats 4000000 in
theorem s_cut {x : Int32} : StepI m_L_cut m_M_cut [.int x] := by
  intro f X cs hI hK
  obtain ⟨t, z, b, rf, fp, le, lp, lb, il⟩ := X
  obtain ⟨ht, hz, hb, hr, hf, hc⟩ := hI
  simp only at ht hz hb hr hc
  by_cases h1 : 0 ≤ x.toInt ∧ x.toInt ≤ (z : Int)
  · obtain ⟨p, hp, -, hp2⟩ := nI_ofr (x := x) (lo := 0) (hi := 900) (by omega) (by omega) (by decide)
    rw [nI_ret (lo := 0) (hi := 0) hp (by omega)] at h1
    refine ⟨nI (z - p), (t, p, b, rf, fp, le, lp, lb, il), ⟨ht, by simp only; omega, hb, hr, hf, hc⟩, ?_, ?_⟩
    · obtain ⟨sc, ifp, ib, ie, pw, dh, rl, rb, re, sy, sb, rc, sg, mth, msn, mwn, mba, mdy, mfa, mbg, mhd, mkn, mfo, mfi, mmy, mwa, mmp, mrg, hR, rfl⟩ := hK
      exact (c_L_cut_B hz hp (by omega)).mono (fun r cs' hp => by obtain ⟨rfl, rfl⟩ := hp; exact ⟨rfl, ⟨_, _, _, _, _, _, _, _, _, _, _, _, _, _, _, _, _, _, _, _, _, _, _, _, _, _, _, _, hR, rfl⟩⟩)
    · intro cs1 hK1
      obtain ⟨sc, ifp, ib, ie, pw, dh, rl, rb, re, sy, sb, rc, sg, mth, msn, mwn, mba, mdy, mfa, mbg, mhd, mkn, mfo, mfi, mmy, mwa, mmp, mrg, hR, rfl⟩ := hK1
      exact (c_M_cut_B hz hp (by omega)).mono (fun r cs' hp => by obtain ⟨rfl, rfl⟩ := hp; exact ⟨rfl, ⟨_, _, _, _, _, _, _, _, _, _, _, _, _, _, _, _, _, _, _, _, _, _, _, _, _, _, _, _, hR, rfl⟩⟩)
  · refine ⟨-2, (t, z, b, rf, fp, le, lp, lb, il), ⟨ht, hz, hb, hr, hf, hc⟩, ?_, ?_⟩
    · obtain ⟨sc, ifp, ib, ie, pw, dh, rl, rb, re, sy, sb, rc, sg, mth, msn, mwn, mba, mdy, mfa, mbg, mhd, mkn, mfo, mfi, mmy, mwa, mmp, mrg, hR, rfl⟩ := hK
      exact (c_L_cut_A hz h1).mono (fun r cs' hp => by obtain ⟨rfl, rfl⟩ := hp; exact ⟨rfl, ⟨_, _, _, _, _, _, _, _, _, _, _, _, _, _, _, _, _, _, _, _, _, _, _, _, _, _, _, _, hR, rfl⟩⟩)
    · intro cs1 hK1
      obtain ⟨sc, ifp, ib, ie, pw, dh, rl, rb, re, sy, sb, rc, sg, mth, msn, mwn, mba, mdy, mfa, mbg, mhd, mkn, mfo, mfi, mmy, mwa, mmp, mrg, hR, rfl⟩ := hK1
      exact (c_M_cut_A hz h1).mono (fun r cs' hp => by obtain ⟨rfl, rfl⟩ := hp; exact ⟨rfl, ⟨_, _, _, _, _, _, _, _, _, _, _, _, _, _, _, _, _, _, _, _, _, _, _, _, _, _, _, _, hR, rfl⟩⟩)
set_option maxRecDepth 100000 in
set_option maxHeartbeats 4000000 in
theorem s_told {x : Int32} : StepI m_L_told m_M_told [.int x] := by
  intro f X cs hI hK
  obtain ⟨t, z, b, rf, fp, le, lp, lb, il⟩ := X
  obtain ⟨ht, hz, hb, hr, hf, hc⟩ := hI
  simp only at ht hz hb hr hc
  by_cases h1 : x.toInt < 0 ∨ 3 < x.toInt
  · refine ⟨-2, (t, z, b, rf, fp, le, lp, lb, il), ⟨ht, hz, hb, hr, hf, hc⟩, ?_, ?_⟩
    · obtain ⟨sc, ifp, ib, ie, pw, dh, rl, rb, re, sy, sb, rc, sg, mth, msn, mwn, mba, mdy, mfa, mbg, mhd, mkn, mfo, mfi, mmy, mwa, mmp, mrg, hR, rfl⟩ := hK
      exact (c_L_told_A h1).mono (fun r cs' hp => by obtain ⟨rfl, rfl⟩ := hp; exact ⟨rfl, ⟨_, _, _, _, _, _, _, _, _, _, _, _, _, _, _, _, _, _, _, _, _, _, _, _, _, _, _, _, hR, rfl⟩⟩)
    · intro cs1 hK1
      obtain ⟨sc, ifp, ib, ie, pw, dh, rl, rb, re, sy, sb, rc, sg, mth, msn, mwn, mba, mdy, mfa, mbg, mhd, mkn, mfo, mfi, mmy, mwa, mmp, mrg, hR, rfl⟩ := hK1
      exact (c_M_told_A h1).mono (fun r cs' hp => by obtain ⟨rfl, rfl⟩ := hp; exact ⟨rfl, ⟨_, _, _, _, _, _, _, _, _, _, _, _, _, _, _, _, _, _, _, _, _, _, _, _, _, _, _, _, hR, rfl⟩⟩)
  · have h2 : x.toInt = 0 ∨ x.toInt = 1 ∨ x.toInt = 2 ∨ x.toInt = 3 := by omega
    rcases h2 with h | h | h | h
    · obtain rfl : x = 0 := Int32.toInt_inj.mp (by rw [h]; decide)
      refine ⟨fp, (t, z, b, rf, fp, le, lp, lb, il), ⟨ht, hz, hb, hr, hf, hc⟩, ?_, ?_⟩
      · obtain ⟨sc, ifp, ib, ie, pw, dh, rl, rb, re, sy, sb, rc, sg, mth, msn, mwn, mba, mdy, mfa, mbg, mhd, mkn, mfo, mfi, mmy, mwa, mmp, mrg, hR, rfl⟩ := hK
        exact (c_L_told_0).mono (fun r cs' hp => by obtain ⟨rfl, rfl⟩ := hp; exact ⟨rfl, ⟨_, _, _, _, _, _, _, _, _, _, _, _, _, _, _, _, _, _, _, _, _, _, _, _, _, _, _, _, hR, rfl⟩⟩)
      · intro cs1 hK1
        obtain ⟨sc, ifp, ib, ie, pw, dh, rl, rb, re, sy, sb, rc, sg, mth, msn, mwn, mba, mdy, mfa, mbg, mhd, mkn, mfo, mfi, mmy, mwa, mmp, mrg, hR, rfl⟩ := hK1
        exact (c_M_told_0).mono (fun r cs' hp => by obtain ⟨rfl, rfl⟩ := hp; exact ⟨rfl, ⟨_, _, _, _, _, _, _, _, _, _, _, _, _, _, _, _, _, _, _, _, _, _, _, _, _, _, _, _, hR, rfl⟩⟩)
    · obtain rfl : x = 1 := Int32.toInt_inj.mp (by rw [h]; decide)
      refine ⟨le, (t, z, b, rf, fp, le, lp, lb, il), ⟨ht, hz, hb, hr, hf, hc⟩, ?_, ?_⟩
      · obtain ⟨sc, ifp, ib, ie, pw, dh, rl, rb, re, sy, sb, rc, sg, mth, msn, mwn, mba, mdy, mfa, mbg, mhd, mkn, mfo, mfi, mmy, mwa, mmp, mrg, hR, rfl⟩ := hK
        exact (c_L_told_1).mono (fun r cs' hp => by obtain ⟨rfl, rfl⟩ := hp; exact ⟨rfl, ⟨_, _, _, _, _, _, _, _, _, _, _, _, _, _, _, _, _, _, _, _, _, _, _, _, _, _, _, _, hR, rfl⟩⟩)
      · intro cs1 hK1
        obtain ⟨sc, ifp, ib, ie, pw, dh, rl, rb, re, sy, sb, rc, sg, mth, msn, mwn, mba, mdy, mfa, mbg, mhd, mkn, mfo, mfi, mmy, mwa, mmp, mrg, hR, rfl⟩ := hK1
        exact (c_M_told_1).mono (fun r cs' hp => by obtain ⟨rfl, rfl⟩ := hp; exact ⟨rfl, ⟨_, _, _, _, _, _, _, _, _, _, _, _, _, _, _, _, _, _, _, _, _, _, _, _, _, _, _, _, hR, rfl⟩⟩)
    · obtain rfl : x = 2 := Int32.toInt_inj.mp (by rw [h]; decide)
      refine ⟨lp, (t, z, b, rf, fp, le, lp, lb, il), ⟨ht, hz, hb, hr, hf, hc⟩, ?_, ?_⟩
      · obtain ⟨sc, ifp, ib, ie, pw, dh, rl, rb, re, sy, sb, rc, sg, mth, msn, mwn, mba, mdy, mfa, mbg, mhd, mkn, mfo, mfi, mmy, mwa, mmp, mrg, hR, rfl⟩ := hK
        exact (c_L_told_2).mono (fun r cs' hp => by obtain ⟨rfl, rfl⟩ := hp; exact ⟨rfl, ⟨_, _, _, _, _, _, _, _, _, _, _, _, _, _, _, _, _, _, _, _, _, _, _, _, _, _, _, _, hR, rfl⟩⟩)
      · intro cs1 hK1
        obtain ⟨sc, ifp, ib, ie, pw, dh, rl, rb, re, sy, sb, rc, sg, mth, msn, mwn, mba, mdy, mfa, mbg, mhd, mkn, mfo, mfi, mmy, mwa, mmp, mrg, hR, rfl⟩ := hK1
        exact (c_M_told_2).mono (fun r cs' hp => by obtain ⟨rfl, rfl⟩ := hp; exact ⟨rfl, ⟨_, _, _, _, _, _, _, _, _, _, _, _, _, _, _, _, _, _, _, _, _, _, _, _, _, _, _, _, hR, rfl⟩⟩)
    · obtain rfl : x = 3 := Int32.toInt_inj.mp (by rw [h]; decide)
      refine ⟨lb, (t, z, b, rf, fp, le, lp, lb, il), ⟨ht, hz, hb, hr, hf, hc⟩, ?_, ?_⟩
      · obtain ⟨sc, ifp, ib, ie, pw, dh, rl, rb, re, sy, sb, rc, sg, mth, msn, mwn, mba, mdy, mfa, mbg, mhd, mkn, mfo, mfi, mmy, mwa, mmp, mrg, hR, rfl⟩ := hK
        exact (c_L_told_3).mono (fun r cs' hp => by obtain ⟨rfl, rfl⟩ := hp; exact ⟨rfl, ⟨_, _, _, _, _, _, _, _, _, _, _, _, _, _, _, _, _, _, _, _, _, _, _, _, _, _, _, _, hR, rfl⟩⟩)
      · intro cs1 hK1
        obtain ⟨sc, ifp, ib, ie, pw, dh, rl, rb, re, sy, sb, rc, sg, mth, msn, mwn, mba, mdy, mfa, mbg, mhd, mkn, mfo, mfi, mmy, mwa, mmp, mrg, hR, rfl⟩ := hK1
        exact (c_M_told_3).mono (fun r cs' hp => by obtain ⟨rfl, rfl⟩ := hp; exact ⟨rfl, ⟨_, _, _, _, _, _, _, _, _, _, _, _, _, _, _, _, _, _, _, _, _, _, _, _, _, _, _, _, hR, rfl⟩⟩)
set_option maxRecDepth 100000 in
set_option maxHeartbeats 4000000 in
theorem s_count {x : Int32} : StepI m_L_count m_M_count [.int x] := by
  intro f X cs hI hK
  obtain ⟨t, z, b, rf, fp, le, lp, lb, il⟩ := X
  obtain ⟨ht, hz, hb, hr, hf, hc⟩ := hI
  simp only at ht hz hb hr hc
  by_cases h1 : x.toInt < 0 ∨ 6 < x.toInt
  · refine ⟨-2, (t, z, b, rf, fp, le, lp, lb, il), ⟨ht, hz, hb, hr, hf, hc⟩, ?_, ?_⟩
    · obtain ⟨sc, ifp, ib, ie, pw, dh, rl, rb, re, sy, sb, rc, sg, mth, msn, mwn, mba, mdy, mfa, mbg, mhd, mkn, mfo, mfi, mmy, mwa, mmp, mrg, hR, rfl⟩ := hK
      exact (c_L_count_A h1).mono (fun r cs' hp => by obtain ⟨rfl, rfl⟩ := hp; exact ⟨rfl, ⟨_, _, _, _, _, _, _, _, _, _, _, _, _, _, _, _, _, _, _, _, _, _, _, _, _, _, _, _, hR, rfl⟩⟩)
    · intro cs1 hK1
      obtain ⟨sc, ifp, ib, ie, pw, dh, rl, rb, re, sy, sb, rc, sg, mth, msn, mwn, mba, mdy, mfa, mbg, mhd, mkn, mfo, mfi, mmy, mwa, mmp, mrg, hR, rfl⟩ := hK1
      exact (c_M_count_A h1).mono (fun r cs' hp => by obtain ⟨rfl, rfl⟩ := hp; exact ⟨rfl, ⟨_, _, _, _, _, _, _, _, _, _, _, _, _, _, _, _, _, _, _, _, _, _, _, _, _, _, _, _, hR, rfl⟩⟩)
  · have h2 : x.toInt = 0 ∨ x.toInt = 1 ∨ x.toInt = 2 ∨ x.toInt = 3 ∨ x.toInt = 4 ∨ x.toInt = 5 ∨ x.toInt = 6 := by omega
    rcases h2 with h | h | h | h | h | h | h
    · obtain rfl : x = 0 := Int32.toInt_inj.mp (by rw [h]; decide)
      refine ⟨nI (cntM rf 0 64), (t, z, b, rf, fp, le, lp, lb, il), ⟨ht, hz, hb, hr, hf, hc⟩, ?_, ?_⟩
      · obtain ⟨sc, ifp, ib, ie, pw, dh, rl, rb, re, sy, sb, rc, sg, mth, msn, mwn, mba, mdy, mfa, mbg, mhd, mkn, mfo, mfi, mmy, mwa, mmp, mrg, hR, rfl⟩ := hK
        exact (c_L_count_0).mono (fun r cs' hp => by obtain ⟨rfl, rfl⟩ := hp; exact ⟨rfl, ⟨_, _, _, _, _, _, _, _, _, _, _, _, _, _, _, _, _, _, _, _, _, _, _, _, _, _, _, _, hR, rfl⟩⟩)
      · intro cs1 hK1
        obtain ⟨sc, ifp, ib, ie, pw, dh, rl, rb, re, sy, sb, rc, sg, mth, msn, mwn, mba, mdy, mfa, mbg, mhd, mkn, mfo, mfi, mmy, mwa, mmp, mrg, hR, rfl⟩ := hK1
        exact (c_M_count_0 hR).mono (fun r cs' hp => by obtain ⟨rfl, rfl⟩ := hp; exact ⟨rfl, ⟨_, _, _, _, _, _, _, _, _, _, _, _, _, _, _, _, _, _, _, _, _, _, _, _, _, _, _, _, hR, rfl⟩⟩)
    · obtain rfl : x = 1 := Int32.toInt_inj.mp (by rw [h]; decide)
      refine ⟨nI (pwC rf (1 : Int32) 64), (t, z, b, rf, fp, le, lp, lb, il), ⟨ht, hz, hb, hr, hf, hc⟩, ?_, ?_⟩
      · obtain ⟨sc, ifp, ib, ie, pw, dh, rl, rb, re, sy, sb, rc, sg, mth, msn, mwn, mba, mdy, mfa, mbg, mhd, mkn, mfo, mfi, mmy, mwa, mmp, mrg, hR, rfl⟩ := hK
        exact (c_L_count_1).mono (fun r cs' hp => by obtain ⟨rfl, rfl⟩ := hp; exact ⟨rfl, ⟨_, _, _, _, _, _, _, _, _, _, _, _, _, _, _, _, _, _, _, _, _, _, _, _, _, _, _, _, hR, rfl⟩⟩)
      · intro cs1 hK1
        obtain ⟨sc, ifp, ib, ie, pw, dh, rl, rb, re, sy, sb, rc, sg, mth, msn, mwn, mba, mdy, mfa, mbg, mhd, mkn, mfo, mfi, mmy, mwa, mmp, mrg, hR, rfl⟩ := hK1
        exact (c_M_count_1 hR).mono (fun r cs' hp => by obtain ⟨rfl, rfl⟩ := hp; exact ⟨rfl, ⟨_, _, _, _, _, _, _, _, _, _, _, _, _, _, _, _, _, _, _, _, _, _, _, _, _, _, _, _, hR, rfl⟩⟩)
    · obtain rfl : x = 2 := Int32.toInt_inj.mp (by rw [h]; decide)
      refine ⟨nI (pwC rf (2 : Int32) 64), (t, z, b, rf, fp, le, lp, lb, il), ⟨ht, hz, hb, hr, hf, hc⟩, ?_, ?_⟩
      · obtain ⟨sc, ifp, ib, ie, pw, dh, rl, rb, re, sy, sb, rc, sg, mth, msn, mwn, mba, mdy, mfa, mbg, mhd, mkn, mfo, mfi, mmy, mwa, mmp, mrg, hR, rfl⟩ := hK
        exact (c_L_count_2).mono (fun r cs' hp => by obtain ⟨rfl, rfl⟩ := hp; exact ⟨rfl, ⟨_, _, _, _, _, _, _, _, _, _, _, _, _, _, _, _, _, _, _, _, _, _, _, _, _, _, _, _, hR, rfl⟩⟩)
      · intro cs1 hK1
        obtain ⟨sc, ifp, ib, ie, pw, dh, rl, rb, re, sy, sb, rc, sg, mth, msn, mwn, mba, mdy, mfa, mbg, mhd, mkn, mfo, mfi, mmy, mwa, mmp, mrg, hR, rfl⟩ := hK1
        exact (c_M_count_2 hR).mono (fun r cs' hp => by obtain ⟨rfl, rfl⟩ := hp; exact ⟨rfl, ⟨_, _, _, _, _, _, _, _, _, _, _, _, _, _, _, _, _, _, _, _, _, _, _, _, _, _, _, _, hR, rfl⟩⟩)
    · obtain rfl : x = 3 := Int32.toInt_inj.mp (by rw [h]; decide)
      refine ⟨nI (pwC rf (4 : Int32) 64), (t, z, b, rf, fp, le, lp, lb, il), ⟨ht, hz, hb, hr, hf, hc⟩, ?_, ?_⟩
      · obtain ⟨sc, ifp, ib, ie, pw, dh, rl, rb, re, sy, sb, rc, sg, mth, msn, mwn, mba, mdy, mfa, mbg, mhd, mkn, mfo, mfi, mmy, mwa, mmp, mrg, hR, rfl⟩ := hK
        exact (c_L_count_3).mono (fun r cs' hp => by obtain ⟨rfl, rfl⟩ := hp; exact ⟨rfl, ⟨_, _, _, _, _, _, _, _, _, _, _, _, _, _, _, _, _, _, _, _, _, _, _, _, _, _, _, _, hR, rfl⟩⟩)
      · intro cs1 hK1
        obtain ⟨sc, ifp, ib, ie, pw, dh, rl, rb, re, sy, sb, rc, sg, mth, msn, mwn, mba, mdy, mfa, mbg, mhd, mkn, mfo, mfi, mmy, mwa, mmp, mrg, hR, rfl⟩ := hK1
        exact (c_M_count_3 hR).mono (fun r cs' hp => by obtain ⟨rfl, rfl⟩ := hp; exact ⟨rfl, ⟨_, _, _, _, _, _, _, _, _, _, _, _, _, _, _, _, _, _, _, _, _, _, _, _, _, _, _, _, hR, rfl⟩⟩)
    · obtain rfl : x = 4 := Int32.toInt_inj.mp (by rw [h]; decide)
      refine ⟨nI z, (t, z, b, rf, fp, le, lp, lb, il), ⟨ht, hz, hb, hr, hf, hc⟩, ?_, ?_⟩
      · obtain ⟨sc, ifp, ib, ie, pw, dh, rl, rb, re, sy, sb, rc, sg, mth, msn, mwn, mba, mdy, mfa, mbg, mhd, mkn, mfo, mfi, mmy, mwa, mmp, mrg, hR, rfl⟩ := hK
        exact (c_L_count_4).mono (fun r cs' hp => by obtain ⟨rfl, rfl⟩ := hp; exact ⟨rfl, ⟨_, _, _, _, _, _, _, _, _, _, _, _, _, _, _, _, _, _, _, _, _, _, _, _, _, _, _, _, hR, rfl⟩⟩)
      · intro cs1 hK1
        obtain ⟨sc, ifp, ib, ie, pw, dh, rl, rb, re, sy, sb, rc, sg, mth, msn, mwn, mba, mdy, mfa, mbg, mhd, mkn, mfo, mfi, mmy, mwa, mmp, mrg, hR, rfl⟩ := hK1
        exact (c_M_count_4 hR).mono (fun r cs' hp => by obtain ⟨rfl, rfl⟩ := hp; exact ⟨rfl, ⟨_, _, _, _, _, _, _, _, _, _, _, _, _, _, _, _, _, _, _, _, _, _, _, _, _, _, _, _, hR, rfl⟩⟩)
    · obtain rfl : x = 5 := Int32.toInt_inj.mp (by rw [h]; decide)
      refine ⟨il, (t, z, b, rf, fp, le, lp, lb, il), ⟨ht, hz, hb, hr, hf, hc⟩, ?_, ?_⟩
      · obtain ⟨sc, ifp, ib, ie, pw, dh, rl, rb, re, sy, sb, rc, sg, mth, msn, mwn, mba, mdy, mfa, mbg, mhd, mkn, mfo, mfi, mmy, mwa, mmp, mrg, hR, rfl⟩ := hK
        exact (c_L_count_5).mono (fun r cs' hp => by obtain ⟨rfl, rfl⟩ := hp; exact ⟨rfl, ⟨_, _, _, _, _, _, _, _, _, _, _, _, _, _, _, _, _, _, _, _, _, _, _, _, _, _, _, _, hR, rfl⟩⟩)
      · intro cs1 hK1
        obtain ⟨sc, ifp, ib, ie, pw, dh, rl, rb, re, sy, sb, rc, sg, mth, msn, mwn, mba, mdy, mfa, mbg, mhd, mkn, mfo, mfi, mmy, mwa, mmp, mrg, hR, rfl⟩ := hK1
        exact (c_M_count_5 hR).mono (fun r cs' hp => by obtain ⟨rfl, rfl⟩ := hp; exact ⟨rfl, ⟨_, _, _, _, _, _, _, _, _, _, _, _, _, _, _, _, _, _, _, _, _, _, _, _, _, _, _, _, hR, rfl⟩⟩)
    · obtain rfl : x = 6 := Int32.toInt_inj.mp (by rw [h]; decide)
      refine ⟨nI f, (t, z, b, rf, fp, le, lp, lb, il), ⟨ht, hz, hb, hr, hf, hc⟩, ?_, ?_⟩
      · obtain ⟨sc, ifp, ib, ie, pw, dh, rl, rb, re, sy, sb, rc, sg, mth, msn, mwn, mba, mdy, mfa, mbg, mhd, mkn, mfo, mfi, mmy, mwa, mmp, mrg, hR, rfl⟩ := hK
        exact (c_L_count_6).mono (fun r cs' hp => by obtain ⟨rfl, rfl⟩ := hp; exact ⟨rfl, ⟨_, _, _, _, _, _, _, _, _, _, _, _, _, _, _, _, _, _, _, _, _, _, _, _, _, _, _, _, hR, rfl⟩⟩)
      · intro cs1 hK1
        obtain ⟨sc, ifp, ib, ie, pw, dh, rl, rb, re, sy, sb, rc, sg, mth, msn, mwn, mba, mdy, mfa, mbg, mhd, mkn, mfo, mfi, mmy, mwa, mmp, mrg, hR, rfl⟩ := hK1
        exact (c_M_count_6 hR).mono (fun r cs' hp => by obtain ⟨rfl, rfl⟩ := hp; exact ⟨rfl, ⟨_, _, _, _, _, _, _, _, _, _, _, _, _, _, _, _, _, _, _, _, _, _, _, _, _, _, _, _, hR, rfl⟩⟩)
set_option maxRecDepth 100000 in
set_option maxHeartbeats 4000000 in
theorem s_rights {x : Int32} : StepI m_L_rights m_M_rights [.int x] := by
  intro f X cs hI hK
  obtain ⟨t, z, b, rf, fp, le, lp, lb, il⟩ := X
  obtain ⟨ht, hz, hb, hr, hf, hc⟩ := hI
  simp only at ht hz hb hr hc
  by_cases h1 : 0 ≤ x.toInt ∧ x.toInt < 64
  · obtain ⟨p, hp, -, hp2⟩ := nI_ofr (x := x) (lo := 0) (hi := 63) (by omega) (by omega) (by decide)
    refine ⟨rf p, (t, z, b, rf, fp, le, lp, lb, il), ⟨ht, hz, hb, hr, hf, hc⟩, ?_, ?_⟩
    · obtain ⟨sc, ifp, ib, ie, pw, dh, rl, rb, re, sy, sb, rc, sg, mth, msn, mwn, mba, mdy, mfa, mbg, mhd, mkn, mfo, mfi, mmy, mwa, mmp, mrg, hR, rfl⟩ := hK
      exact (c_L_rights_B hp (by omega)).mono (fun r cs' hp => by obtain ⟨rfl, rfl⟩ := hp; exact ⟨rfl, ⟨_, _, _, _, _, _, _, _, _, _, _, _, _, _, _, _, _, _, _, _, _, _, _, _, _, _, _, _, hR, rfl⟩⟩)
    · intro cs1 hK1
      obtain ⟨sc, ifp, ib, ie, pw, dh, rl, rb, re, sy, sb, rc, sg, mth, msn, mwn, mba, mdy, mfa, mbg, mhd, mkn, mfo, mfi, mmy, mwa, mmp, mrg, hR, rfl⟩ := hK1
      exact (c_M_rights_B hR hp (by omega)).mono (fun r cs' hp => by obtain ⟨rfl, rfl⟩ := hp; exact ⟨rfl, ⟨_, _, _, _, _, _, _, _, _, _, _, _, _, _, _, _, _, _, _, _, _, _, _, _, _, _, _, _, hR, rfl⟩⟩)
  · refine ⟨-2, (t, z, b, rf, fp, le, lp, lb, il), ⟨ht, hz, hb, hr, hf, hc⟩, ?_, ?_⟩
    · obtain ⟨sc, ifp, ib, ie, pw, dh, rl, rb, re, sy, sb, rc, sg, mth, msn, mwn, mba, mdy, mfa, mbg, mhd, mkn, mfo, mfi, mmy, mwa, mmp, mrg, hR, rfl⟩ := hK
      exact (c_L_rights_A h1).mono (fun r cs' hp => by obtain ⟨rfl, rfl⟩ := hp; exact ⟨rfl, ⟨_, _, _, _, _, _, _, _, _, _, _, _, _, _, _, _, _, _, _, _, _, _, _, _, _, _, _, _, hR, rfl⟩⟩)
    · intro cs1 hK1
      obtain ⟨sc, ifp, ib, ie, pw, dh, rl, rb, re, sy, sb, rc, sg, mth, msn, mwn, mba, mdy, mfa, mbg, mhd, mkn, mfo, mfi, mmy, mwa, mmp, mrg, hR, rfl⟩ := hK1
      exact (c_M_rights_A h1).mono (fun r cs' hp => by obtain ⟨rfl, rfl⟩ := hp; exact ⟨rfl, ⟨_, _, _, _, _, _, _, _, _, _, _, _, _, _, _, _, _, _, _, _, _, _, _, _, _, _, _, _, hR, rfl⟩⟩)
