/-! what a load does, in numbers: for both objects -/
abbrev SG : Type := Nat × Nat × Nat × Nat × Nat × Nat × Int32
def gI : SG → A_G
  | (O, Ad, St, Fi, He, Al, fl) => (lN O, lN Ad, lN St, lN Fi, lN He, lN Al, fl)
def gA : SG → Nat
  | (_, _, St, _, He, _, _) => pgA St He
def gC : SG → Nat
  | (_, _, St, _, He, _, _) => pgC St He
def gT (t : Nat → Nat) (z p B : Nat) : SG := (wN t z (p + 4), wN t z (p + 8), wN t z (p + 8) + B, wN t z (p + 16), wN t z (p + 20), wN t z (p + 28), nI (wN t z (p + 24) % 8))
def hdR (t : Nat → Nat) (z : Nat) : Int32 × Int32 :=
  if hN t z 16 = 2 ∨ hN t z 16 = 3 then if hN t z 18 = 243 then if wN t z 20 = 1 then if hN t z 40 = 52 then if hN t z 42 = 32 then if 1 ≤ hN t z 44 ∧ hN t z 44 ≤ 8 then if wN t z 28 + 32 * hN t z 44 ≤ z then (0, -1) else (8, 28) else (7, 44) else (6, 42) else (6, 40) else (5, 20) else (4, 18) else (3, 16)
def hdL (t : Nat → Nat) (z : Nat) : Nat → Nat → Int32 × Int32
  | 0, _ => hdR t z
  | k + 1, i => if nI (t i) = G_mag i then hdL t z k (i + 1) else (2, nI i)
def hdF (t : Nat → Nat) (z : Nat) : Int32 × Int32 := if z < 52 then (1, nI z) else hdL t z 7 0
/-- does a segment of these pages meet one of the list -/
def mtB (a c : Nat) : List SG → Bool
  | [] => false
  | (_, _, St, _, He, _, _) :: R => if a < pgC St He ∧ pgA St He < c then true else mtB a c R
def sgF (z : Nat) (rf : Nat → Int32) (fre : Nat) (L : List SG) (pw p : Nat) : SG → Int32 × Int32
  | (O, Ad, St, Fi, He, Al, _) => if He < Fi then (9, nI (p + 20)) else if O + Fi ≤ z then if Al ≤ 1 ∨ (Al ≤ 4096 ∧ apw Al = true) then if Al ≤ 1 ∨ Ad % Al = O % Al then if He = 0 ∨ St + He ≤ 16384 then
      if anyM rf (pgA St He) (pgC St He - pgA St He) = true ∨ mtB (pgA St He) (pgC St He) L = true then (14, nI (p + 8)) else if fre < pw + (pgC St He - pgA St He) then (15, nI (p + 20)) else (0, -1)
      else (13, nI (p + 8)) else (12, nI (p + 8)) else (11, nI (p + 28)) else (10, nI (p + 4))
def hsF (t : Nat → Nat) (z B : Nat) (rf : Nat → Int32) (fre : Nat) : Nat → Nat → List SG → Nat → Nat → (Int32 × Int32) × List SG × Nat × Nat
  | 0, _, L, pw, D => (if pw = 0 then (17, 44) else (0, -1), L, pw, D)
  | k + 1, i, L, pw, D =>
    if wN t z (wN t z 28 + 32 * i) = 1 then
      if (sgF z rf fre L pw (wN t z 28 + 32 * i) (gT t z (wN t z 28 + 32 * i) B)).1 = 0 then
        hsF t z B rf fre k (i + 1) (L ++ [gT t z (wN t z 28 + 32 * i) B]) (pw + (gC (gT t z (wN t z 28 + 32 * i) B) - gA (gT t z (wN t z 28 + 32 * i) B))) D
      else (sgF z rf fre L pw (wN t z 28 + 32 * i) (gT t z (wN t z 28 + 32 * i) B), L, pw, D)
    else if wN t z (wN t z 28 + 32 * i) = 2 then
      if wN t z (wN t z 28 + 32 * i + 4) + wN t z (wN t z 28 + 32 * i + 16) ≤ z then
        if wN t z (wN t z 28 + 32 * i + 16) % 8 = 0 then hsF t z B rf fre k (i + 1) L pw (wN t z 28 + 32 * i + 1)
        else ((16, nI (wN t z 28 + 32 * i + 16)), L, pw, D)
      else ((10, nI (wN t z 28 + 32 * i + 4)), L, pw, D)
    else hsF t z B rf fre k (i + 1) L pw D
/-- is the entry held by a segment that may be fetched -/
def enB (e : Nat) : List SG → Bool
  | [] => false
  | (_, _, St, _, He, _, fl) :: R => if (St ≤ e ∧ e < St + He) ∧ ¬ fl &&& 1 = 0 then true else enB e R
def kU (K : Nat → Nat) (a v : Nat) : Nat → Nat := if a < 12 then upN K a v else K
def prF (t : Nat → Nat) (z fr : Nat) : Nat → Nat → (Nat → Nat) → Nat → Nat
  | 0, _, K => K
  | k + 1, i, K => if wN t z (fr + 8 * i) = 0 then K else prF t z fr k (i + 1) (kU K (wN t z (fr + 8 * i)) (wN t z (fr + 8 * i + 4)))
def dhv (D : Nat) : Int32 := if D = 0 then -1 else nI (D - 1)
def dyK (t : Nat → Nat) (z D : Nat) : Nat → Nat := if D = 0 then fun _ => 0 else prF t z (wN t z (D - 1 + 4)) (wN t z (D - 1 + 16) / 8) 0 (fun _ => 0)
def dyF (K : Nat → Nat) (D : Nat) : Int32 × Int32 := if K 8 % 12 = 0 ∧ K 8 / 12 ≤ 60 ∧ (K 8 = 0 ∨ K 9 = 12) then (0, -1) else (19, nI (D - 1))
/-- laying -/
def laB (t : Nat → Nat) : List SG → (Nat → Nat) → Nat → Nat
  | [], b => b
  | (O, _, St, Fi, He, _, _) :: R, b => laB t R (cpN (fillN b (256 * pgA St He) (256 * (pgC St He - pgA St He)) 0) St t O Fi)
def laR : List SG → (Nat → Int32) → Nat → Int32
  | [], r => r
  | (_, _, St, _, He, _, fl) :: R, r => laR R (fillI r (pgA St He) (pgC St He - pgA St He) fl)
def laM (v : Int32) : List SG → (Nat → Int32) → Nat → Int32
  | [], r => r
  | (_, _, St, _, He, _, _) :: R, r => laM v R (fillI r (pgA St He) (pgC St He - pgA St He) v)
/-- is a byte held -/
def hB (a : Nat) : List SG → Bool
  | [] => false
  | (_, _, St, _, He, _, _) :: R => if St ≤ a ∧ a < St + He then true else hB a R
def hA (L : List SG) (a : Nat) : Nat → Nat → Bool
  | _, 0 => true
  | k, r + 1 => if hB ((a + k) % 4294967296) L = true then hA L a (k + 1) r else false
/-- one relocation: its fault, the memory behind it -/
def syF (L : List SG) (B : Nat) (K b : Nat → Nat) (wh nu mo : Nat) : Int32 × (Nat → Nat) :=
  if K 11 = 16 ∧ hA L ((K 6 + B + 16 * nu) % 4294967296) 0 16 = true then
    if nu = 0 then (0, u4 b wh (nI mo))
    else if n2 b ((K 6 + B + 16 * nu) % 4294967296 + 14) = 0 then (23, b) else (0, u4 b wh (nI (mo + (n4 b ((K 6 + B + 16 * nu) % 4294967296 + 4) + B))))
  else (22, b)
def reG (L : List SG) (B : Nat) (K b : Nat → Nat) (a : Nat) : Int32 × (Nat → Nat) :=
  if hA L a 0 12 = true then
    if hA L ((n4 b a + B) % 4294967296) 0 4 = true then
      if n4 b (a + 4) % 256 = 0 then (0, b)
      else if n4 b (a + 4) % 256 = 1 then syF L B K b ((n4 b a + B) % 4294967296) (n4 b (a + 4) / 256) (n4 b (a + 8))
      else if n4 b (a + 4) % 256 = 3 then (0, u4 b ((n4 b a + B) % 4294967296) (nI (B + n4 b (a + 8))))
      else (21, b)
    else (20, b)
  else (20, b)
def reF (L : List SG) (B : Nat) (K b : Nat → Nat) (i : Nat) : Int32 × (Nat → Nat) := reG L B K b ((K 7 + B + 12 * i) % 4294967296)
def reL (L : List SG) (B : Nat) (K : Nat → Nat) : Nat → Nat → (Nat → Nat) → (Int32 × Int32) × (Nat → Nat)
  | 0, _, b => ((0, -1), b)
  | k + 1, i, b => if (reF L B K b i).1 = 0 then reL L B K k (i + 1) (reF L B K b i).2 else (((reF L B K b i).1, nI i), (reF L B K b i).2)
/-! facts of them -/
def Gd (z : Nat) (rf : Nat → Int32) : SG → Prop
  | (O, Ad, St, Fi, He, Al, fl) => (O < 2 ^ 32 ∧ Ad < 2 ^ 32 ∧ St < 2 ^ 33 ∧ He < 2 ^ 32 ∧ Al < 2 ^ 32) ∧ (Fi ≤ He ∧ O + Fi ≤ z ∧ (He = 0 ∨ St + He ≤ 16384)) ∧ (∃ r, r < 8 ∧ fl = nI r) ∧ ∀ p, pgA St He ≤ p → p < pgC St He → rf p = -1
def pgs : List SG → Nat
  | [] => 0
  | g :: R => (gC g - gA g) + pgs R
def Dj (L : List SG) : Prop := L.Pairwise (fun g h => ¬ (gA h < gC g ∧ gA g < gC h))
def LI (z : Nat) (rf : Nat → Int32) (fre : Nat) (L : List SG) (pw : Nat) : Prop := (∀ g, g ∈ L → Gd z rf g) ∧ Dj L ∧ pw = pgs L ∧ pw ≤ fre
def Dv (t : Nat → Nat) (z D : Nat) : Prop := D = 0 ∨ (1 ≤ D ∧ D - 1 + 32 ≤ z ∧ wN t z (D - 1 + 4) + wN t z (D - 1 + 16) ≤ z)
theorem pgs_app (L : List SG) (g : SG) : pgs (L ++ [g]) = pgs L + (gC g - gA g) := by
  induction L with
  | nil => simp [pgs]
  | cons h R ih => rw [List.cons_append, pgs, ih, pgs]; omega
theorem mtB_f {a c : Nat} : ∀ {L : List SG}, mtB a c L = false → ∀ g, g ∈ L → ¬ (a < gC g ∧ gA g < c)
  | [], _, g, hg => absurd hg List.not_mem_nil
  | (O, Ad, St, Fi, He, Al, fl) :: R, h, g, hg => by
    unfold mtB at h
    by_cases hc : a < pgC St He ∧ pgA St He < c
    · rw [if_pos hc] at h; exact absurd h (by decide)
    · rw [if_neg hc] at h
      rcases List.mem_cons.mp hg with rfl | hg
      · exact hc
      · exact mtB_f h g hg
theorem anyM_f {rf : Nat → Int32} : ∀ {k a : Nat}, ¬ anyM rf a k = true → ∀ p, a ≤ p → p < a + k → rf p = -1
  | 0, a, _, p, h1, h2 => absurd h2 (by omega)
  | k + 1, a, h, p, h1, h2 => by
    unfold anyM at h
    by_cases hc : rf a = -1
    · rw [if_pos hc] at h
      by_cases hp : p = a
      · rw [hp]; exact hc
      · exact anyM_f h p (by omega) (by omega)
    · rw [if_neg hc] at h; exact absurd rfl h
theorem gT_ok {t : Nat → Nat} {z p B O Ad St Fi He Al : Nat} {fl : Int32} (ht : ∀ k, t k < 256) (hB : B < 2 ^ 30) (h : gT t z p B = (O, Ad, St, Fi, He, Al, fl)) : (O < 2 ^ 32 ∧ Ad < 2 ^ 32 ∧ St < 2 ^ 33 ∧ He < 2 ^ 32 ∧ Al < 2 ^ 32) ∧ Fi < 2 ^ 32 ∧ (∃ r, r < 8 ∧ fl = nI r) := by
  simp only [gT, Prod.mk.injEq] at h
  obtain ⟨rfl, rfl, rfl, rfl, rfl, rfl, rfl⟩ := h
  have h1 := wN_lt ht z (p + 4)
  have h2 := wN_lt ht z (p + 8)
  have h3 := wN_lt ht z (p + 16)
  have h4 := wN_lt ht z (p + 20)
  have h5 := wN_lt ht z (p + 28)
  exact ⟨⟨by omega, by omega, by omega, by omega, by omega⟩, by omega, _, Nat.mod_lt _ (by decide), rfl⟩
theorem pgAC {St He : Nat} : pgA St He ≤ pgC St He := by
  unfold pgA pgC; split <;> omega
theorem pgC_le {St He : Nat} (h : He = 0 ∨ St + He ≤ 16384) : pgC St He ≤ 64 := by
  unfold pgC; split <;> omega
theorem sgF_0 {z : Nat} {rf : Nat → Int32} {fre : Nat} {L : List SG} {pw p : Nat} {t : Nat → Nat} {B : Nat} (ht : ∀ k, t k < 256) (hB : B < 2 ^ 30) (hL : LI z rf fre L pw) (h : (sgF z rf fre L pw p (gT t z p B)).1 = 0) : LI z rf fre (L ++ [gT t z p B]) (pw + (gC (gT t z p B) - gA (gT t z p B))) := by
  obtain ⟨h1, h2, h3, h4⟩ := hL
  generalize hg : gT t z p B = g at h ⊢
  obtain ⟨O, Ad, St, Fi, He, Al, fl⟩ := g
  obtain ⟨g1, g2, g3⟩ := gT_ok ht hB hg
  rw [sgF] at h
  by_cases c1 : He < Fi
  · rw [if_pos c1] at h; exact absurd (show (9 : Int32) = 0 from h) (by decide)
  rw [if_neg c1] at h
  by_cases c2 : O + Fi ≤ z
  · rw [if_pos c2] at h
    by_cases c3 : Al ≤ 1 ∨ (Al ≤ 4096 ∧ apw Al = true)
    · rw [if_pos c3] at h
      by_cases c4 : Al ≤ 1 ∨ Ad % Al = O % Al
      · rw [if_pos c4] at h
        by_cases c5 : He = 0 ∨ St + He ≤ 16384
        · rw [if_pos c5] at h
          by_cases c6 : anyM rf (pgA St He) (pgC St He - pgA St He) = true ∨ mtB (pgA St He) (pgC St He) L = true
          · rw [if_pos c6] at h; exact absurd (show (14 : Int32) = 0 from h) (by decide)
          · rw [if_neg c6] at h
            by_cases c7 : fre < pw + (pgC St He - pgA St He)
            · rw [if_pos c7] at h; exact absurd (show (15 : Int32) = 0 from h) (by decide)
            · have c8 : mtB (pgA St He) (pgC St He) L = false := by
                cases hm : mtB (pgA St He) (pgC St He) L with
                | false => rfl
                | true => exact absurd (Or.inr hm) c6
              refine ⟨?_, ?_, ?_, ?_⟩
              · intro g hg
                rcases List.mem_append.mp hg with hg | hg
                · exact h1 g hg
                · rw [List.mem_singleton.mp hg]
                  refine ⟨g1, ⟨by omega, c2, c5⟩, g3, fun q q1 q2 => anyM_f (fun w => c6 (Or.inl w)) q q1 ?_⟩
                  have := pgAC (St := St) (He := He)
                  omega
              · refine List.pairwise_append.mpr ⟨h2, List.pairwise_singleton _ _, fun a ha b hb => ?_⟩
                rw [List.mem_singleton.mp hb]
                exact mtB_f c8 a ha
              · rw [pgs_app, h3]
              · show pw + (pgC St He - pgA St He) ≤ fre
                omega
        · rw [if_neg c5] at h; exact absurd (show (13 : Int32) = 0 from h) (by decide)
      · rw [if_neg c4] at h; exact absurd (show (12 : Int32) = 0 from h) (by decide)
    · rw [if_neg c3] at h; exact absurd (show (11 : Int32) = 0 from h) (by decide)
  · rw [if_neg c2] at h; exact absurd (show (10 : Int32) = 0 from h) (by decide)
theorem hsF_ok {t : Nat → Nat} {z B : Nat} {rf : Nat → Int32} {fre : Nat} (ht : ∀ k, t k < 256) (hB : B < 2 ^ 30) : ∀ (k i : Nat) (L : List SG) (pw D : Nat), LI z rf fre L pw → Dv t z D → wN t z 28 + 32 * (i + k) ≤ z → LI z rf fre (hsF t z B rf fre k i L pw D).2.1 (hsF t z B rf fre k i L pw D).2.2.1 ∧ Dv t z (hsF t z B rf fre k i L pw D).2.2.2 ∧ (hsF t z B rf fre k i L pw D).2.1.length ≤ L.length + k
  | 0, i, L, pw, D, h1, h2, _ => ⟨h1, h2, Nat.le_refl _⟩
  | k + 1, i, L, pw, D, h1, h2, h3 => by
    unfold hsF
    by_cases c1 : wN t z (wN t z 28 + 32 * i) = 1
    · rw [if_pos c1]
      by_cases c2 : (sgF z rf fre L pw (wN t z 28 + 32 * i) (gT t z (wN t z 28 + 32 * i) B)).1 = 0
      · rw [if_pos c2]
        obtain ⟨q1, q2, q3⟩ := hsF_ok ht hB k (i + 1) _ _ D (sgF_0 ht hB h1 c2) h2 (by omega)
        refine ⟨q1, q2, ?_⟩
        rw [List.length_append] at q3
        simp only [List.length_cons, List.length_nil] at q3
        omega
      · rw [if_neg c2]; exact ⟨h1, h2, Nat.le_add_right _ _⟩
    · rw [if_neg c1]
      by_cases c2 : wN t z (wN t z 28 + 32 * i) = 2
      · rw [if_pos c2]
        by_cases c3 : wN t z (wN t z 28 + 32 * i + 4) + wN t z (wN t z 28 + 32 * i + 16) ≤ z
        · rw [if_pos c3]
          by_cases c4 : wN t z (wN t z 28 + 32 * i + 16) % 8 = 0
          · rw [if_pos c4]
            obtain ⟨q1, q2, q3⟩ := hsF_ok ht hB k (i + 1) L pw (wN t z 28 + 32 * i + 1) h1 (Or.inr ⟨by omega, by omega, by rw [Nat.add_sub_cancel]; exact c3⟩) (by omega)
            exact ⟨q1, q2, by omega⟩
          · rw [if_neg c4]; exact ⟨h1, h2, Nat.le_add_right _ _⟩
        · rw [if_neg c3]; exact ⟨h1, h2, Nat.le_add_right _ _⟩
      · rw [if_neg c2]
        obtain ⟨q1, q2, q3⟩ := hsF_ok ht hB k (i + 1) L pw D h1 h2 (by omega)
        exact ⟨q1, q2, by omega⟩
theorem drop_c {L R : List SG} {i : Nat} {g : SG} (h : L.drop i = g :: R) : L[i]? = some g ∧ L.drop (i + 1) = R ∧ i < L.length := by
  have h0 : (L.drop i)[0]? = some g := by rw [h]; rfl
  rw [List.getElem?_drop, Nat.add_zero] at h0
  refine ⟨h0, ?_, ?_⟩
  · rw [← List.drop_drop, h]; rfl
  · exact (List.getElem?_eq_some_iff.mp h0).1
theorem drop_n {L : List SG} {i : Nat} (h : L.drop i = []) : L.length ≤ i := List.drop_eq_nil_iff.mp h
/-- the table of an ImageLoader's segments bears the list -/
def hSg (L : List SG) (sg : Nat → A_G) : Prop := ∀ j g, L[j]? = some g → sg j = gI g
theorem hSg_app {L : List SG} {sg : Nat → A_G} (h : hSg L sg) {j : Nat} (hj : L.length = j) (g : SG) : hSg (L ++ [g]) (updG sg j (gI g)) := by
  intro k h1 hk
  unfold updG
  by_cases hkj : k = j
  · rw [if_pos hkj]
    rw [hkj, ← hj, List.getElem?_append_right (Nat.le_refl _), Nat.sub_self] at hk
    simp at hk; rw [hk]
  · rw [if_neg hkj]
    refine h k h1 ?_
    by_cases hlt : k < L.length
    · rwa [List.getElem?_append_left hlt] at hk
    · have := (List.getElem?_eq_some_iff.mp hk).1
      rw [List.length_append] at this
      simp only [List.length_cons, List.length_nil] at this
      omega
theorem hSg_upd {L : List SG} {sg : Nat → A_G} (h : hSg L sg) {j : Nat} (hj : L.length = j) (g : A_G) : hSg L (updG sg j g) := by
  intro k h1 hk
  unfold updG
  have := (List.getElem?_eq_some_iff.mp hk).1
  rw [if_neg (by omega)]
  exact h k h1 hk
