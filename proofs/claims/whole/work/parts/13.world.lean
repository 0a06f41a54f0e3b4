/-! the cells of the two objects, and small rows -/
abbrev A_G : Type := Int64 × Int64 × Int64 × Int64 × Int64 × Int64 × Int32
def Ag (g : A_G) : va_E := .inr (1, [.long g.1, .long g.2.1, .long g.2.2.1, .long g.2.2.2.1, .long g.2.2.2.2.1, .long g.2.2.2.2.2.1, .int g.2.2.2.2.2.2])
def sgf : Nat → Option Nat := fun j => if j < 8 then some (8 + j) else none
def Ac (fp le lp lb il : Int32) (tf : Nat → Int32) (tz : Int32) (bf rf : Nat → Int32) (fr mp : Int32) (sc ifp ib ie pw dh : Int32) (rl rb re sy sb : Int64) (rc : Int32) (sg : Nat → A_G) (ex : List va_E) : List va_E :=
  .inr (4, [.ref 1, .ref 3, .ref 6, .int fp, .int le, .int lp, .int lb, .int il]) :: .inr (3, [.ref 2, .int tz]) :: .inl (0, 900, .inl tf) :: .inr (2, [.ref 4, .ref 5, .int fr, .int mp]) :: .inl (0, 16384, .inl bf) :: .inl (1, 64, .inl rf) ::
  .inr (0, [.ref 7, .int sc, .int ifp, .int ib, .int ie, .int pw, .int dh, .long rl, .long rb, .long re, .long sy, .long sb, .int rc]) :: .inl (4, 8, .inr (.inr (.inr (.inr sgf)))) :: Ag (sg 0) :: Ag (sg 1) :: Ag (sg 2) :: Ag (sg 3) :: Ag (sg 4) :: Ag (sg 5) :: Ag (sg 6) :: Ag (sg 7) :: ex
def Bc (th fr sz : Int32) (tf mp rg me : Nat → Int32) (sn : Int32) (bg hd : Nat → Int64) (fo fi my wa : Nat → Int32) (wn ba dy : Int32) (kn : Nat → Int64) (fa pl en pg ct im : Int32) : List va_E :=
  [.inr (5, [.int th, .int fr, .int sz, .ref 17, .ref 18, .ref 19, .ref 20, .int sn, .ref 21, .ref 22, .ref 23, .ref 24, .ref 25, .ref 26, .int wn, .int ba, .int dy, .ref 27, .int fa, .int pl, .int en, .int pg, .int ct, .int im]),
   .inl (1, 900, .inl tf), .inl (3, 64, .inl mp), .inl (1, 64, .inl rg), .inl (1, 16384, .inl me), .inl (2, 8, .inr (.inl bg)), .inl (2, 8, .inr (.inl hd)), .inl (1, 8, .inl fo), .inl (1, 8, .inl fi), .inl (1, 8, .inl my), .inl (3, 64, .inl wa), .inl (2, 12, .inr (.inl kn))]
theorem zi_t {q : Prop} [Decidable q] (h : ¬ (if q then (1 : Int32) else 0) = 0) : q := by
  by_cases hq : q
  · exact hq
  · rw [if_neg hq] at h; exact absurd rfl h
theorem zi_f {q : Prop} [Decidable q] (h : (if q then (1 : Int32) else 0) = 0) : ¬ q := by
  intro hq
  rw [if_pos hq] at h
  exact absurd h (by decide)
theorem zi_n {q : Prop} [Decidable q] : narrow .boolean (.int (if q then (1 : Int32) else 0)) = .int (if q then (1 : Int32) else 0) := by
  by_cases hq : q
  · rw [if_pos hq]; rfl
  · rw [if_neg hq]; rfl
theorem vp_of {x : Int32} {z N : Nat} (h1 : ¬ x < 0) (h2 : ¬ nI z ≤ x) (hz : z ≤ N) (hN : N < 2 ^ 31) : vp_in x N := by
  rw [vp_in_iff]
  rw [Int32.lt_iff_toInt_lt] at h1
  rw [Int32.le_iff_toInt_le, nI_toInt (by omega)] at h2
  have : (0 : Int32).toInt = 0 := by decide
  omega
theorem vp_of2 {x : Int32} {z N : Nat} (h1 : 0 ≤ x) (h2 : x < nI z) (hz : z ≤ N) (hN : N < 2 ^ 31) : vp_in x N := by
  rw [vp_in_iff]
  rw [Int32.le_iff_toInt_le] at h1
  rw [Int32.lt_iff_toInt_lt, nI_toInt (by omega)] at h2
  have : (0 : Int32).toInt = 0 := by decide
  omega
