/-! a run from a place on, to the method's end; its rules -/
def vm_ag (n : Nat) (ad ad' : Nat → Nat) : Prop := ∀ i, i < n ∨ 1000000 ≤ i → ad' i = ad i
def vm_dec (M : vm_M) (pc : Nat) (i : Instr) (len : Nat) : Bool := match decode M.2.2.1 pc with
  | .ok (raw, len') => decide (raw = i) && Nat.beq len' len
  | .error _ => false
theorem vm_dec_ok {M : vm_M} {pc : Nat} {i : Instr} {len : Nat} (h : vm_dec M pc i len = true) : decode M.2.2.1 pc = .ok (i, len) := by
  unfold vm_dec at h
  split at h
  · rename_i raw len' hd
    simp only [Bool.and_eq_true, decide_eq_true_eq] at h
    have h2 := Nat.eq_of_beq_eq_true h.2
    rw [hd, h.1, h2]
  · cases h
def vm_rt (M : vm_M) (pc : Nat) (r : Option Value) : Prop := match r with
  | none => vm_dec M pc .return_ 1 = true ∧ M.2.2.2.2.1 = none
  | some (.int v) => vm_dec M pc .ireturn 1 = true ∧ ∃ ty, M.2.2.2.2.1 = some ty ∧ narrow ty (.int v) = .int v
  | some (.long _) => vm_dec M pc .lreturn 1 = true ∧ M.2.2.2.2.1 = some .long
  | _ => False
def Run (M : vm_M) (n bc bs pc : Nat) (S : vm_S) (post : Option Value → List va_E → Prop) : Prop :=
  ∀ (p : Program) (l : Launch) (e : Env) (R : Room) (s : State) (m : MethodId) (args : Array Value) (below : List Frame) (meth : Method) (c : Code) (cells slots : Nat) (Q : State → Prop) (D : va_G) (ad tc : Nat → Nat) (A : Nat → Prop),
    vm_C M p R s m args meth c D ad tc A → cells + bc ≤ R.cells → slots + bs ≤ R.slots →
    (∀ (r : Option Value) (cs' : List va_E) (ad' : Nat → Nat) (cells' slots' : Nat), post r cs' → vm_ag n ad ad' → (bc = 0 → ad' = ad) → cells' ≤ cells + bc → slots' ≤ slots + bs → ∀ (pc' : Nat) (lv' : List (Option Value)), vm_rt M pc' r → vm_W p l e R s m args below meth c cells' slots' Q D ad' tc A pc' (lv', r.toList, cs')) →
    vm_W p l e R s m args below meth c cells slots Q D ad tc A pc S
/-- the answer and the cells -/
def vm_is (r : Option Value) (cs : List va_E) : Option Value → List va_E → Prop := fun r' cs' => r' = r ∧ cs' = cs
section VM6
variable {M : vm_M} {n bc bs pc pc' tgt : Nat} {S S' : vm_S} {post : Option Value → List va_E → Prop} {lv : List (Option Value)} {st : List Value} {cs : List va_E}
theorem Run.blk (is : List vm_I) {gs : List Prop} (h1 : vm_chk M pc is = some pc') (h2 : vm_x is S = some (gs, S')) (h3 : vm_all gs) (k : Run M n bc bs pc' S' post) : Run M n bc bs pc S post :=
  fun _ _ _ _ _ _ _ _ _ _ _ _ _ _ _ _ _ C hc hs hq => vm_blk C is pc S gs h1 h2 h3 (k _ _ _ _ _ _ _ _ _ _ _ _ _ _ _ _ _ C hc hs hq)
theorem Run.ret {r : Option Value} (h : vm_rt M pc r) (hp : post r cs) : Run M n bc bs pc (lv, r.toList, cs) post :=
  fun _ _ _ _ _ _ _ _ _ _ cells slots _ _ ad _ _ _ _ _ hq => hq r cs ad cells slots hp (fun _ _ => rfl) (fun _ => rfl) (Nat.le_add_right _ _) (Nat.le_add_right _ _) pc lv h
theorem Run.weaken {post' : Option Value → List va_E → Prop} (k : Run M n bc bs pc S post) (h : ∀ r cs, post r cs → post' r cs) : Run M n bc bs pc S post' :=
  fun _ _ _ _ _ _ _ _ _ _ _ _ _ _ _ _ _ C hc hs hq => k _ _ _ _ _ _ _ _ _ _ _ _ _ _ _ _ _ C hc hs (fun r cs' ad' cells' slots' hp => hq r cs' ad' cells' slots' (h r cs' hp))
theorem Run.goto {off : Int} (hd : vm_dec M pc (.goto off) 3 = true) (ht : (pc : Int) + off = (tgt : Int)) (k : Run M n bc bs tgt S post) : Run M n bc bs pc S post :=
  fun _ _ _ _ _ _ _ _ _ _ _ _ _ _ _ _ _ C hc hs hq => by
    have k2 := k _ _ _ _ _ _ _ _ _ _ _ _ _ _ _ _ _ C hc hs hq
    obtain ⟨hx, hb, -⟩ := C
    intro H locs ls h1 h2 h3 h4
    exact lv_goto hx hb (vm_dec_ok hd) ht (k2 H locs ls h1 h2 h3 h4)
def vm_b (i : Instr) (st : List Value) : Option (Prop × List Value × Int) := match i, st with
  | .if_icmp .eq o, .int y :: .int x :: st => some (x = y, st, o)
  | .if_icmp .ne o, .int y :: .int x :: st => some (¬ x = y, st, o)
  | .if_icmp .lt o, .int y :: .int x :: st => some (x < y, st, o)
  | .if_icmp .ge o, .int y :: .int x :: st => some (y ≤ x, st, o)
  | .if_icmp .gt o, .int y :: .int x :: st => some (y < x, st, o)
  | .if_icmp .le o, .int y :: .int x :: st => some (x ≤ y, st, o)
  | .ifCond .eq o, .int x :: st => some (x = 0, st, o)
  | .ifCond .ne o, .int x :: st => some (¬ x = 0, st, o)
  | .ifCond .lt o, .int x :: st => some (x < 0, st, o)
  | .ifCond .ge o, .int x :: st => some (0 ≤ x, st, o)
  | .ifCond .gt o, .int x :: st => some (0 < x, st, o)
  | .ifCond .le o, .int x :: st => some (x ≤ 0, st, o)
  | _, _ => none
theorem Run.br {i : Instr} {Cd : Prop} {st' : List Value} {off : Int} (hd : vm_dec M pc i 3 = true) (hb : vm_b i st = some (Cd, st', off)) (ht : (pc : Int) + off = (tgt : Int)) (kt : Cd → Run M n bc bs tgt (lv, st', cs) post) (kf : ¬ Cd → Run M n bc bs (pc + 3) (lv, st', cs) post) : Run M n bc bs pc (lv, st, cs) post := by
  intro p l e R s m args below meth c cells slots Q D ad tc A C hc hs hq
  have hdd := vm_dec_ok hd
  have hx := C.1
  have hbc := C.2.1
  have kt2 := fun h => kt h p l e R s m args below meth c cells slots Q D ad tc A C hc hs hq
  have kf2 := fun h => kf h p l e R s m args below meth c cells slots Q D ad tc A C hc hs hq
  unfold vm_b at hb
  split at hb
  · cases hb
    intro H locs ls h1 h2 h3 h4
    exact lv_icmp_eq hx hbc hdd ht (fun h => kt2 h H locs ls h1 h2 h3 h4) (fun h => kf2 h H locs ls h1 h2 h3 h4)
  · cases hb
    intro H locs ls h1 h2 h3 h4
    exact lv_icmp_ne hx hbc hdd ht (fun h => kt2 h H locs ls h1 h2 h3 h4) (fun h => kf2 (fun z => z h) H locs ls h1 h2 h3 h4)
  · cases hb
    intro H locs ls h1 h2 h3 h4
    exact lv_icmp_lt hx hbc hdd ht (fun h => kt2 h H locs ls h1 h2 h3 h4) (fun h => kf2 h H locs ls h1 h2 h3 h4)
  · cases hb
    intro H locs ls h1 h2 h3 h4
    exact lv_icmp_ge hx hbc hdd ht (fun h => kt2 h H locs ls h1 h2 h3 h4) (fun h => kf2 h H locs ls h1 h2 h3 h4)
  · cases hb
    intro H locs ls h1 h2 h3 h4
    exact lv_icmp_gt hx hbc hdd ht (fun h => kt2 h H locs ls h1 h2 h3 h4) (fun h => kf2 h H locs ls h1 h2 h3 h4)
  · cases hb
    intro H locs ls h1 h2 h3 h4
    exact lv_icmp_le hx hbc hdd ht (fun h => kt2 h H locs ls h1 h2 h3 h4) (fun h => kf2 h H locs ls h1 h2 h3 h4)
  · cases hb
    intro H locs ls h1 h2 h3 h4
    exact lv_if_eq hx hbc hdd ht (fun h => kt2 h H locs ls h1 h2 h3 h4) (fun h => kf2 h H locs ls h1 h2 h3 h4)
  · cases hb
    intro H locs ls h1 h2 h3 h4
    exact lv_if_ne hx hbc hdd ht (fun h => kt2 h H locs ls h1 h2 h3 h4) (fun h => kf2 (fun z => z h) H locs ls h1 h2 h3 h4)
  · cases hb
    intro H locs ls h1 h2 h3 h4
    exact lv_if_lt hx hbc hdd ht (fun h => kt2 h H locs ls h1 h2 h3 h4) (fun h => kf2 h H locs ls h1 h2 h3 h4)
  · cases hb
    intro H locs ls h1 h2 h3 h4
    exact lv_if_ge hx hbc hdd ht (fun h => kt2 h H locs ls h1 h2 h3 h4) (fun h => kf2 h H locs ls h1 h2 h3 h4)
  · cases hb
    intro H locs ls h1 h2 h3 h4
    exact lv_if_gt hx hbc hdd ht (fun h => kt2 h H locs ls h1 h2 h3 h4) (fun h => kf2 h H locs ls h1 h2 h3 h4)
  · cases hb
    intro H locs ls h1 h2 h3 h4
    exact lv_if_le hx hbc hdd ht (fun h => kt2 h H locs ls h1 h2 h3 h4) (fun h => kf2 h H locs ls h1 h2 h3 h4)
  · cases hb
/-- lcmp and the branch behind it -/
def vm_bl (i : Instr) (x y : Int64) : Option (Prop × Int) := match i with
  | .ifCond .eq o => some (x = y, o)
  | .ifCond .ne o => some (¬ x = y, o)
  | .ifCond .lt o => some (x < y, o)
  | .ifCond .ge o => some (y ≤ x, o)
  | .ifCond .gt o => some (y < x, o)
  | .ifCond .le o => some (x ≤ y, o)
  | _ => none
theorem Run.brl {i : Instr} {Cd : Prop} {off : Int} {x y : Int64} (h0 : vm_dec M pc .lcmp 1 = true) (hd : vm_dec M (pc + 1) i 3 = true) (hb : vm_bl i x y = some (Cd, off)) (ht : ((pc + 1 : Nat) : Int) + off = (tgt : Int)) (kt : Cd → Run M n bc bs tgt (lv, st, cs) post) (kf : ¬ Cd → Run M n bc bs (pc + 4) (lv, st, cs) post) : Run M n bc bs pc (lv, .long y :: .long x :: st, cs) post := by
  refine Run.blk (pc' := pc + 1) (S' := (lv, .int (lg_cmp x y) :: st, cs)) (gs := [True]) [.inl .lcmp] ?_ rfl ⟨trivial, trivial⟩ ?_
  · have hdd := vm_dec_ok h0
    simp only [vm_chk, hdd, vm_okI]
    rfl
  · unfold vm_bl at hb
    split at hb
    · cases hb
      exact Run.br hd rfl ht (fun h => kt ((lg_cmp_eq x y).mp h)) (fun h => kf (fun z => h ((lg_cmp_eq x y).mpr z)))
    · cases hb
      exact Run.br hd rfl ht (fun h => kt (fun z => h ((lg_cmp_eq x y).mpr z))) (fun h => kf (fun z => h (fun w => z ((lg_cmp_eq x y).mp w))))
    · cases hb
      exact Run.br hd rfl ht (fun h => kt ((lg_cmp_lt x y).mp h)) (fun h => kf (fun z => h ((lg_cmp_lt x y).mpr z)))
    · cases hb
      exact Run.br hd rfl ht (fun h => kt ((lg_cmp_ge x y).mp h)) (fun h => kf (fun z => h ((lg_cmp_ge x y).mpr z)))
    · cases hb
      exact Run.br hd rfl ht (fun h => kt ((lg_cmp_gt x y).mp h)) (fun h => kf (fun z => h ((lg_cmp_gt x y).mpr z)))
    · cases hb
      exact Run.br hd rfl ht (fun h => kt ((lg_cmp_le x y).mp h)) (fun h => kf (fun z => h ((lg_cmp_le x y).mpr z)))
    · cases hb
theorem Run.tsOut {dflt lo hi : Int} {offs : Array Int} {len : Nat} {x : Int32} (hd : vm_dec M pc (.tableswitch dflt lo hi offs) len = true) (h : x.toInt < lo ∨ hi < x.toInt) (ht : (pc : Int) + dflt = (tgt : Int)) (k : Run M n bc bs tgt (lv, st, cs) post) : Run M n bc bs pc (lv, .int x :: st, cs) post :=
  fun _ _ _ _ _ _ _ _ _ _ _ _ _ _ _ _ _ C hc hs hq => by
    have k2 := k _ _ _ _ _ _ _ _ _ _ _ _ _ _ _ _ _ C hc hs hq
    obtain ⟨hx, hb, -⟩ := C
    intro H locs ls h1 h2 h3 h4
    exact lv_tableOut hx hb (vm_dec_ok hd) h ht (k2 H locs ls h1 h2 h3 h4)
theorem Run.tsIn {dflt lo hi : Int} {offs : Array Int} {len : Nat} {x : Int32} {off : Int} (hd : vm_dec M pc (.tableswitch dflt lo hi offs) len = true) (h1 : ¬ x.toInt < lo) (h2 : ¬ hi < x.toInt) (ho : offs[(x.toInt - lo).toNat]? = some off) (ht : (pc : Int) + off = (tgt : Int)) (k : Run M n bc bs tgt (lv, st, cs) post) : Run M n bc bs pc (lv, .int x :: st, cs) post :=
  fun _ _ _ _ _ _ _ _ _ _ _ _ _ _ _ _ _ C hc hs hq => by
    have k2 := k _ _ _ _ _ _ _ _ _ _ _ _ _ _ _ _ _ C hc hs hq
    obtain ⟨hx, hb, -⟩ := C
    intro H locs ls g1 g2 g3 g4
    exact lv_tableIn hx hb (vm_dec_ok hd) h1 h2 ho ht (k2 H locs ls g1 g2 g3 g4)
theorem Run.aald {i : Int32} {a t q N : Nat} {f : Nat → Option Nat} {Cn : String} (hd : vm_dec M pc .aaload 1 = true) (hc : vm_g cs a = some (.inl (t, N, .inr (.inr (.inr (.inr f)))))) (ht : vm_g G_ty t = some (.object Cn)) (hin : vp_in i N) (hf : f i.toNatClampNeg = some q) (k : Run M n bc bs (pc + 1) (lv, .ref q :: st, cs) post) : Run M n bc bs pc (lv, .int i :: .ref a :: st, cs) post :=
  fun _ _ _ _ _ _ _ _ _ _ _ _ _ _ _ _ _ C hcc hs hq => by
    have k2 := k _ _ _ _ _ _ _ _ _ _ _ _ _ _ _ _ _ C hcc hs hq
    obtain ⟨hx, hb, hml, hown, hts, hK, hA, hN, hlk, hnm, hR, hT⟩ := C
    intro H locs ls g1 g2 g3 g4
    refine va_aldq hx hb hK g2 a t (vm_w_at hc) (vm_tys_at ht) hin (vm_dec_ok hd) ?_
    rw [hf]
    exact k2 H locs ls g1 g2 g3 g4
theorem vm_x_gf {ci k a pl idx op : Nat} {fs : List Value} {v : Value} (ho : op = 0 ∨ op = 2) (hc : vm_g cs a = some (.inr (ci, fs))) (hv : vm_g fs k = some v) : vm_x [.inr (.inr (.inl (op, pl, idx, ci, k)))] (lv, .ref a :: st, cs) = some ([True], lv, v :: st, cs) := by
  have hb : Nat.beq ci ci = true := Nat.beq_refl ci
  rcases ho with rfl | rfl <;> simp [vm_x, vm_x1, vm_gf, hc, hv, hb]
theorem vm_x_pf {ci k a pl idx : Nat} {fs : List Value} {v : Value} (hc : vm_g cs a = some (.inr (ci, fs))) (hk : Nat.blt k fs.length = true) (hv : vm_fit (G_ft ci k) v = true) : vm_x [.inr (.inr (.inl (1, pl, idx, ci, k)))] (lv, v :: .ref a :: st, cs) = some ([True], lv, st, vm_u cs a (.inr (ci, vm_u fs k v))) := by
  have hb : Nat.beq ci ci = true := Nat.beq_refl ci
  simp [vm_x, vm_x1, vm_pf, hc, hk, hv, hb]
end VM6
