/-! the words, the surroundings of a run, and one instruction over the machine -/
abbrev vm_M : Type := String × MethodName × ByteArray × Nat × Option FieldType × Nat × Nat
def G_big : List Jvm.Cond := lw_tbl.filter goodWord
def vm_at (pl : Nat) (w : Jvm.Cond) : Bool := decide (vm_g lw_tbl pl = some w) && goodWord w
theorem vm_at_in {pl : Nat} {w : Jvm.Cond} (h : vm_at pl w = true) : w ∈ G_big := by
  simp only [vm_at, Bool.and_eq_true, decide_eq_true_eq] at h
  rw [vm_g_eq] at h
  exact List.mem_filter.mpr ⟨List.mem_of_getElem? h.1, h.2⟩
def G_nest : List Jvm.Cond := [.methodLinkNest "ImageLoader$Image" 17 ⟨"ImageLoader$Segment", "<init>", "()V"⟩ "ImageLoader", .fieldLinkNest "ImageLoader$Image" 139 "ImageLoader$Segment" "offset" "J" "ImageLoader", .fieldLinkNest "ImageLoader$Image" 136 "ImageLoader$Segment" "filed" "J" "ImageLoader", .fieldLinkNest "ImageLoader$Image" 133 "ImageLoader$Segment" "held" "J" "ImageLoader", .fieldLinkNest "ImageLoader$Image" 183 "ImageLoader$Segment" "flags" "I" "ImageLoader", .methodLinkNest "ImageLoader$Space" 26 ⟨"ImageLoader", "isPage", "(I)Z"⟩ "ImageLoader", .methodLinkNest "ImageLoader$Space" 45 ⟨"ImageLoader", "isSize", "(I)Z"⟩ "ImageLoader"]
def vm_tys (tc : Nat → Nat) : List (ClassId × FieldType) := [(tc 0, .byte), (tc 1, .int), (tc 2, .long), (tc 3, .boolean), (tc 4, .object "ImageLoader$Segment")]
theorem vm_tys_at {tc : Nat → Nat} {t : Nat} {ty : FieldType} (h : vm_g G_ty t = some ty) : (vm_tys tc)[t]? = some (tc t, ty) := by
  match t, h with
  | 0, h => cases h; rfl
  | 1, h => cases h; rfl
  | 2, h => cases h; rfl
  | 3, h => cases h; rfl
  | 4, h => cases h; rfl
  | t + 5, h => simp [G_ty, vm_g] at h
def vm_T (ad : Nat → Nat) (A : Nat → Prop) (U : State) (H : Heap) : Prop := va_Z "ImageLoader$Image" "MAGIC" "[I" (.ref (ad 1000000)) A U H ∧ va_T .int (ad 1000000) 7 (fun j => .int (G_mag j)) A U H ∧ va_AO "ImageLoader$Segment" U
def vm_C (M : vm_M) (p : Program) (R : Room) (s : State) (m : MethodId) (args : Array Value) (meth : Method) (c : Code) (D : va_G) (ad tc : Nat → Nat) (A : Nat → Prop) : Prop :=
  p.tables.exec = Jvm.exec ∧ c.code = M.2.2.1 ∧ c.maxLocals = M.2.2.2.1 ∧ s.vm.findClass M.1 = some m.cls ∧ (∀ w ∈ G_big, w.before args s = true) ∧ va_K D vwCl (vm_tys tc) s ∧ (∀ q, s.heap.size ≤ q → A q) ∧
  (∀ w ∈ G_nest, va_Nw w s) ∧ meth.locks = false ∧ meth.name = M.2.1.name ∧ (M.2.2.2.2.2.1 ≤ R.frames ∧ M.2.2.2.2.2.2 ≤ R.locals) ∧ vm_T ad A s s.heap
def vm_W (p : Program) (l : Launch) (e : Env) (R : Room) (s : State) (m : MethodId) (args : Array Value) (below : List Frame) (meth : Method) (c : Code) (cells slots : Nat) (Q : State → Prop) (D : va_G) (ad tc : Nat → Nat) (A : Nat → Prop) (pc : Nat) (S : vm_S) : Prop :=
  ∀ (H : Heap) (locs : List Loc) (ls : Array Slot), vm_l ad ls S.1 → va_P D vwCl (vm_w ad tc 0 S.2.2) H → va_D A (vm_w ad tc 0 S.2.2) → va_S A s.heap H locs → W p l e R s m args below meth c H locs cells slots Q (F0 m pc ls (S.2.1.map (vm_v ad)))
set_option maxRecDepth 100000 in
theorem G_in0 : ∀ w ∈ u_ws RX0 TX0 13, w ∈ G_big := by decide +kernel
set_option maxRecDepth 100000 in
theorem G_in1 : ∀ w ∈ u_ws RX1 TX1 7, w ∈ G_big := by decide +kernel
set_option maxRecDepth 100000 in
theorem G_in2 : ∀ w ∈ u_ws RX2 TX2 4, w ∈ G_big := by decide +kernel
set_option maxRecDepth 100000 in
theorem G_in3 : ∀ w ∈ u_ws RX3 TX3 2, w ∈ G_big := by decide +kernel
set_option maxRecDepth 100000 in
theorem G_in4 : ∀ w ∈ u_ws RX4 TX4 8, w ∈ G_big := by decide +kernel
set_option maxRecDepth 100000 in
theorem G_in5 : ∀ w ∈ u_ws RX5 TX5 24, w ∈ G_big := by decide +kernel
theorem G_cl {ci : Nat} {C : String} {T : u_T} {N : Nat} (h : vm_g vwCl ci = some (C, T, N)) : vwCl[ci]? = some (C, T, N) ∧ (∀ w ∈ u_ws C T N, w ∈ G_big) ∧ (∀ k, k < N → parseFieldDescriptor (T k).2.2.1 = some (G_ft ci k)) ∧ (∀ a, a < N → ∀ b, b < N → a ≠ b → (T a).2.1 ≠ (T b).2.1) := by
  refine ⟨by rw [← vm_g_eq]; exact h, ?_⟩
  match ci, h with
  | 0, h => cases h; exact ⟨G_in0, tyX0_ok, nmX0⟩
  | 1, h => cases h; exact ⟨G_in1, tyX1_ok, nmX1⟩
  | 2, h => cases h; exact ⟨G_in2, tyX2_ok, nmX2⟩
  | 3, h => cases h; exact ⟨G_in3, tyX3_ok, nmX3⟩
  | 4, h => cases h; exact ⟨G_in4, tyX4_ok, nmX4⟩
  | 5, h => cases h; exact ⟨G_in5, tyX5_ok, nmX5⟩
  | n + 6, h => simp [vwCl, vm_g] at h
def vm_okc (M : vm_M) (raw : Instr) (len : Nat) (v : Value) (pl : Nat) : Bool := match raw, v with
  | .iconst n, .int x => decide (Int32.ofInt n = x) && Nat.beq len 1
  | .bipush n, .int x => decide ((Int8.ofInt n).toInt32 = x) && Nat.beq len 2
  | .sipush n, .int x => decide ((Int16.ofInt n).toInt32 = x) && Nat.beq len 3
  | .lconst n, .long x => decide (Int64.ofNat (n : Nat) = x) && Nat.beq len 1
  | .ldc2_w idx, .long x => vm_at pl (.constantLong M.1 idx x) && Nat.beq len 3
  | _, _ => false
def vm_okf (M : vm_M) (raw : Instr) (len op pl idx ci k : Nat) : Bool := match vm_g vwCl ci with
  | some (_, T, N) => Nat.beq len 3 && (Nat.blt k N && (match op with
    | 0 => decide (raw = .getfield idx) && vm_at pl (.fieldLink M.1 idx (T k).1 (T k).2.1 (T k).2.2.1)
    | 1 => decide (raw = .putfield idx) && (vm_at pl (.fieldLink M.1 idx (T k).1 (T k).2.1 (T k).2.2.1) && !(T k).2.2.2)
    | 2 => decide (raw = .getfield idx) && decide (vm_g G_nest pl = some (.fieldLinkNest M.1 idx (T k).1 (T k).2.1 (T k).2.2.1 "ImageLoader"))
    | 3 => decide (raw = .putfield idx) && (vm_at pl (.fieldLink M.1 idx (T k).1 (T k).2.1 (T k).2.2.1) && ((T k).2.2.2 && (decide ((T k).1 = M.1) && decide (M.2.1.name = "<init>"))))
    | 4 => decide (raw = .getstatic idx) && vm_at pl (.fieldLink M.1 idx "ImageLoader$Image" "MAGIC" "[I")
    | _ => false))
  | none => false
def vm_okI (M : vm_M) (raw : Instr) (len : Nat) (i : vm_I) : Bool := match i with
  | .inl j => decide (raw = j) && Nat.beq len (vm_len j)
  | .inr (.inl (v, pl)) => vm_okc M raw len v pl
  | .inr (.inr (.inl (op, pl, idx, ci, k))) => vm_okf M raw len op pl idx ci k
  | .inr (.inr (.inr (n, c))) => match raw with
    | .iinc n' k => Nat.beq n n' && (decide (Int32.ofInt k = c) && Nat.beq len 3)
    | _ => false
section VM3
variable {p : Program} {l : Launch} {e : Env} {R : Room} {s : State} {m : MethodId} {args : Array Value} {below : List Frame} {meth : Method} {c : Code} {cells slots : Nat} {Q : State → Prop} {D : va_G} {ad tc : Nat → Nat} {A : Nat → Prop} {M : vm_M} {pc pc' : Nat} {S S' : vm_S} {g : Prop}
theorem vm_li_ok {n : Nat} (hs : vm_li n S = some (g, S')) (row : ∀ (H : Heap) (locs : List Loc) (ls : Array Slot) (rest : List Value) (x : Int32), ls[n]? = some (.val (.int x)) → W p l e R s m args below meth c H locs cells slots Q (F0 m pc' ls (.int x :: rest)) → W p l e R s m args below meth c H locs cells slots Q (F0 m pc ls rest))
    (k : vm_W p l e R s m args below meth c cells slots Q D ad tc A pc' S') : vm_W p l e R s m args below meth c cells slots Q D ad tc A pc S := by
  unfold vm_li at hs
  split at hs
  · rename_i x hx
    cases hs
    intro H locs ls h1 h2 h3 h4
    exact row H locs ls _ x (vm_l_at h1 hx) (k H locs ls h1 h2 h3 h4)
  · cases hs
theorem vm_ll_ok {n : Nat} (hs : vm_ll n S = some (g, S')) (row : ∀ (H : Heap) (locs : List Loc) (ls : Array Slot) (rest : List Value) (x : Int64), ls[n]? = some (.val (.long x)) → W p l e R s m args below meth c H locs cells slots Q (F0 m pc' ls (.long x :: rest)) → W p l e R s m args below meth c H locs cells slots Q (F0 m pc ls rest))
    (k : vm_W p l e R s m args below meth c cells slots Q D ad tc A pc' S') : vm_W p l e R s m args below meth c cells slots Q D ad tc A pc S := by
  unfold vm_ll at hs
  split at hs
  · rename_i x hx
    cases hs
    intro H locs ls h1 h2 h3 h4
    exact row H locs ls _ x (vm_l_at h1 hx) (k H locs ls h1 h2 h3 h4)
  · cases hs
theorem vm_la_ok {n : Nat} (hs : vm_la n S = some (g, S')) (row : ∀ (H : Heap) (locs : List Loc) (ls : Array Slot) (rest : List Value) (x : Nat), ls[n]? = some (.val (.ref x)) → W p l e R s m args below meth c H locs cells slots Q (F0 m pc' ls (.ref x :: rest)) → W p l e R s m args below meth c H locs cells slots Q (F0 m pc ls rest))
    (k : vm_W p l e R s m args below meth c cells slots Q D ad tc A pc' S') : vm_W p l e R s m args below meth c cells slots Q D ad tc A pc S := by
  unfold vm_la at hs
  split at hs
  · rename_i x hx
    cases hs
    intro H locs ls h1 h2 h3 h4
    exact row H locs ls _ (ad x) (vm_l_at h1 hx) (k H locs ls h1 h2 h3 h4)
  · cases hs
theorem vm_blt {a b : Nat} {α : Type} {x y : α} (h : (bif Nat.blt a b then some x else none) = some y) : a < b ∧ x = y := by
  cases hb : Nat.blt a b with
  | false => rw [hb] at h; cases h
  | true => rw [hb] at h; exact ⟨Nat.le_of_ble_eq_true hb, Option.some.inj h⟩
theorem vm_si_ok {n : Nat} (hs : vm_si n S = some (g, S')) (row : ∀ (H : Heap) (locs : List Loc) (ls : Array Slot) (rest : List Value) (x : Int32) (nL : Nat) (lv : List (Nat × Value)), lv_has ls nL lv → n < nL → (∀ ls' : Array Slot, lv_has ls' nL ((n, Value.int x) :: lv.filter (fun q => !(q.1 == n) && !(q.1 + 1 == n && q.2.category == 2))) → W p l e R s m args below meth c H locs cells slots Q (F0 m pc' ls' rest)) → W p l e R s m args below meth c H locs cells slots Q (F0 m pc ls (.int x :: rest)))
    (k : vm_W p l e R s m args below meth c cells slots Q D ad tc A pc' S') : vm_W p l e R s m args below meth c cells slots Q D ad tc A pc S := by
  obtain ⟨lv, st, cs⟩ := S
  unfold vm_si at hs
  split at hs
  · rename_i x st' hx
    obtain ⟨hn, he⟩ := vm_blt hs
    cases he
    cases hx
    intro H locs ls h1 h2 h3 h4
    exact row H locs ls _ x _ _ h1 hn (fun ls' hl' => k H locs ls' (vm_l_s1 hl') h2 h3 h4)
  · cases hs
theorem vm_sa_ok {n : Nat} (hs : vm_sa n S = some (g, S')) (row : ∀ (H : Heap) (locs : List Loc) (ls : Array Slot) (rest : List Value) (x : Nat) (nL : Nat) (lv : List (Nat × Value)), lv_has ls nL lv → n < nL → (∀ ls' : Array Slot, lv_has ls' nL ((n, Value.ref x) :: lv.filter (fun q => !(q.1 == n) && !(q.1 + 1 == n && q.2.category == 2))) → W p l e R s m args below meth c H locs cells slots Q (F0 m pc' ls' rest)) → W p l e R s m args below meth c H locs cells slots Q (F0 m pc ls (.ref x :: rest)))
    (k : vm_W p l e R s m args below meth c cells slots Q D ad tc A pc' S') : vm_W p l e R s m args below meth c cells slots Q D ad tc A pc S := by
  obtain ⟨lv, st, cs⟩ := S
  unfold vm_sa at hs
  split at hs
  · rename_i x st' hx
    obtain ⟨hn, he⟩ := vm_blt hs
    cases he
    cases hx
    intro H locs ls h1 h2 h3 h4
    exact row H locs ls _ (ad x) _ _ h1 hn (fun ls' hl' => k H locs ls' (vm_l_s1 (v := .ref x) hl') h2 h3 h4)
  · cases hs
theorem vm_sl_ok {n : Nat} (hs : vm_sl n S = some (g, S')) (row : ∀ (H : Heap) (locs : List Loc) (ls : Array Slot) (rest : List Value) (x : Int64) (nL : Nat) (lv : List (Nat × Value)), lv_has ls nL lv → n + 1 < nL → (∀ ls' : Array Slot, lv_has ls' nL ((n, Value.long x) :: lv.filter (fun q => !(q.1 == n) && (!(q.1 == n + 1) && !(q.1 + 1 == n && q.2.category == 2)))) → W p l e R s m args below meth c H locs cells slots Q (F0 m pc' ls' rest)) → W p l e R s m args below meth c H locs cells slots Q (F0 m pc ls (.long x :: rest)))
    (k : vm_W p l e R s m args below meth c cells slots Q D ad tc A pc' S') : vm_W p l e R s m args below meth c cells slots Q D ad tc A pc S := by
  obtain ⟨lv, st, cs⟩ := S
  unfold vm_sl at hs
  split at hs
  · rename_i x st' hx
    obtain ⟨hn, he⟩ := vm_blt hs
    cases he
    cases hx
    intro H locs ls h1 h2 h3 h4
    exact row H locs ls _ x _ _ h1 hn (fun ls' hl' => k H locs ls' (vm_l_s2 hl') h2 h3 h4)
  · cases hs
theorem vm_inc_ok {n : Nat} {kk : Int32} (hs : vm_inc n kk S = some (g, S')) (row : ∀ (H : Heap) (locs : List Loc) (ls : Array Slot) (rest : List Value) (x : Int32) (nL j : Nat) (lv : List (Nat × Value)), lv_has ls nL lv → lv[j]? = some (n, .int x) → n < nL → (∀ ls' : Array Slot, lv_has ls' nL ((n, Value.int (x + kk)) :: lv.filter (fun q => !(q.1 == n) && !(q.1 + 1 == n && q.2.category == 2))) → W p l e R s m args below meth c H locs cells slots Q (F0 m pc' ls' rest)) → W p l e R s m args below meth c H locs cells slots Q (F0 m pc ls rest))
    (k : vm_W p l e R s m args below meth c cells slots Q D ad tc A pc' S') : vm_W p l e R s m args below meth c cells slots Q D ad tc A pc S := by
  obtain ⟨lv, st, cs⟩ := S
  unfold vm_inc at hs
  split at hs
  · rename_i x hx
    obtain ⟨hn, he⟩ := vm_blt hs
    cases he
    intro H locs ls h1 h2 h3 h4
    obtain ⟨j, hj⟩ := List.getElem?_of_mem ((vm_as_mem ad lv 0 (n, .int x)).mpr ⟨n, .int x, by simp, by rw [← vm_g_eq]; exact hx, rfl⟩)
    exact row H locs ls _ x _ j _ h1 hj hn (fun ls' hl' => k H locs ls' (vm_l_s1 (v := .int (x + kk)) hl') h2 h3 h4)
  · cases hs
theorem vm_ii_ok {f : Int32 → Int32 → Int32} (hs : vm_ii f S = some (g, S')) (row : ∀ (H : Heap) (locs : List Loc) (ls : Array Slot) (rest : List Value) (x y : Int32), W p l e R s m args below meth c H locs cells slots Q (F0 m pc' ls (.int (f x y) :: rest)) → W p l e R s m args below meth c H locs cells slots Q (F0 m pc ls (.int y :: .int x :: rest)))
    (k : vm_W p l e R s m args below meth c cells slots Q D ad tc A pc' S') : vm_W p l e R s m args below meth c cells slots Q D ad tc A pc S := by
  obtain ⟨lv, st, cs⟩ := S
  unfold vm_ii at hs
  split at hs
  · rename_i y x st' hx
    cases hs
    cases hx
    intro H locs ls h1 h2 h3 h4
    exact row H locs ls _ x y (k H locs ls h1 h2 h3 h4)
  · cases hs
theorem vm_iq_ok {f : Int32 → Int32 → Int32} (hs : vm_iq f S = some (g, S')) (hg : g) (row : ∀ (H : Heap) (locs : List Loc) (ls : Array Slot) (rest : List Value) (x y : Int32), ¬ y = 0 → W p l e R s m args below meth c H locs cells slots Q (F0 m pc' ls (.int (f x y) :: rest)) → W p l e R s m args below meth c H locs cells slots Q (F0 m pc ls (.int y :: .int x :: rest)))
    (k : vm_W p l e R s m args below meth c cells slots Q D ad tc A pc' S') : vm_W p l e R s m args below meth c cells slots Q D ad tc A pc S := by
  obtain ⟨lv, st, cs⟩ := S
  unfold vm_iq at hs
  split at hs
  · rename_i y x st' hx
    cases hs
    cases hx
    intro H locs ls h1 h2 h3 h4
    exact row H locs ls _ x y hg (k H locs ls h1 h2 h3 h4)
  · cases hs
theorem vm_jj_ok {f : Int64 → Int64 → Int64} (hs : vm_jj f S = some (g, S')) (row : ∀ (H : Heap) (locs : List Loc) (ls : Array Slot) (rest : List Value) (x y : Int64), W p l e R s m args below meth c H locs cells slots Q (F0 m pc' ls (.long (f x y) :: rest)) → W p l e R s m args below meth c H locs cells slots Q (F0 m pc ls (.long y :: .long x :: rest)))
    (k : vm_W p l e R s m args below meth c cells slots Q D ad tc A pc' S') : vm_W p l e R s m args below meth c cells slots Q D ad tc A pc S := by
  obtain ⟨lv, st, cs⟩ := S
  unfold vm_jj at hs
  split at hs
  · rename_i y x st' hx
    cases hs
    cases hx
    intro H locs ls h1 h2 h3 h4
    exact row H locs ls _ x y (k H locs ls h1 h2 h3 h4)
  · cases hs
theorem vm_jq_ok {f : Int64 → Int64 → Int64} (hs : vm_jq f S = some (g, S')) (hg : g) (row : ∀ (H : Heap) (locs : List Loc) (ls : Array Slot) (rest : List Value) (x y : Int64), ¬ y = 0 → W p l e R s m args below meth c H locs cells slots Q (F0 m pc' ls (.long (f x y) :: rest)) → W p l e R s m args below meth c H locs cells slots Q (F0 m pc ls (.long y :: .long x :: rest)))
    (k : vm_W p l e R s m args below meth c cells slots Q D ad tc A pc' S') : vm_W p l e R s m args below meth c cells slots Q D ad tc A pc S := by
  obtain ⟨lv, st, cs⟩ := S
  unfold vm_jq at hs
  split at hs
  · rename_i y x st' hx
    cases hs
    cases hx
    intro H locs ls h1 h2 h3 h4
    exact row H locs ls _ x y hg (k H locs ls h1 h2 h3 h4)
  · cases hs
theorem vm_ji_ok {f : Int64 → Int32 → Int64} (hs : vm_ji f S = some (g, S')) (row : ∀ (H : Heap) (locs : List Loc) (ls : Array Slot) (rest : List Value) (x : Int64) (y : Int32), W p l e R s m args below meth c H locs cells slots Q (F0 m pc' ls (.long (f x y) :: rest)) → W p l e R s m args below meth c H locs cells slots Q (F0 m pc ls (.int y :: .long x :: rest)))
    (k : vm_W p l e R s m args below meth c cells slots Q D ad tc A pc' S') : vm_W p l e R s m args below meth c cells slots Q D ad tc A pc S := by
  obtain ⟨lv, st, cs⟩ := S
  unfold vm_ji at hs
  split at hs
  · rename_i y x st' hx
    cases hs
    cases hx
    intro H locs ls h1 h2 h3 h4
    exact row H locs ls _ x y (k H locs ls h1 h2 h3 h4)
  · cases hs
theorem vm_1i_ok {f : Int32 → Value} (hf : ∀ x, vm_v ad (f x) = f x) (hs : vm_1i f S = some (g, S')) (row : ∀ (H : Heap) (locs : List Loc) (ls : Array Slot) (rest : List Value) (x : Int32), W p l e R s m args below meth c H locs cells slots Q (F0 m pc' ls (f x :: rest)) → W p l e R s m args below meth c H locs cells slots Q (F0 m pc ls (.int x :: rest)))
    (k : vm_W p l e R s m args below meth c cells slots Q D ad tc A pc' S') : vm_W p l e R s m args below meth c cells slots Q D ad tc A pc S := by
  obtain ⟨lv, st, cs⟩ := S
  unfold vm_1i at hs
  split at hs
  · rename_i x st' hx
    cases hs
    cases hx
    intro H locs ls h1 h2 h3 h4
    have k2 := k H locs ls h1 h2 h3 h4
    simp only [List.map_cons, hf] at k2
    exact row H locs ls _ x k2
  · cases hs
theorem vm_1j_ok {f : Int64 → Value} (hf : ∀ x, vm_v ad (f x) = f x) (hs : vm_1j f S = some (g, S')) (row : ∀ (H : Heap) (locs : List Loc) (ls : Array Slot) (rest : List Value) (x : Int64), W p l e R s m args below meth c H locs cells slots Q (F0 m pc' ls (f x :: rest)) → W p l e R s m args below meth c H locs cells slots Q (F0 m pc ls (.long x :: rest)))
    (k : vm_W p l e R s m args below meth c cells slots Q D ad tc A pc' S') : vm_W p l e R s m args below meth c cells slots Q D ad tc A pc S := by
  obtain ⟨lv, st, cs⟩ := S
  unfold vm_1j at hs
  split at hs
  · rename_i x st' hx
    cases hs
    cases hx
    intro H locs ls h1 h2 h3 h4
    have k2 := k H locs ls h1 h2 h3 h4
    simp only [List.map_cons, hf] at k2
    exact row H locs ls _ x k2
  · cases hs
end VM3
