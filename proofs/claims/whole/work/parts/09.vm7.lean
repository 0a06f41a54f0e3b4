/-! contracts of methods, and calls -/
def vm_ws (M : vm_M) : List Jvm.Cond := Jvm.Cond.code M.2.1 M.2.2.1 M.2.2.2.1 M.2.2.2.2.1 :: G_big
def vm_rm (M : vm_M) (bc bs : Nat) : Room := { frames := M.2.2.2.2.2.1, cells := bc, slots := bs, locals := M.2.2.2.2.2.2 }
def vm_Pc (D : va_G) (ad tc : Nat → Nat) (av : List Value) (cs : List va_E) (sz : Nat) : Array Value → State → Prop :=
  va_Pc (av.map (vm_v ad)) (fun U => U.heap.size = sz ∧ va_P D vwCl (vm_w ad tc 0 cs) U.heap ∧ va_K D vwCl (vm_tys tc) U ∧ va_D (fun _ => True) (vm_w ad tc 0 cs) ∧ (∀ w ∈ G_nest, va_Nw w U) ∧ vm_T ad (va_A (vm_w ad tc 0 cs) sz) U U.heap)
def vm_Qc (D : va_G) (ad tc : Nat → Nat) (cs : List va_E) (bc : Nat) (post : Option Value → List va_E → Prop) (sz : Nat) : Array Value → State → Outcome → State → Prop :=
  fun _ st oc t => (∃ (r : Option Value) (cs' : List va_E) (ad' : Nat → Nat), oc = .returned (r.map (vm_v ad')) ∧ post r cs' ∧ vm_ag cs.length ad ad' ∧ (bc = 0 → ad' = ad) ∧ va_P D vwCl (vm_w ad' tc 0 cs') t.heap ∧ va_K D vwCl (vm_tys tc) t ∧ va_D (va_A (vm_w ad tc 0 cs) sz) (vm_w ad' tc 0 cs')) ∧ va_F (va_A (vm_w ad tc 0 cs) sz) st t
def Ct (M : vm_M) (bc bs : Nat) (av : List Value) (cs : List va_E) (post : Option Value → List va_E → Prop) : Prop :=
  ∀ (l : Launch) (D : va_G) (ad tc : Nat → Nat) (sz : Nat), Met l M.2.1 (vm_ws M) (vm_rm M bc bs) (vm_Pc D ad tc av cs sz) (vm_Qc D ad tc cs bc post sz) bc bs (va_A (vm_w ad tc 0 cs) sz)
/-- the locals at the entry -/
def vm_e1 : List Value → List (Option Value)
  | [] => []
  | .long x :: vs => some (.long x) :: none :: vm_e1 vs
  | .double x :: vs => some (.double x) :: none :: vm_e1 vs
  | v :: vs => some v :: vm_e1 vs
def vm_en (n : Nat) (av : List Value) : List (Option Value) := vm_e1 av ++ List.replicate (n - (vm_e1 av).length) none
theorem vm_as_none (ad : Nat → Nat) : ∀ (k i : Nat), vm_as ad i (List.replicate k none) = []
  | 0, i => rfl
  | k + 1, i => by rw [List.replicate_succ, vm_as]; exact vm_as_none ad k (i + 1)
theorem vm_en_as (ad : Nat → Nat) (k : Nat) : ∀ (av : List Value) (i : Nat), vm_as ad i (vm_e1 av ++ List.replicate k none) = lv_args i (av.map (vm_v ad))
  | [], i => vm_as_none ad k i
  | .long x :: vs, i => by
    show (i, Value.long x) :: vm_as ad (i + 2) (vm_e1 vs ++ List.replicate k none) = (i, Value.long x) :: lv_args (i + 2) (vs.map (vm_v ad))
    rw [vm_en_as ad k vs (i + 2)]
  | .double x :: vs, i => by
    show (i, Value.double x) :: vm_as ad (i + 2) (vm_e1 vs ++ List.replicate k none) = (i, Value.double x) :: lv_args (i + 2) (vs.map (vm_v ad))
    rw [vm_en_as ad k vs (i + 2)]
  | .int x :: vs, i => by
    show (i, Value.int x) :: vm_as ad (i + 1) (vm_e1 vs ++ List.replicate k none) = (i, Value.int x) :: lv_args (i + 1) (vs.map (vm_v ad))
    rw [vm_en_as ad k vs (i + 1)]
  | .float x :: vs, i => by
    show (i, Value.float x) :: vm_as ad (i + 1) (vm_e1 vs ++ List.replicate k none) = (i, Value.float x) :: lv_args (i + 1) (vs.map (vm_v ad))
    rw [vm_en_as ad k vs (i + 1)]
  | .null :: vs, i => by
    show (i, Value.null) :: vm_as ad (i + 1) (vm_e1 vs ++ List.replicate k none) = (i, Value.null) :: lv_args (i + 1) (vs.map (vm_v ad))
    rw [vm_en_as ad k vs (i + 1)]
  | .ref x :: vs, i => by
    show (i, Value.ref (ad x)) :: vm_as ad (i + 1) (vm_e1 vs ++ List.replicate k none) = (i, Value.ref (ad x)) :: lv_args (i + 1) (vs.map (vm_v ad))
    rw [vm_en_as ad k vs (i + 1)]
  | .retAddr x :: vs, i => by
    show (i, Value.retAddr x) :: vm_as ad (i + 1) (vm_e1 vs ++ List.replicate k none) = (i, Value.retAddr x) :: lv_args (i + 1) (vs.map (vm_v ad))
    rw [vm_en_as ad k vs (i + 1)]
theorem vm_en_len (ad : Nat → Nat) : ∀ (av : List Value), (vm_e1 av).length = (lg_sl (av.map (vm_v ad))).length
  | [] => rfl
  | .long x :: vs => by simp [vm_e1, lg_sl, vm_v, Value.category, vm_en_len ad vs]
  | .double x :: vs => by simp [vm_e1, lg_sl, vm_v, Value.category, vm_en_len ad vs]
  | .int x :: vs => by simp [vm_e1, lg_sl, vm_v, Value.category, vm_en_len ad vs]
  | .float x :: vs => by simp [vm_e1, lg_sl, vm_v, Value.category, vm_en_len ad vs]
  | .null :: vs => by simp [vm_e1, lg_sl, vm_v, Value.category, vm_en_len ad vs]
  | .ref x :: vs => by simp [vm_e1, lg_sl, vm_v, Value.category, vm_en_len ad vs]
  | .retAddr x :: vs => by simp [vm_e1, lg_sl, vm_v, Value.category, vm_en_len ad vs]
theorem Ct.of {M : vm_M} {bc bs : Nat} {av : List Value} {cs : List va_E} {post : Option Value → List va_E → Prop} {lv : List (Option Value)} (hy : plainName M.2.1.cls = true ∧ M.2.1.cls = M.1) (hle : (vm_e1 av).length ≤ M.2.2.2.1) (hlv : vm_en M.2.2.2.1 av = lv) (k : Run M cs.length bc bs 0 (lv, [], cs) post) : Ct M bc bs av cs post := by
  intro l D ad tc sz
  refine Met.ofW (cc := M.2.2.1) (maxL := M.2.2.2.1) (ret := M.2.2.2.2.1) hy.1 rfl ?_
  intro p e s m args below meth c s₁ B hml hv
  obtain ⟨rfl, hsz, hP, hK, hD0, hN, hT⟩ := hv
  have hx := B.exec
  have hb := B.bytes
  have hr := B.returns
  have hts := atoms_spec (ws := vm_ws M) B.pre
  have hown : s.vm.findClass M.1 = some m.cls := by rw [← hy.2]; exact findClass_of_methodNamed B.named
  have hlocks := B.notSynchronized
  have hnm : meth.name = M.2.1.name := (name_of_methodNamed B.named B.method).1
  subst hsz
  have hD := hD0.self (sz := s.heap.size)
  have hl := lv_entry (av.map (vm_v ad)) (n := M.2.2.2.1) (by rw [← vm_en_len]; exact hle)
  rw [lg_entry_eq]
  generalize (lg_sl (av.map (vm_v ad)) ++ List.replicate (M.2.2.2.1 - (lg_sl (av.map (vm_v ad))).length) Slot.unset).toArray = ls at hl ⊢
  have hl2 : vm_l ad ls lv := by
    rw [← hlv]
    unfold vm_l vm_en
    rw [vm_en_as]
    have : (vm_e1 av ++ List.replicate (M.2.2.2.1 - (vm_e1 av).length) none).length = M.2.2.2.1 := by simp; omega
    rw [this]
    exact hl
  refine k p l e (vm_rm M bc bs) s m _ below meth c 0 0 _ D ad tc (va_A (vm_w ad tc 0 cs) s.heap.size) ⟨hx, hb, hml, hown, fun w hw => hts w (List.mem_cons_of_mem _ hw), hK, fun q h => Or.inr h, hN, hlocks, hnm, ⟨Nat.le_refl _, Nat.le_refl _⟩, hT⟩ (by show 0 + bc ≤ bc; omega) (by show 0 + bs ≤ bs; omega) ?_ s.heap [] ls hl2 hP hD va_S.rf
  intro r cs' ad' cells' slots' hp hag h0 hc' hs' pc' lv' hrt H locs ls h1 h2 h3 h4
  refine W.widen (k := bc) (n := bs) (by omega) (by omega) ?_
  match r, hp, hrt with
  | none, hp, hrt => exact W.vret hx hb (hr.trans hrt.2) (fun t ht hW => ⟨⟨none, cs', ad', rfl, hp, hag, h0, by rw [ht]; exact h2, va_K.moved hW.alike hK, h3⟩, h4.F ht⟩) h4.2.2 (vm_dec_ok hrt.1)
  | some (.int v), hp, hrt =>
    obtain ⟨h5, ty, h6, h7⟩ := hrt
    exact W.zret hx hb (hr.trans h6) h7 (fun t ht hW => ⟨⟨some (.int v), cs', ad', rfl, hp, hag, h0, by rw [ht]; exact h2, va_K.moved hW.alike hK, h3⟩, h4.F ht⟩) h4.2.2 (vm_dec_ok h5)
  | some (.long v), hp, hrt => exact W.lret hx hb (hr.trans hrt.2) (fun t ht hW => ⟨⟨some (.long v), cs', ad', rfl, hp, hag, h0, by rw [ht]; exact h2, va_K.moved hW.alike hK, h3⟩, h4.F ht⟩) h4.2.2 (vm_dec_ok hrt.1)
theorem vm_T.moved {ad : Nat → Nat} {A : Nat → Prop} {u U : State} {H : Heap} (hvm : u.vm.Alike U.vm) (h : vm_T ad A u H) : vm_T ad A U H := ⟨h.1.moved hvm, h.2.1.moved hvm, h.2.2.moved hvm⟩
theorem vm_nest_warm {s U : State} (hW : s.WarmedH U.vm) (h : ∀ w ∈ G_nest, va_Nw w s) : ∀ w ∈ G_nest, va_Nw w U := by
  have h0 := h _ (List.mem_of_getElem? (l := G_nest) (i := 0) rfl)
  have h1 := h _ (List.mem_of_getElem? (l := G_nest) (i := 1) rfl)
  have h2 := h _ (List.mem_of_getElem? (l := G_nest) (i := 2) rfl)
  have h3 := h _ (List.mem_of_getElem? (l := G_nest) (i := 3) rfl)
  have h4 := h _ (List.mem_of_getElem? (l := G_nest) (i := 4) rfl)
  have h5 := h _ (List.mem_of_getElem? (l := G_nest) (i := 5) rfl)
  have h6 := h _ (List.mem_of_getElem? (l := G_nest) (i := 6) rfl)
  intro w hw
  simp only [G_nest, List.mem_cons, List.not_mem_nil, or_false] at hw
  rcases hw with rfl | rfl | rfl | rfl | rfl | rfl | rfl
  · exact va_Nw.warmM hW h0
  · exact va_Nw.warmF hW h1
  · exact va_Nw.warmF hW h2
  · exact va_Nw.warmF hW h3
  · exact va_Nw.warmF hW h4
  · exact va_Nw.warmM hW h5
  · exact va_Nw.warmM hW h6
theorem vm_nest_tab : ∀ w ∈ G_nest, w.onTables = true := by decide +kernel
theorem vm_blind (D : va_G) (ad tc : Nat → Nat) (av : List Value) (cs : List va_E) (sz : Nat) : FrameBlind (vm_Pc D ad tc av cs sz) := by
  intro a U g mk q
  obtain ⟨q0, q1, qP, qK, qD, qN, qT⟩ := q
  exact ⟨q0, q1, qP, va_K.moved (u := U) (U := U.calling g mk a) (Vm.Alike.refl U.vm) qK, qD, fun w hw => va_Nw.same (u := U) (U := U.calling g mk a) (vm_nest_tab w hw) rfl (qN w hw), vm_T.moved (u := U) (U := U.calling g mk a) (Vm.Alike.refl U.vm) qT⟩
section VM7
variable {p : Program} {l : Launch} {e : Env} {R : Room} {s : State} {m : MethodId} {args : Array Value} {below : List Frame} {meth : Method} {c : Code} {cells slots : Nat} {Q : State → Prop} {D : va_G} {ad tc : Nat → Nat} {A : Nat → Prop} {M M' : vm_M} {H : Heap} {locs : List Loc} {cs : List va_E}
theorem vm_pre {av : List Value} (C : vm_C M p R s m args meth c D ad tc A) (hP : va_P D vwCl (vm_w ad tc 0 cs) H) (hD : va_D A (vm_w ad tc 0 cs)) (hS : va_S A s.heap H locs) (U : State) (hU : U.heap = H) (hW : s.WarmedH U.vm) : vm_Pc D ad tc av cs H.size (av.map (vm_v ad)).toArray U := by
  obtain ⟨hx, hb, hml, hown, hts, hK, hA, hN, hlk, hnm, hR, hT⟩ := C
  have hF : ∀ q, va_A (vm_w ad tc 0 cs) H.size q → A q := by
    intro q h
    rcases h with ⟨k, e, h⟩ | h
    · exact hD.2 k _ h
    · exact hA q (Nat.le_trans hS.1 h)
  refine ⟨rfl, by rw [hU], by rw [hU]; exact hP, va_K.moved hW.alike hK, hD.weaken (fun _ _ _ _ => trivial), vm_nest_warm hW hN, ?_⟩
  rw [hU]
  refine vm_T.moved hW.alike ⟨(hT.1.kept (fun a h1 h2 => hS.2.1 a h1 h2)).narrow hF, (hT.2.1.kept (fun a h1 h2 => hS.2.1 a h1 h2)).narrow hF, hT.2.2⟩
theorem vm_back {pc bc' bs' : Nat} {ls : Array Slot} {st0 rest : List Value} {a : Array Value} {post' : Option Value → List va_E → Prop} (C : vm_C M p R s m args meth c D ad tc A) (hD : va_D A (vm_w ad tc 0 cs)) (hS : va_S A s.heap H locs)
    (hr : va_Run p l e R s m args below meth c H locs cells slots bc' bs' (F0 m pc ls st0) rest (vm_Qc D ad tc cs bc' post' H.size a) (va_A (vm_w ad tc 0 cs) H.size))
    (kk : ∀ (r : Option Value) (cs' : List va_E) (ad' : Nat → Nat) (H1 : Heap) (locs1 : List Loc), post' r cs' → vm_ag cs.length ad ad' → (bc' = 0 → ad' = ad) → va_P D vwCl (vm_w ad' tc 0 cs') H1 → va_D A (vm_w ad' tc 0 cs') → va_S A s.heap H1 locs1 → W p l e R s m args below meth c H1 locs1 (cells + bc') (slots + bs') Q (F0 m (pc + 3) ls ((r.map (vm_v ad')).toList ++ rest))) : W p l e R s m args below meth c H locs cells slots Q (F0 m pc ls st0) := by
  obtain ⟨hx, hb, hml, hown, hts, hK, hA, hN, hlk, hnm, hR, hT⟩ := C
  have hF : ∀ q, va_A (vm_w ad tc 0 cs) H.size q → A q := by
    intro q h
    rcases h with ⟨k, e, h⟩ | h
    · exact hD.2 k _ h
    · exact hA q (Nat.le_trans hS.1 h)
  intro T hT X
  obtain ⟨v, st₀, t, T', L, h0, X', hL, e1, e2, ⟨⟨r, cs', ad', hv, hp, hag, hz0, hP1, hK1, hD1⟩, hz, hk⟩, st⟩ := hr T hT X
  cases hv
  rw [h0] at hz hk
  obtain ⟨t2, a1, b1⟩ := kk r cs' ad' T'.heap (locs ++ L) hp hag hz0 (by rw [e1]; exact hP1) (hD1.weaken (fun k q _ h => hF q.1 h))
    ⟨Nat.le_trans hS.1 (by rw [e1]; exact hz), fun q h1 h2 => by rw [e1, hk q (Nat.lt_of_lt_of_le h1 hS.1) (fun z => h2 (hF q z))]; exact hS.2.1 q h1 h2, fun q hq => by
      rcases List.mem_append.mp hq with h | h
      · exact hS.2.2 q h
      · exact hF _ (hL q h)⟩ T' rfl X'
  exact ⟨t2, st t2 a1, b1⟩
end VM7
