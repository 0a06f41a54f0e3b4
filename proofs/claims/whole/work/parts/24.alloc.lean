/-! rules that make cells, and constructors' calls -/
def vm_rv (n : Nat) : Value → Prop
  | .ref i => i < n ∨ 1000000 ≤ i
  | _ => True
def vm_re (n : Nat) : va_E → Prop
  | .inl (_, _, .inr (.inr (.inr (.inr f)))) => ∀ j a, f j = some a → a < n
  | .inl _ => True
  | .inr (_, fs) => ∀ v ∈ fs, vm_rv n v
def vm_wf (n : Nat) (lv : List (Option Value)) (st : List Value) (cs : List va_E) : Prop := (∀ v, some v ∈ lv → vm_rv n v) ∧ (∀ v ∈ st, vm_rv n v) ∧ (∀ e ∈ cs, vm_re n e)
theorem vm_v_ag {n : Nat} {ad ad' : Nat → Nat} (h : vm_ag n ad ad') {v : Value} (hv : vm_rv n v) : vm_v ad' v = vm_v ad v := by
  cases v with
  | ref i => exact congrArg Value.ref (h i hv)
  | _ => rfl
theorem vm_map_ag {n : Nat} {ad ad' : Nat → Nat} (h : vm_ag n ad ad') {st : List Value} (hv : ∀ v ∈ st, vm_rv n v) : st.map (vm_v ad') = st.map (vm_v ad) := List.map_congr_left (fun v hm => vm_v_ag h (hv v hm))
theorem vm_e_ag {n : Nat} {ad ad' tc : Nat → Nat} (h : vm_ag n ad ad') {e : va_E} (he : vm_re n e) : vm_e ad' tc e = vm_e ad tc e := by
  rcases e with ⟨t, k, f | f | f | f | f⟩ | ⟨c, fs⟩
  · rfl
  · rfl
  · rfl
  · rfl
  · have e1 : (fun j => (f j).map ad') = fun j => (f j).map ad := by
      funext j
      cases hf : f j with
      | none => rfl
      | some a => exact congrArg some (h a (Or.inl (he j a hf)))
    show (Sum.inl (tc t, k, Sum.inr (Sum.inr (Sum.inr (Sum.inr (fun j => (f j).map ad'))))) : va_E) = Sum.inl (tc t, k, Sum.inr (Sum.inr (Sum.inr (Sum.inr (fun j => (f j).map ad)))))
    rw [e1]
  · show (Sum.inr (c, fs.map (vm_v ad')) : va_E) = Sum.inr (c, fs.map (vm_v ad))
    rw [vm_map_ag h he]
theorem vm_w_ag {n : Nat} {ad ad' tc : Nat → Nat} (h : vm_ag n ad ad') : ∀ (cs : List va_E) (i : Nat), i + cs.length ≤ n → (∀ e ∈ cs, vm_re n e) → vm_w ad' tc i cs = vm_w ad tc i cs
  | [], i, _, _ => rfl
  | e :: cs, i, hl, he => by
    rw [List.length_cons] at hl
    unfold vm_w
    rw [h i (Or.inl (by omega)), vm_e_ag h (he e List.mem_cons_self), vm_w_ag h cs (i + 1) (by omega) (fun x hx => he x (List.mem_cons_of_mem _ hx))]
theorem vm_as_ag {n : Nat} {ad ad' : Nat → Nat} (h : vm_ag n ad ad') : ∀ (lv : List (Option Value)) (i : Nat), (∀ v, some v ∈ lv → vm_rv n v) → vm_as ad' i lv = vm_as ad i lv
  | [], i, _ => rfl
  | none :: lv, i, hv => by
    unfold vm_as
    exact vm_as_ag h lv (i + 1) (fun v hm => hv v (List.mem_cons_of_mem _ hm))
  | some v :: lv, i, hv => by
    unfold vm_as
    rw [vm_v_ag h (hv v List.mem_cons_self), vm_as_ag h lv (i + 1) (fun v hm => hv v (List.mem_cons_of_mem _ hm))]
theorem vm_w_app (ad tc : Nat → Nat) (e : va_E) : ∀ (cs : List va_E) (i : Nat), vm_w ad tc i (cs ++ [e]) = vm_w ad tc i cs ++ [(ad (i + cs.length), vm_e ad tc e)]
  | [], i => rfl
  | a :: cs, i => by
    show (ad i, vm_e ad tc a) :: vm_w ad tc (i + 1) (cs ++ [e]) = (ad i, vm_e ad tc a) :: (vm_w ad tc (i + 1) cs ++ [(ad (i + (cs.length + 1)), vm_e ad tc e)])
    rw [vm_w_app ad tc e cs (i + 1), show i + 1 + cs.length = i + (cs.length + 1) by omega]
theorem vm_ag_up {k : Nat} (hk : k < 1000000) (ad : Nat → Nat) (q : Nat) : vm_ag k ad (va_up ad k q) := by
  intro i hi
  exact va_up_ne ad q (by omega)
theorem vm_ag.trans {n : Nat} {a b c : Nat → Nat} (h1 : vm_ag n a b) (h2 : vm_ag n b c) : vm_ag n a c := fun i hi => (h2 i hi).trans (h1 i hi)
theorem vm_ag.mono {n k : Nat} {a b : Nat → Nat} (h : vm_ag n a b) (hk : k ≤ n) : vm_ag k a b := fun i hi => h i (by omega)
theorem vm_C_ag {M : vm_M} {p : Program} {R : Room} {s : State} {m : MethodId} {args : Array Value} {meth : Method} {c : Code} {D : va_G} {ad ad' tc : Nat → Nat} {A : Nat → Prop} {k : Nat} (h : vm_ag k ad ad') (C : vm_C M p R s m args meth c D ad tc A) : vm_C M p R s m args meth c D ad' tc A := by
  obtain ⟨hx, hb, hml, hown, hts, hK, hA, hN, hlk, hnm, hR, hT⟩ := C
  refine ⟨hx, hb, hml, hown, hts, hK, hA, hN, hlk, hnm, hR, ?_⟩
  unfold vm_T
  rw [h 1000000 (Or.inr (by decide))]
  exact hT
section VM9
variable {M M' : vm_M} {n bc bs pc idx : Nat} {post post' : Option Value → List va_E → Prop} {lv : List (Option Value)} {st rest As : List Value} {cs : List va_E}
/-- a cell more: what all that make one share -/
theorem vm_more {e : va_E} {pc' sz : Nat} (hlen : cs.length < 1000000) (hn : n ≤ cs.length) (hwf : vm_wf cs.length lv st cs)
    (k : Run M n bc bs pc' (lv, .ref cs.length :: st, cs ++ [e]) post)
    {p : Program} {l : Launch} {e0 : Env} {R : Room} {s : State} {m : MethodId} {args : Array Value} {below : List Frame} {meth : Method} {c : Code} {cells slots : Nat} {Q : State → Prop} {D : va_G} {ad tc : Nat → Nat} {A : Nat → Prop}
    (C : vm_C M p R s m args meth c D ad tc A) (hc : cells + (bc + 1) ≤ R.cells) (hs : slots + (bs + sz) ≤ R.slots)
    (hq : ∀ (r : Option Value) (cs' : List va_E) (ad' : Nat → Nat) (cells' slots' : Nat), post r cs' → vm_ag n ad ad' → (bc + 1 = 0 → ad' = ad) → cells' ≤ cells + (bc + 1) → slots' ≤ slots + (bs + sz) → ∀ (pc' : Nat) (lv' : List (Option Value)), vm_rt M pc' r → vm_W p l e0 R s m args below meth c cells' slots' Q D ad' tc A pc' (lv', r.toList, cs'))
    {H : Heap} {locs : List Loc} {ls : Array Slot} (h1 : vm_l ad ls lv) (q : Nat) (he : vm_e (va_up ad cs.length q) tc e = vm_e ad tc e) {H1 : Heap} (hP1 : va_P D vwCl (vm_w ad tc 0 cs ++ [(q, vm_e ad tc e)]) H1) (hD1 : va_D A (vm_w ad tc 0 cs ++ [(q, vm_e ad tc e)])) (hS1 : va_S A s.heap H1 locs) :
    W p l e0 R s m args below meth c H1 locs (cells + 1) (slots + sz) Q (F0 m pc' ls (.ref q :: st.map (vm_v ad))) := by
  have hag := vm_ag_up hlen ad q
  have hw : vm_w (va_up ad cs.length q) tc 0 (cs ++ [e]) = vm_w ad tc 0 cs ++ [(q, vm_e ad tc e)] := by
    rw [vm_w_app, Nat.zero_add, va_up_self, he, vm_w_ag hag cs 0 (by omega) hwf.2.2]
  have hl : vm_l (va_up ad cs.length q) ls lv := by
    unfold vm_l
    rw [vm_as_ag hag lv 0 hwf.1]
    exact h1
  have k2 := k p l e0 R s m args below meth c (cells + 1) (slots + sz) Q D (va_up ad cs.length q) tc A (vm_C_ag hag C) (by omega) (by omega) (fun r cs' ad' cells' slots' hp ha _ hc' hs' => hq r cs' ad' cells' slots' hp ((hag.mono hn).trans ha) (fun z => by omega) (by omega) (by omega)) H1 locs ls hl (by rw [hw]; exact hP1) (by rw [hw]; exact hD1) hS1
  have hst : (Value.ref cs.length :: st).map (vm_v (va_up ad cs.length q)) = .ref q :: st.map (vm_v ad) := by
    rw [List.map_cons, vm_map_ag hag hwf.2.1]
    show Value.ref (va_up ad cs.length q cs.length) :: _ = _
    rw [va_up_self]
  rw [hst] at k2
  exact k2
theorem Run.new {ci N : Nat} {Cn : String} {T : u_T} {fs : List Value} (hd : vm_dec M pc (.new idx) 3 = true) (hcl : vm_g vwCl ci = some (Cn, T, N)) (P : Nat × Nat × Nat) (hok : (vm_at P.1 (.classLink M.1 idx Cn) && (vm_at P.2.1 (.instantiable Cn N) && vm_at P.2.2 (.initialized Cn))) = true) (hfs : ∀ j, j < N → defaultValue (G_ft ci j) = vp_V fs j) (hnr : ∀ ad, fs.map (vm_v ad) = fs)
    (hlen : cs.length < 1000000) (hn : n ≤ cs.length) (hwf : vm_wf cs.length lv st cs) (k : Run M n bc bs (pc + 3) (lv, .ref cs.length :: st, cs ++ [.inr (ci, fs)]) post) : Run M n (bc + 1) (bs + N) pc (lv, st, cs) post := by
  intro p l e R s m args below meth c cells slots Q D ad tc A C hc hs hq H locs ls h1 h2 h3 h4
  have C' := C
  obtain ⟨hx, hb, hml, hown, hts, hK, hA, hN, hlk, hnm, hR, hT⟩ := C'
  obtain ⟨e0, e1, e2, e3⟩ := G_cl hcl
  simp only [Bool.and_eq_true] at hok
  refine va_new hx hb hts e1 (G_ft ci) e2 hown (hts _ (vm_at_in hok.1)) (hts _ (vm_at_in hok.2.1)) (hts _ (vm_at_in hok.2.2)) hK h2 h3 h4 hA e0 hfs (by omega) (by omega) (vm_dec_ok hd) (fun q H1 hP1 hD1 hS1 => ?_)
  have he : ∀ ad, vm_e ad tc (.inr (ci, fs)) = .inr (ci, fs) := fun ad => by
    show (Sum.inr (ci, fs.map (vm_v ad)) : va_E) = _
    rw [hnr]
  exact vm_more (sz := N) hlen hn hwf k C hc hs hq (H := H) h1 q (by rw [he, he]) (by rw [he]; exact hP1) (by rw [he]; exact hD1) hS1
def vm_aty : ArrayType → Nat
  | .byte => 0
  | .int => 1
  | .long => 2
  | _ => 3
def vm_a0 : ArrayType → (Nat → Int32) ⊕ (Nat → Int64) ⊕ (Nat → UInt32) ⊕ (Nat → UInt64) ⊕ (Nat → Option Nat)
  | .long => .inr (.inl (fun _ => 0))
  | _ => .inl (fun _ => 0)
theorem Run.newa {at9 : ArrayType} {x : Int32} {N P : Nat} (hat : at9 = .byte ∨ at9 = .int ∨ at9 = .long ∨ at9 = .boolean) (hd : vm_dec M pc (.newarray at9) 2 = true) (hok : vm_at P (.arrayClass (newarray.typeOf at9)) = true) (hx0 : ¬ x < 0) (hN0 : x.toNatClampNeg = N) (hby : N * 8 ≤ 536870912)
    (hlen : cs.length < 1000000) (hn : n ≤ cs.length) (hwf : vm_wf cs.length lv st cs) (k : Run M n bc bs (pc + 2) (lv, .ref cs.length :: st, cs ++ [.inl (vm_aty at9, N, vm_a0 at9)]) post) : Run M n (bc + 1) (bs + N) pc (lv, .int x :: st, cs) post := by
  intro p l e R s m args below meth c cells slots Q D ad tc A C hc hs hq H locs ls h1 h2 h3 h4
  have C' := C
  obtain ⟨hx, hb, hml, hown, hts, hK, hA, hN, hlk, hnm, hR, hT⟩ := C'
  have hfin : ∀ (q : Nat) (cA : ClassId) (H1 : Heap), va_K D vwCl (vm_tys tc ++ [(cA, newarray.typeOf at9)]) s → va_P D vwCl (vm_w ad tc 0 cs ++ [(q, .inl (cA, N, vm_a0 at9))]) H1 → va_D A (vm_w ad tc 0 cs ++ [(q, .inl (cA, N, vm_a0 at9))]) → va_S A s.heap H1 locs → W p l e R s m args below meth c H1 locs (cells + 1) (slots + N) Q (F0 m (pc + 2) ls (.ref q :: st.map (vm_v ad))) := by
    intro q cA H1 hK1 hP1 hD1 hS1
    have hcA : cA = tc (vm_aty at9) := by
      have g1 := (hK1.2 5 (cA, newarray.typeOf at9) rfl).2
      rcases hat with rfl | rfl | rfl | rfl
      · exact Option.some.inj (g1.symm.trans (hK.2 0 _ rfl).2)
      · exact Option.some.inj (g1.symm.trans (hK.2 1 _ rfl).2)
      · exact Option.some.inj (g1.symm.trans (hK.2 2 _ rfl).2)
      · exact Option.some.inj (g1.symm.trans (hK.2 3 _ rfl).2)
    have he : ∀ ad, vm_e ad tc (.inl (vm_aty at9, N, vm_a0 at9)) = .inl (cA, N, vm_a0 at9) := fun ad => by
      rw [hcA]
      rcases hat with rfl | rfl | rfl | rfl <;> rfl
    exact vm_more (sz := N) hlen hn hwf k C hc hs hq (H := H) h1 q (by rw [he, he]) (by rw [he]; exact hP1) (by rw [he]; exact hD1) hS1
  refine va_newa hx hb (hts _ (vm_at_in hok)) rfl hK h2 h3 h4 hA (a0 := (N, vm_a0 at9)) (N' := N) ?_ hx0 hN0 ?_ (by omega) (by omega) (vm_dec_ok hd) hfin
  · intro cA
    rcases hat with rfl | rfl | rfl | rfl
    · exact vp_cell_i cA N _
    · exact vp_cell_i cA N _
    · exact vp_cell_l cA N _
    · exact vp_cell_i cA N _
  · rcases hat with rfl | rfl | rfl | rfl <;> (show N * _ ≤ _; simp [newarray.typeOf, componentBytes]; omega)
theorem Run.objInit {a P1 P2 P3 : Nat} (hd : vm_dec M pc (.invokespecial idx) 3 = true) (hok : (vm_at P1 (.methodLink M.1 idx Lib.objectInit) && (vm_at P2 (.instanceMethod Lib.objectInit) && vm_at P3 (.code Lib.objectInit ⟨#[0xb1]⟩ 1 none))) = true) (hrm : 1 ≤ M.2.2.2.2.2.1 ∧ (st.map Value.category).sum + 12 ≤ M.2.2.2.2.2.2) (hll : lv.length = M.2.2.2.1) (k : Run M n bc bs (pc + 3) (lv, st, cs) post) : Run M n bc bs pc (lv, .ref a :: st, cs) post := by
  intro p l e R s m args below meth c cells slots Q D ad tc A C hc hs hq H locs ls h1 h2 h3 h4
  have k2 := k p l e R s m args below meth c cells slots Q D ad tc A C hc hs hq H locs ls h1 h2 h3 h4
  obtain ⟨hx, hb, hml, hown, hts, hK, hA, hN, hlk, hnm, hR, hT⟩ := C
  simp only [Bool.and_eq_true] at hok
  refine W.objInit hx hb hown (hts _ (vm_at_in hok.1)) (hts _ (vm_at_in hok.2.1)) (hts _ (vm_at_in hok.2.2)) rfl (by rw [hml, ← hll]; exact h1.1) rfl (vm_dec_ok hd) (by omega) ?_ k2
  show 2 * 0 + _ + 12 ≤ R.locals
  rw [vm_sum]
  omega
end VM9
