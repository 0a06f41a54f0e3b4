/-! arrays of references; constructors' calls -/
section VM10
variable {M M' : vm_M} {n bc bs pc idx : Nat} {post post' : Option Value → List va_E → Prop} {lv : List (Option Value)} {st rest As : List Value} {cs : List va_E}
theorem Run.newq {x : Int32} {N P : Nat} (hd : vm_dec M pc (.anewarray idx) 3 = true) (hok : vm_at P (.classLink M.1 idx "ImageLoader$Segment") = true) (hx0 : ¬ x < 0) (hN0 : x.toNatClampNeg = N) (hby : N * 4 ≤ 536870912)
    (hlen : cs.length < 1000000) (hn : n ≤ cs.length) (hwf : vm_wf cs.length lv st cs) (k : Run M n bc bs (pc + 3) (lv, .ref cs.length :: st, cs ++ [.inl (4, N, .inr (.inr (.inr (.inr (fun _ => none)))))]) post) : Run M n (bc + 1) (bs + N) pc (lv, .int x :: st, cs) post := by
  intro p l e R s m args below meth c cells slots Q D ad tc A C hc hs hq H locs ls h1 h2 h3 h4
  have C' := C
  obtain ⟨hx, hb, hml, hown, hts, hK, hA, hN, hlk, hnm, hR, hT⟩ := C'
  refine va_newq hx hb hown (hts _ (vm_at_in hok)) hT.2.2 hK h2 h3 h4 hA hx0 hN0 hby (by omega) (by omega) (vm_dec_ok hd) (fun q cA H1 hK1 hP1 hD1 hS1 => ?_)
  have hcA : cA = tc 4 := by
    obtain ⟨_, _, _, _, _, g1⟩ := (hK1.2 5 (cA, .object "ImageLoader$Segment") rfl).2
    obtain ⟨_, _, _, _, _, g2⟩ := (hK.2 4 _ rfl).2
    exact Option.some.inj (g1.symm.trans g2)
  have he : ∀ ad, vm_e ad tc (.inl (4, N, .inr (.inr (.inr (.inr (fun _ => none)))))) = .inl (cA, N, .inr (.inr (.inr (.inr (fun _ => none))))) := fun ad => by rw [hcA]; rfl
  exact vm_more (sz := N) hlen hn hwf k C hc hs hq (H := H) h1 q (by rw [he, he]) (by rw [he]; exact hP1) (by rw [he]; exact hD1) hS1
theorem Run.aast {i : Int32} {a v N : Nat} {f : Nat → Option Nat} {vs : List Value} (hd : vm_dec M pc .aastore 1 = true) (hc : vm_g cs a = some (.inl (4, N, .inr (.inr (.inr (.inr f)))))) (hv : vm_g cs v = some (.inr (1, vs))) (hin : vp_in i N)
    (k : Run M n bc bs (pc + 1) (lv, st, vm_u cs a (.inl (4, N, .inr (.inr (.inr (.inr (va_up f i.toNatClampNeg (some v)))))))) post) : Run M n bc bs pc (lv, .ref v :: .int i :: .ref a :: st, cs) post := by
  intro p l e R s m args below meth c cells slots Q D ad tc A C hcc hs hq H locs ls h1 h2 h3 h4
  have k2 := k p l e R s m args below meth c cells slots Q D ad tc A C hcc hs hq
  obtain ⟨hx, hb, hml, hown, hts, hK, hA, hN, hlk, hnm, hR, hT⟩ := C
  refine va_astq hx hb hK h2 h3 h4 a 4 v 1 (r := (RX1, TX1, 7)) (vm_w_at hc) rfl (vm_w_at hv) rfl hin (vm_dec_ok hd) (fun H1 locs1 p1 d1 s1 => ?_)
  have e1 : va_up (fun j => (f j).map ad) i.toNatClampNeg (some (ad v)) = fun j => (va_up f i.toNatClampNeg (some v) j).map ad := by
    funext j
    unfold va_up
    by_cases hj : j = i.toNatClampNeg
    · rw [if_pos hj, if_pos hj]; rfl
    · rw [if_neg hj, if_neg hj]
  rw [e1] at p1 d1
  exact k2 H1 locs1 ls h1 (vm_wP p1) (vm_wD d1) s1
/-- methodLink, instanceMethod, initialized, code -/
def vm_okJ (M M' : vm_M) (pc idx n : Nat) (P : Nat × Nat × Nat × Nat) : Bool :=
  vm_dec M pc (.invokespecial idx) 3 && (vm_at P.1 (.methodLink M.1 idx M'.2.1) && (vm_at P.2.1 (.instanceMethod M'.2.1) && (vm_at P.2.2.1 (.initialized M'.2.1.cls) && (vm_at P.2.2.2 (.code M'.2.1 M'.2.2.1 M'.2.2.2.1 M'.2.2.2.2.1) && (vm_okR M M' n && (decide (M'.2.1.name = "<init>") && decide (M'.2.2.2.2.1 = none)))))))
def vm_okK (M M' : vm_M) (pc idx n : Nat) (P : Nat × Nat × Nat × Nat) : Bool :=
  vm_dec M pc (.invokespecial idx) 3 && (decide (vm_g G_nest P.1 = some (.methodLinkNest M.1 idx M'.2.1 "ImageLoader")) && (vm_at P.2.1 (.instanceMethod M'.2.1) && (vm_at P.2.2.1 (.initialized M'.2.1.cls) && (vm_at P.2.2.2 (.code M'.2.1 M'.2.2.1 M'.2.2.2.1 M'.2.2.2.2.1) && (vm_okR M M' n && (decide (M'.2.1.name = "<init>") && decide (M'.2.2.2.2.1 = none)))))))
theorem vm_after {bc' bs' : Nat} {pc' : Nat} (hn : n ≤ cs.length) (hwf : vm_wf cs.length lv rest []) (k : ∀ r cs', post' r cs' → Run M n bc bs pc' (lv, r.toList ++ rest, cs') post)
    {p : Program} {l : Launch} {e0 : Env} {R : Room} {s : State} {m : MethodId} {args : Array Value} {below : List Frame} {meth : Method} {c : Code} {cells slots : Nat} {Q : State → Prop} {D : va_G} {ad tc : Nat → Nat} {A : Nat → Prop}
    (C : vm_C M p R s m args meth c D ad tc A) (hc : cells + (bc' + bc) ≤ R.cells) (hs : slots + (bs' + bs) ≤ R.slots)
    (hq : ∀ (r : Option Value) (cs' : List va_E) (ad' : Nat → Nat) (cells' slots' : Nat), post r cs' → vm_ag n ad ad' → (bc' + bc = 0 → ad' = ad) → cells' ≤ cells + (bc' + bc) → slots' ≤ slots + (bs' + bs) → ∀ (pc' : Nat) (lv' : List (Option Value)), vm_rt M pc' r → vm_W p l e0 R s m args below meth c cells' slots' Q D ad' tc A pc' (lv', r.toList, cs'))
    {ls : Array Slot} (h1 : vm_l ad ls lv) (r : Option Value) (cs' : List va_E) (ad' : Nat → Nat) (H1 : Heap) (locs1 : List Loc) (hp : post' r cs') (hag : vm_ag cs.length ad ad') (h0 : bc' = 0 → ad' = ad) (hP1 : va_P D vwCl (vm_w ad' tc 0 cs') H1) (hD1 : va_D A (vm_w ad' tc 0 cs')) (hS1 : va_S A s.heap H1 locs1) :
    W p l e0 R s m args below meth c H1 locs1 (cells + bc') (slots + bs') Q (F0 m pc' ls ((r.map (vm_v ad')).toList ++ rest.map (vm_v ad))) := by
  have hl : vm_l ad' ls lv := by
    unfold vm_l
    rw [vm_as_ag hag lv 0 hwf.1]
    exact h1
  have k2 := k r cs' hp p l e0 R s m args below meth c (cells + bc') (slots + bs') Q D ad' tc A (vm_C_ag hag C) (by omega) (by omega) (fun r2 cs2 ad2 cells' slots' hp2 ha hz hc' hs' => hq r2 cs2 ad2 cells' slots' hp2 ((hag.mono hn).trans ha) (fun z => (hz (by omega)).trans (h0 (by omega))) (by omega) (by omega)) H1 locs1 ls hl hP1 hD1 hS1
  rw [vm_map_st, vm_map_ag hag hwf.2.1] at k2
  exact k2
theorem Run.callI {b bc' bs' : Nat} {P : Nat × Nat × Nat × Nat} (hok : vm_okJ M M' pc idx As.length P = true) (hct : Ct M' bc' bs' (.ref b :: As) cs post') (hst : st = As.reverse ++ .ref b :: rest) (hrest : (rest.map Value.category).sum ≤ 8) (hlen : lv.length = M.2.2.2.1) (hn : n ≤ cs.length) (hwf : vm_wf cs.length lv rest [])
    (k : ∀ r cs', post' r cs' → Run M n bc bs (pc + 3) (lv, r.toList ++ rest, cs') post) : Run M n (bc' + bc) (bs' + bs) pc (lv, st, cs) post := by
  intro p l e R s m args below meth c cells slots Q D ad tc A C hc hs hq H locs ls h1 h2 h3 h4
  have C' := C
  obtain ⟨hx, hb, hml, hown, hts, hK, hA, hN, hlk, hnm, hR, hT⟩ := C'
  simp only [vm_okJ, Bool.and_eq_true, decide_eq_true_eq] at hok
  obtain ⟨o1, o2, o3, o4, o5, o6, o7, o8⟩ := hok
  obtain ⟨r1, r2, r3⟩ := vm_okR_ok o6 hR
  have hw : vm_ws M' = Jvm.Cond.code M'.2.1 M'.2.2.1 M'.2.2.2.1 none :: G_big := by rw [← o8]; rfl
  have hcw := cwI (R := R) (s := s) (args := args) (own := M.1) (index := idx) (y := M'.2.1) (bytes := M'.2.2.1) (maxL := M'.2.2.2.1) (ws := vm_ws M') (rm := vm_rm M' bc' bs') (mc := bc') (ms := bs') As.length hts (vm_goodWs (vm_at_in o5)) hw rfl rfl (hts _ (vm_at_in o4)) (hts _ (vm_at_in o2)) (hts _ (vm_at_in o3)) o7 r2 r3
  refine vm_back C h3 h4 (va_runI (As := As.map (vm_v ad)) (b := ad b) (rest := rest.map (vm_v ad)) ⟨hx, hb, hml, hown, hts⟩ (hct l D ad tc H.size) hcw ⟨vm_blind D ad tc _ cs _, fun U hU hW => vm_pre (av := .ref b :: As) C h2 h3 h4 U hU hW⟩ rfl (by simp) (h1.1.trans hlen) ?_ (lv_room (by rw [vm_sum]; exact hrest)) (vm_dec_ok o1) ⟨by omega, by omega⟩) ?_
  · show st.map (vm_v ad) = _
    rw [hst]
    simp [vm_v]
  · intro r cs' ad' H1 locs1 hp hag h0 hP1 hD1 hS1
    exact vm_after hn hwf k C hc hs hq h1 r cs' ad' H1 locs1 hp hag h0 hP1 hD1 hS1
theorem Run.callIN {b bc' bs' : Nat} {P : Nat × Nat × Nat × Nat} (hok : vm_okK M M' pc idx As.length P = true) (hct : Ct M' bc' bs' (.ref b :: As) cs post') (hst : st = As.reverse ++ .ref b :: rest) (hrest : (rest.map Value.category).sum ≤ 8) (hlen : lv.length = M.2.2.2.1) (hn : n ≤ cs.length) (hwf : vm_wf cs.length lv rest [])
    (k : ∀ r cs', post' r cs' → Run M n bc bs (pc + 3) (lv, r.toList ++ rest, cs') post) : Run M n (bc' + bc) (bs' + bs) pc (lv, st, cs) post := by
  intro p l e R s m args below meth c cells slots Q D ad tc A C hc hs hq H locs ls h1 h2 h3 h4
  have C' := C
  obtain ⟨hx, hb, hml, hown, hts, hK, hA, hN, hlk, hnm, hR, hT⟩ := C'
  simp only [vm_okK, Bool.and_eq_true, decide_eq_true_eq] at hok
  obtain ⟨o1, o2, o3, o4, o5, o6, o7, o8⟩ := hok
  rw [vm_g_eq] at o2
  obtain ⟨r1, r2, r3⟩ := vm_okR_ok o6 hR
  have hw : vm_ws M' = Jvm.Cond.code M'.2.1 M'.2.2.1 M'.2.2.2.1 none :: G_big := by rw [← o8]; rfl
  have hcw := va_cnB (R := R) (s := s) (args := args) (own := M.1) (host := "ImageLoader") (index := idx) (y := M'.2.1) (bytes := M'.2.2.1) (maxL := M'.2.2.2.1) (ret := none) (ws := vm_ws M') (rm := vm_rm M' bc' bs') (mc := bc') (ms := bs') As.length hts (vm_goodWs (vm_at_in o5)) hw rfl rfl (hN _ (List.mem_of_getElem? o2)) (hts _ (vm_at_in o4)) r2 r3
  refine vm_back C h3 h4 (va_runIN (As := As.map (vm_v ad)) (b := ad b) (rest := rest.map (vm_v ad)) ⟨hx, hb, hml, hown, hts⟩ (hct l D ad tc H.size) ⟨hcw, o7, hts _ (vm_at_in o3)⟩ ⟨vm_blind D ad tc _ cs _, fun U hU hW => vm_pre (av := .ref b :: As) C h2 h3 h4 U hU hW⟩ rfl (by simp) (h1.1.trans hlen) ?_ (lv_room (by rw [vm_sum]; exact hrest)) (vm_dec_ok o1) ⟨by omega, by omega⟩) ?_
  · show st.map (vm_v ad) = _
    rw [hst]
    simp [vm_v]
  · intro r cs' ad' H1 locs1 hp hag h0 hP1 hD1 hS1
    exact vm_after hn hwf k C hc hs hq h1 r cs' ad' H1 locs1 hp hag h0 hP1 hD1 hS1
end VM10
