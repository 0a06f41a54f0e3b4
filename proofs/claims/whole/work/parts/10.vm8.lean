/-! calls that make no cells -/
theorem vm_good {w : Jvm.Cond} (h : w ∈ G_big) : w ∈ G_big ∧ ((w.onTables && w.keeps) = true ∨ ∃ ty, w = .arrayClass ty) := ⟨h, good_of_word (List.mem_filter.mp h).2⟩
theorem vm_goodWs {M : vm_M} (h : Jvm.Cond.code M.2.1 M.2.2.1 M.2.2.2.1 M.2.2.2.2.1 ∈ G_big) : GoodIn G_big (vm_ws M) := by
  intro w hw
  rcases List.mem_cons.mp hw with rfl | hw
  · exact vm_good h
  · exact vm_good hw
def vm_okR (M M' : vm_M) (n : Nat) : Bool := decide (M'.2.1.cls = M'.1) && (decide (M'.2.1.cls ≠ "java/lang/invoke/MethodHandle") && (decide (M'.2.1.cls ≠ "java/lang/invoke/VarHandle") && (decide ((parseMethodDescriptor M'.2.1.desc).map (fun d => d.parameters.length) = some n) && (Nat.ble (M'.2.2.2.2.2.1 + 1) M.2.2.2.2.2.1 && Nat.ble (8 + (M'.2.2.2.1 + 11) + M'.2.2.2.2.2.2) M.2.2.2.2.2.2))))
theorem vm_okR_ok {M M' : vm_M} {n : Nat} {R : Room} (h : vm_okR M M' n = true) (hR : M.2.2.2.2.2.1 ≤ R.frames ∧ M.2.2.2.2.2.2 ≤ R.locals) : M'.2.1.cls = M'.1 ∧ (M'.2.1.cls ≠ "java/lang/invoke/MethodHandle" ∧ M'.2.1.cls ≠ "java/lang/invoke/VarHandle" ∧ (parseMethodDescriptor M'.2.1.desc).map (fun d => d.parameters.length) = some n) ∧ (M'.2.2.2.2.2.1 + 1 ≤ R.frames ∧ 8 + (M'.2.2.2.1 + 11) + M'.2.2.2.2.2.2 ≤ R.locals) := by
  simp only [vm_okR, Bool.and_eq_true, decide_eq_true_eq] at h
  obtain ⟨h1, h2, h3, h4, h5, h6⟩ := h
  exact ⟨h1, ⟨h2, h3, h4⟩, Nat.le_trans (Nat.le_of_ble_eq_true h5) hR.1, Nat.le_trans (Nat.le_of_ble_eq_true h6) hR.2⟩
/-- places of words: methodLink, instanceMethod, selects, initialized, code -/
def vm_okV (M M' : vm_M) (pc idx n : Nat) (P : Nat × Nat × Nat × Nat × Nat) : Bool :=
  vm_dec M pc (.invokevirtual idx) 3 && (vm_at P.1 (.methodLink M.1 idx M'.2.1) && (vm_at P.2.1 (.instanceMethod M'.2.1) && (vm_at P.2.2.1 (.selects M'.1 M'.2.1 M'.2.1) && (vm_at P.2.2.2.1 (.initialized M'.1) && (vm_at P.2.2.2.2 (.code M'.2.1 M'.2.2.1 M'.2.2.2.1 M'.2.2.2.2.1) && vm_okR M M' n)))))
/-- methodLink, static, initialized, code -/
def vm_okS (M M' : vm_M) (pc idx n : Nat) (P : Nat × Nat × Nat × Nat) : Bool :=
  vm_dec M pc (.invokestatic idx) 3 && (vm_at P.1 (.methodLink M.1 idx M'.2.1) && (vm_at P.2.1 (.static M'.2.1) && (vm_at P.2.2.1 (.initialized M'.2.1.cls) && (vm_at P.2.2.2 (.code M'.2.1 M'.2.2.1 M'.2.2.2.1 M'.2.2.2.2.1) && vm_okR M M' n))))
/-- methodLinkNest, static, initialized, code -/
def vm_okN (M M' : vm_M) (pc idx n : Nat) (P : Nat × Nat × Nat × Nat) : Bool :=
  vm_dec M pc (.invokestatic idx) 3 && (decide (vm_g G_nest P.1 = some (.methodLinkNest M.1 idx M'.2.1 "ImageLoader")) && (vm_at P.2.1 (.static M'.2.1) && (vm_at P.2.2.1 (.initialized M'.2.1.cls) && (vm_at P.2.2.2 (.code M'.2.1 M'.2.2.1 M'.2.2.2.1 M'.2.2.2.2.1) && vm_okR M M' n))))
theorem vm_map_st (ad : Nat → Nat) (r : Option Value) (rest : List Value) : (r.toList ++ rest).map (vm_v ad) = (r.map (vm_v ad)).toList ++ rest.map (vm_v ad) := by
  cases r <;> simp
theorem vm_sum (ad : Nat → Nat) (rest : List Value) : ((rest.map (vm_v ad)).map fun v => v.category).sum = (rest.map Value.category).sum := by
  rw [List.map_map]
  congr 1
  apply List.map_congr_left
  intro v _
  exact vm_v_cat ad v
section VM8
variable {M M' : vm_M} {n bc bs pc idx : Nat} {post post' : Option Value → List va_E → Prop} {lv : List (Option Value)} {st rest As : List Value} {cs : List va_E}
theorem Run.callV {b ci : Nat} {fs : List Value} {q : vw_C} {P : Nat × Nat × Nat × Nat × Nat} (hok : vm_okV M M' pc idx As.length P = true) (hct : Ct M' 0 0 (.ref b :: As) cs post') (hst : st = As.reverse ++ .ref b :: rest) (hrest : (rest.map Value.category).sum ≤ 8) (hlen : lv.length = M.2.2.2.1) (hcell : vm_g cs b = some (.inr (ci, fs))) (hcl : vm_g vwCl ci = some q) (hq1 : q.1 = M'.1)
    (k : ∀ r cs', post' r cs' → Run M n bc bs (pc + 3) (lv, r.toList ++ rest, cs') post) : Run M n bc bs pc (lv, st, cs) post := by
  intro p l e R s m args below meth c cells slots Q D ad tc A C hc hs hq H locs ls h1 h2 h3 h4
  have C' := C
  obtain ⟨hx, hb, hml, hown, hts, hK, hA, hN, hlk, hnm, hR, hT⟩ := C'
  simp only [vm_okV, Bool.and_eq_true] at hok
  obtain ⟨o1, o2, o3, o4, o5, o6, o7⟩ := hok
  obtain ⟨r1, r2, r3⟩ := vm_okR_ok o7 hR
  have hG : GoodIn G_big (wsV M.1 idx M'.1 M'.2.1 (vm_ws M')) := by
    intro w hw
    unfold wsV at hw
    rcases List.mem_append.mp hw with hw | hw
    · simp only [List.mem_cons, List.not_mem_nil, or_false] at hw
      rcases hw with rfl | rfl | rfl | rfl
      · exact vm_good (vm_at_in o2)
      · exact vm_good (vm_at_in o3)
      · exact vm_good (vm_at_in o4)
      · exact vm_good (vm_at_in o5)
    · exact vm_goodWs (vm_at_in o6) w hw
  have hcw : CallW R s args M.1 M'.1 idx M'.2.1 M'.2.2.1 M'.2.2.2.1 M'.2.2.2.2.1 (vm_ws M') (vm_rm M' 0 0) 0 0 As.length := cwV As.length hts hG rfl rfl rfl ⟨r1, r2⟩ r3
  have hrecv : ∃ cellB : Cell, H[ad b]? = some cellB ∧ cellB.vm.isStatics = false ∧ s.vm.findClass M'.1 = some cellB.cls := by
    rw [← hq1]
    exact va_recv hK h2 (by rw [← vm_g_eq]; exact hcl) (vm_w_at hcell)
  refine vm_back C h3 h4 (va_runV (As := As.map (vm_v ad)) (b := ad b) (rest := rest.map (vm_v ad)) ⟨hx, hb, hml, hown, hts⟩ (hct l D ad tc H.size) hcw ⟨vm_blind D ad tc _ cs _, hrecv, fun U hU hW => vm_pre (av := .ref b :: As) C h2 h3 h4 U hU hW⟩ rfl (by simp) (h1.1.trans hlen) ?_ (lv_room (by rw [vm_sum]; exact hrest)) (vm_dec_ok o1) ⟨by omega, by omega⟩) ?_
  · show st.map (vm_v ad) = _
    rw [hst]
    simp [vm_v]
  · intro r cs' ad' H1 locs1 hp hag h0 hP1 hD1 hS1
    have := h0 rfl
    subst this
    have k2 := k r cs' hp p l e R s m args below meth c cells slots Q D ad' tc A C hc hs hq H1 locs1 ls h1 hP1 hD1 hS1
    rw [vm_map_st] at k2
    exact k2
theorem Run.callS {P : Nat × Nat × Nat × Nat} (hok : vm_okS M M' pc idx As.length P = true) (hct : Ct M' 0 0 As cs post') (hst : st = As.reverse ++ rest) (hrest : (rest.map Value.category).sum ≤ 8) (hlen : lv.length = M.2.2.2.1)
    (k : ∀ r cs', post' r cs' → Run M n bc bs (pc + 3) (lv, r.toList ++ rest, cs') post) : Run M n bc bs pc (lv, st, cs) post := by
  intro p l e R s m args below meth c cells slots Q D ad tc A C hc hs hq H locs ls h1 h2 h3 h4
  have C' := C
  obtain ⟨hx, hb, hml, hown, hts, hK, hA, hN, hlk, hnm, hR, hT⟩ := C'
  simp only [vm_okS, Bool.and_eq_true] at hok
  obtain ⟨o1, o2, o3, o4, o6, o7⟩ := hok
  obtain ⟨r1, r2, r3⟩ := vm_okR_ok o7 hR
  have hG : GoodIn G_big (va_wsS M.1 idx M'.2.1 (vm_ws M')) := by
    intro w hw
    unfold va_wsS at hw
    rcases List.mem_append.mp hw with hw | hw
    · simp only [List.mem_cons, List.not_mem_nil, or_false] at hw
      rcases hw with rfl | rfl | rfl
      · exact vm_good (vm_at_in o2)
      · exact vm_good (vm_at_in o3)
      · exact vm_good (vm_at_in o4)
    · exact vm_goodWs (vm_at_in o6) w hw
  have hcw := va_cwS (R := R) (s := s) (args := args) (own := M.1) (index := idx) (y := M'.2.1) (bytes := M'.2.2.1) (maxL := M'.2.2.2.1) (ret := M'.2.2.2.2.1) (ws := vm_ws M') (rm := vm_rm M' 0 0) (mc := 0) (ms := 0) As.length hts hG rfl rfl rfl r2 r3
  refine vm_back C h3 h4 (va_runS (As := As.map (vm_v ad)) (rest := rest.map (vm_v ad)) ⟨hx, hb, hml, hown, hts⟩ (hct l D ad tc H.size) hcw ⟨vm_blind D ad tc _ cs _, fun U hU hW => vm_pre (av := As) C h2 h3 h4 U hU hW⟩ rfl (by simp) (h1.1.trans hlen) ?_ (lv_room (by rw [vm_sum]; exact hrest)) (vm_dec_ok o1) ⟨by omega, by omega⟩) ?_
  · show st.map (vm_v ad) = _
    rw [hst]
    simp
  · intro r cs' ad' H1 locs1 hp hag h0 hP1 hD1 hS1
    have := h0 rfl
    subst this
    have k2 := k r cs' hp p l e R s m args below meth c cells slots Q D ad' tc A C hc hs hq H1 locs1 ls h1 hP1 hD1 hS1
    rw [vm_map_st] at k2
    exact k2
theorem Run.callN {P : Nat × Nat × Nat × Nat} (hok : vm_okN M M' pc idx As.length P = true) (hct : Ct M' 0 0 As cs post') (hst : st = As.reverse ++ rest) (hrest : (rest.map Value.category).sum ≤ 8) (hlen : lv.length = M.2.2.2.1)
    (k : ∀ r cs', post' r cs' → Run M n bc bs (pc + 3) (lv, r.toList ++ rest, cs') post) : Run M n bc bs pc (lv, st, cs) post := by
  intro p l e R s m args below meth c cells slots Q D ad tc A C hc hs hq H locs ls h1 h2 h3 h4
  have C' := C
  obtain ⟨hx, hb, hml, hown, hts, hK, hA, hN, hlk, hnm, hR, hT⟩ := C'
  simp only [vm_okN, Bool.and_eq_true, decide_eq_true_eq] at hok
  obtain ⟨o1, o2, o3, o4, o6, o7⟩ := hok
  rw [vm_g_eq] at o2
  obtain ⟨r1, r2, r3⟩ := vm_okR_ok o7 hR
  have hcw := va_cnB (R := R) (s := s) (args := args) (own := M.1) (host := "ImageLoader") (index := idx) (y := M'.2.1) (bytes := M'.2.2.1) (maxL := M'.2.2.2.1) (ret := M'.2.2.2.2.1) (ws := vm_ws M') (rm := vm_rm M' 0 0) (mc := 0) (ms := 0) As.length hts (vm_goodWs (vm_at_in o6)) rfl rfl rfl (hN _ (List.mem_of_getElem? o2)) (hts _ (vm_at_in o4)) r2 r3
  refine vm_back C h3 h4 (va_runSN (As := As.map (vm_v ad)) (rest := rest.map (vm_v ad)) ⟨hx, hb, hml, hown, hts⟩ (hct l D ad tc H.size) ⟨hcw, hts _ (vm_at_in o3), trivial⟩ ⟨vm_blind D ad tc _ cs _, fun U hU hW => vm_pre (av := As) C h2 h3 h4 U hU hW⟩ rfl (by simp) (h1.1.trans hlen) ?_ (lv_room (by rw [vm_sum]; exact hrest)) (vm_dec_ok o1) ⟨by omega, by omega⟩) ?_
  · show st.map (vm_v ad) = _
    rw [hst]
    simp
  · intro r cs' ad' H1 locs1 hp hag h0 hP1 hD1 hS1
    have := h0 rfl
    subst this
    have k2 := k r cs' hp p l e R s m args below meth c cells slots Q D ad' tc A C hc hs hq H1 locs1 ls h1 hP1 hD1 hS1
    rw [vm_map_st] at k2
    exact k2
end VM8
