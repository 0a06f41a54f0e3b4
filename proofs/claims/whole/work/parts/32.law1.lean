/-! the rules again, in one surrounding: for the law, which reads its script (place 2000000) -/
section LW1
variable {p : Program} {l : Launch} {e : Env} {R : Room} {s : State} {m : MethodId} {args : Array Value} {below : List Frame} {meth : Method} {c : Code} {cells slots : Nat} {Q : State → Prop} {D : va_G} {ad tc : Nat → Nat} {A : Nat → Prop} {M M' : vm_M} {pc pc' tgt idx L : Nat} {lv : List (Option Value)} {st rest As : List Value} {cs : List va_E} {post' : Option Value → List va_E → Prop} {xs : Nat → Int32}
theorem vw_goto (C : vm_C M p R s m args meth c D ad tc A) {off : Int} {S : vm_S} (hd : vm_dec M pc (.goto off) 3 = true) (ht : (pc : Int) + off = (tgt : Int)) (k : vm_W p l e R s m args below meth c cells slots Q D ad tc A tgt S) : vm_W p l e R s m args below meth c cells slots Q D ad tc A pc S := by
  obtain ⟨hx, hb, -⟩ := C
  intro H locs ls h1 h2 h3 h4
  exact lv_goto hx hb (vm_dec_ok hd) ht (k H locs ls h1 h2 h3 h4)
theorem vw_eq (C : vm_C M p R s m args meth c D ad tc A) {off : Int} {x : Int32} (hd : vm_dec M pc (.if_icmp .eq off) 3 = true) (ht : (pc : Int) + off = (tgt : Int)) (k : vm_W p l e R s m args below meth c cells slots Q D ad tc A tgt (lv, st, cs)) : vm_W p l e R s m args below meth c cells slots Q D ad tc A pc (lv, .int x :: .int x :: st, cs) := by
  obtain ⟨hx, hb, -⟩ := C
  intro H locs ls h1 h2 h3 h4
  exact lv_icmp_eq hx hb (vm_dec_ok hd) ht (fun _ => k H locs ls h1 h2 h3 h4) (fun h => absurd rfl h)
theorem vw_gt (C : vm_C M p R s m args meth c D ad tc A) {off : Int} {x y : Int32} (hd : vm_dec M pc (.if_icmp .gt off) 3 = true) (ht : (pc : Int) + off = (tgt : Int)) (kt : y < x → vm_W p l e R s m args below meth c cells slots Q D ad tc A tgt (lv, st, cs)) (kf : ¬ y < x → vm_W p l e R s m args below meth c cells slots Q D ad tc A (pc + 3) (lv, st, cs)) : vm_W p l e R s m args below meth c cells slots Q D ad tc A pc (lv, .int y :: .int x :: st, cs) := by
  obtain ⟨hx, hb, -⟩ := C
  intro H locs ls h1 h2 h3 h4
  exact lv_icmp_gt hx hb (vm_dec_ok hd) ht (fun h => kt h H locs ls h1 h2 h3 h4) (fun h => kf h H locs ls h1 h2 h3 h4)
theorem vw_leq (C : vm_C M p R s m args meth c D ad tc A) {off : Int} {x : Int64} (h0 : vm_dec M pc .lcmp 1 = true) (hd : vm_dec M (pc + 1) (.ifCond .eq off) 3 = true) (ht : ((pc + 1 : Nat) : Int) + off = (tgt : Int)) (k : vm_W p l e R s m args below meth c cells slots Q D ad tc A tgt (lv, st, cs)) : vm_W p l e R s m args below meth c cells slots Q D ad tc A pc (lv, .long x :: .long x :: st, cs) := by
  obtain ⟨hx, hb, -⟩ := C
  intro H locs ls h1 h2 h3 h4
  refine W.lcmp hx hb (vm_dec_ok h0) ?_
  exact lv_if_eq hx hb (vm_dec_ok hd) ht (fun _ => k H locs ls h1 h2 h3 h4) (fun h => absurd ((lg_cmp_eq x x).mpr rfl) h)
theorem vw_ts (C : vm_C M p R s m args meth c D ad tc A) {dflt lo hi : Int} {offs : Array Int} {len : Nat} {x : Int32} {off : Int} (hd : vm_dec M pc (.tableswitch dflt lo hi offs) len = true) (h1 : ¬ x.toInt < lo) (h2 : ¬ hi < x.toInt) (ho : offs[(x.toInt - lo).toNat]? = some off) (ht : (pc : Int) + off = (tgt : Int)) (k : vm_W p l e R s m args below meth c cells slots Q D ad tc A tgt (lv, st, cs)) : vm_W p l e R s m args below meth c cells slots Q D ad tc A pc (lv, .int x :: st, cs) := by
  obtain ⟨hx, hb, -⟩ := C
  intro H locs ls g1 g2 g3 g4
  exact lv_tableIn hx hb (vm_dec_ok hd) h1 h2 ho ht (k H locs ls g1 g2 g3 g4)
theorem vw_sld (C : vm_C M p R s m args meth c D ad tc A) (hX : va_X (ad 2000000) L xs s s.heap) (hbl : ad 2000000 < s.heap.size) (hbA : ¬ A (ad 2000000)) {i : Int32} (hd : vm_dec M pc .iaload 1 = true) (hin : vp_in i L) (k : vm_W p l e R s m args below meth c cells slots Q D ad tc A (pc + 1) (lv, .int (xs i.toNatClampNeg) :: st, cs)) : vm_W p l e R s m args below meth c cells slots Q D ad tc A pc (lv, .int i :: .ref 2000000 :: st, cs) := by
  obtain ⟨hx, hb, -⟩ := C
  intro H locs ls g1 g2 g3 g4
  exact va_sld hx hb hX hbl hbA g4 hin (vm_dec_ok hd) (k H locs ls g1 g2 g3 g4)
theorem vw_slen (C : vm_C M p R s m args meth c D ad tc A) (hX : va_X (ad 2000000) L xs s s.heap) (hbl : ad 2000000 < s.heap.size) (hbA : ¬ A (ad 2000000)) (hd : vm_dec M pc .arraylength 1 = true) (k : vm_W p l e R s m args below meth c cells slots Q D ad tc A (pc + 1) (lv, .int (nI L) :: st, cs)) : vm_W p l e R s m args below meth c cells slots Q D ad tc A pc (lv, .ref 2000000 :: st, cs) := by
  obtain ⟨hx, hb, -⟩ := C
  intro H locs ls g1 g2 g3 g4
  exact va_slen hx hb hX hbl hbA g4 (vm_dec_ok hd) (k H locs ls g1 g2 g3 g4)
theorem vw_callV (C : vm_C M p R s m args meth c D ad tc A) (hc : cells ≤ R.cells) (hs : slots ≤ R.slots) {b ci : Nat} {fs : List Value} {q : vw_C} {P : Nat × Nat × Nat × Nat × Nat} (hok : vm_okV M M' pc idx As.length P = true) (hct : Ct M' 0 0 (.ref b :: As) cs post') (hst : st = As.reverse ++ .ref b :: rest) (hrest : (rest.map Value.category).sum ≤ 8) (hlen : lv.length = M.2.2.2.1) (hcell : vm_g cs b = some (.inr (ci, fs))) (hcl : vm_g vwCl ci = some q) (hq1 : q.1 = M'.1)
    (k : ∀ r cs', post' r cs' → vm_W p l e R s m args below meth c cells slots Q D ad tc A (pc + 3) (lv, r.toList ++ rest, cs')) : vm_W p l e R s m args below meth c cells slots Q D ad tc A pc (lv, st, cs) := by
  intro H locs ls h1 h2 h3 h4
  have C' := C
  obtain ⟨hx, hb, hml, hown, hts, hK, hA, hN, hlk, hnm, hR, hT⟩ := C'
  simp only [vm_okV, Bool.and_eq_true] at hok
  obtain ⟨o1, o2, o3, o4, o5, o6, o7⟩ := hok
  obtain ⟨r1, r2, r3⟩ := vm_okR_ok o7 hR
  have hG : GoodIn G_big (wsV M.1 idx M'.1 M'.2.1 (vm_ws M')) := by
    intro w hw
    unfold wsV at hw
    rcases List.mem_append.mp hw with hw | hw
    · simp only [List.mem_cons, List.not_mem_nil, or_false] at hw
      rcases hw with rfl | rfl | rfl | rfl
      · exact vm_good (vm_at_in o2)
      · exact vm_good (vm_at_in o3)
      · exact vm_good (vm_at_in o4)
      · exact vm_good (vm_at_in o5)
    · exact vm_goodWs (vm_at_in o6) w hw
  have hcw : CallW R s args M.1 M'.1 idx M'.2.1 M'.2.2.1 M'.2.2.2.1 M'.2.2.2.2.1 (vm_ws M') (vm_rm M' 0 0) 0 0 As.length := cwV As.length hts hG rfl rfl rfl ⟨r1, r2⟩ r3
  have hrecv : ∃ cellB : Cell, H[ad b]? = some cellB ∧ cellB.vm.isStatics = false ∧ s.vm.findClass M'.1 = some cellB.cls := by
    rw [← hq1]
    exact va_recv hK h2 (by rw [← vm_g_eq]; exact hcl) (vm_w_at hcell)
  refine vm_back C h3 h4 (va_runV (As := As.map (vm_v ad)) (b := ad b) (rest := rest.map (vm_v ad)) ⟨hx, hb, hml, hown, hts⟩ (hct l D ad tc H.size) hcw ⟨vm_blind D ad tc _ cs _, hrecv, fun U hU hW => vm_pre (av := .ref b :: As) C h2 h3 h4 U hU hW⟩ rfl (by simp) (h1.1.trans hlen) ?_ (lv_room (by rw [vm_sum]; exact hrest)) (vm_dec_ok o1) ⟨by omega, by omega⟩) ?_
  · show st.map (vm_v ad) = _
    rw [hst]
    simp [vm_v]
  · intro r cs' ad' H1 locs1 hp hag h0 hP1 hD1 hS1
    have := h0 rfl
    subst this
    have k2 := k r cs' hp H1 locs1 ls h1 hP1 hD1 hS1
    rw [vm_map_st] at k2
    exact k2
theorem vw_new (C : vm_C M p R s m args meth c D ad tc A) {ci N : Nat} {Cn : String} {T : u_T} {fs : List Value} (hc : cells + 1 ≤ R.cells) (hs : slots + N ≤ R.slots) (hd : vm_dec M pc (.new idx) 3 = true) (hcl : vm_g vwCl ci = some (Cn, T, N)) (P : Nat × Nat × Nat) (hok : (vm_at P.1 (.classLink M.1 idx Cn) && (vm_at P.2.1 (.instantiable Cn N) && vm_at P.2.2 (.initialized Cn))) = true) (hfs : ∀ j, j < N → defaultValue (G_ft ci j) = vp_V fs j) (hnr : ∀ ad, fs.map (vm_v ad) = fs)
    (hlen : cs.length < 1000000) (hwf : vm_wf cs.length lv st cs) (k : ∀ ad', vm_ag cs.length ad ad' → vm_C M p R s m args meth c D ad' tc A → vm_W p l e R s m args below meth c (cells + 1) (slots + N) Q D ad' tc A (pc + 3) (lv, .ref cs.length :: st, cs ++ [.inr (ci, fs)])) : vm_W p l e R s m args below meth c cells slots Q D ad tc A pc (lv, st, cs) := by
  intro H locs ls h1 h2 h3 h4
  have C' := C
  obtain ⟨hx, hb, hml, hown, hts, hK, hA, hN, hlk, hnm, hR, hT⟩ := C'
  obtain ⟨e0, e1, e2, e3⟩ := G_cl hcl
  simp only [Bool.and_eq_true] at hok
  refine va_new hx hb hts e1 (G_ft ci) e2 hown (hts _ (vm_at_in hok.1)) (hts _ (vm_at_in hok.2.1)) (hts _ (vm_at_in hok.2.2)) hK h2 h3 h4 hA e0 hfs hc hs (vm_dec_ok hd) (fun q H1 hP1 hD1 hS1 => ?_)
  have he : ∀ ad, vm_e ad tc (.inr (ci, fs)) = .inr (ci, fs) := fun ad => by
    show (Sum.inr (ci, fs.map (vm_v ad)) : va_E) = _
    rw [hnr]
  have hag := vm_ag_up hlen ad q
  have hw : vm_w (va_up ad cs.length q) tc 0 (cs ++ [.inr (ci, fs)]) = vm_w ad tc 0 cs ++ [(q, .inr (ci, fs))] := by
    rw [vm_w_app, Nat.zero_add, va_up_self, he, vm_w_ag hag cs 0 (by omega) hwf.2.2]
  have hl : vm_l (va_up ad cs.length q) ls lv := by
    unfold vm_l
    rw [vm_as_ag hag lv 0 hwf.1]
    exact h1
  have k2 := k (va_up ad cs.length q) hag (vm_C_ag hag C) H1 locs ls hl (by rw [hw]; exact hP1) (by rw [hw]; exact hD1) hS1
  have hst : (Value.ref cs.length :: st).map (vm_v (va_up ad cs.length q)) = .ref q :: st.map (vm_v ad) := by
    rw [List.map_cons, vm_map_ag hag hwf.2.1]
    show Value.ref (va_up ad cs.length q cs.length) :: _ = _
    rw [va_up_self]
  rw [hst] at k2
  exact k2
theorem vw_callI (C : vm_C M p R s m args meth c D ad tc A) {b bc' bs' : Nat} {P : Nat × Nat × Nat × Nat} (hc : cells + bc' ≤ R.cells) (hs : slots + bs' ≤ R.slots) (hok : vm_okJ M M' pc idx As.length P = true) (hct : Ct M' bc' bs' (.ref b :: As) cs post') (hst : st = As.reverse ++ .ref b :: rest) (hrest : (rest.map Value.category).sum ≤ 8) (hlen : lv.length = M.2.2.2.1) (hwf : vm_wf cs.length lv rest [])
    (k : ∀ r cs' ad', post' r cs' → vm_ag cs.length ad ad' → vm_C M p R s m args meth c D ad' tc A → vm_W p l e R s m args below meth c (cells + bc') (slots + bs') Q D ad' tc A (pc + 3) (lv, r.toList ++ rest, cs')) : vm_W p l e R s m args below meth c cells slots Q D ad tc A pc (lv, st, cs) := by
  intro H locs ls h1 h2 h3 h4
  have C' := C
  obtain ⟨hx, hb, hml, hown, hts, hK, hA, hN, hlk, hnm, hR, hT⟩ := C'
  simp only [vm_okJ, Bool.and_eq_true, decide_eq_true_eq] at hok
  obtain ⟨o1, o2, o3, o4, o5, o6, o7, o8⟩ := hok
  obtain ⟨r1, r2, r3⟩ := vm_okR_ok o6 hR
  have hw : vm_ws M' = Jvm.Cond.code M'.2.1 M'.2.2.1 M'.2.2.2.1 none :: G_big := by rw [← o8]; rfl
  have hcw := cwI (R := R) (s := s) (args := args) (own := M.1) (index := idx) (y := M'.2.1) (bytes := M'.2.2.1) (maxL := M'.2.2.2.1) (ws := vm_ws M') (rm := vm_rm M' bc' bs') (mc := bc') (ms := bs') As.length hts (vm_goodWs (vm_at_in o5)) hw rfl rfl (hts _ (vm_at_in o4)) (hts _ (vm_at_in o2)) (hts _ (vm_at_in o3)) o7 r2 r3
  refine vm_back C h3 h4 (va_runI (As := As.map (vm_v ad)) (b := ad b) (rest := rest.map (vm_v ad)) ⟨hx, hb, hml, hown, hts⟩ (hct l D ad tc H.size) hcw ⟨vm_blind D ad tc _ cs _, fun U hU hW => vm_pre (av := .ref b :: As) C h2 h3 h4 U hU hW⟩ rfl (by simp) (h1.1.trans hlen) ?_ (lv_room (by rw [vm_sum]; exact hrest)) (vm_dec_ok o1) ⟨by omega, by omega⟩) ?_
  · show st.map (vm_v ad) = _
    rw [hst]
    simp [vm_v]
  · intro r cs' ad' H1 locs1 hp hag h0 hP1 hD1 hS1
    have hl : vm_l ad' ls lv := by
      unfold vm_l
      rw [vm_as_ag hag lv 0 hwf.1]
      exact h1
    have k2 := k r cs' ad' hp hag (vm_C_ag hag C) H1 locs1 ls hl hP1 hD1 hS1
    rw [vm_map_st, vm_map_ag hag hwf.2.1] at k2
    exact k2
end LW1
