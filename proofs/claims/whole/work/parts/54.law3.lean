/-! the law's own cell(script, 0); it reads the script -/
def vm_PX (D : va_G) (ad tc : Nat → Nat) (av : List Value) (cs : List va_E) (sz L : Nat) (xs : Nat → Int32) : Array Value → State → Prop := fun a U => vm_Pc D ad tc av cs sz a U ∧ va_X (ad 2000000) L xs U U.heap ∧ ad 2000000 < U.heap.size ∧ ¬ va_A (vm_w ad tc 0 cs) sz (ad 2000000)
theorem vm_blindX (D : va_G) (ad tc : Nat → Nat) (av : List Value) (cs : List va_E) (sz L : Nat) (xs : Nat → Int32) : FrameBlind (vm_PX D ad tc av cs sz L xs) := by
  intro a U g mk q
  obtain ⟨q0, q1, q2, q3⟩ := q
  exact ⟨vm_blind D ad tc av cs sz a U g mk q0, va_X.moved (u := U) (U := U.calling g mk a) (Vm.Alike.refl U.vm) q1, q2, q3⟩
def fcell (L : Nat) (xs : Nat → Int32) : Int32 := if 0 < L then xs 0 else 0
theorem kw_W_cell_0 : vm_chk m_W_cell 0 [.inl (.iload_n 1), .inl (.aload_n 0)] = some 2 := by decide +kernel
theorem kw_W_cell_6 : vm_chk m_W_cell 6 [.inl (.aload_n 0), .inl (.iload_n 1)] = some 8 := by decide +kernel
theorem dw_W_cell_2 : vm_dec m_W_cell 2 .arraylength 1 = true := by decide +kernel
theorem dw_W_cell_8 : vm_dec m_W_cell 8 .iaload 1 = true := by decide +kernel
section LW3
variable {p : Program} {l : Launch} {e : Env} {R : Room} {s : State} {m : MethodId} {args : Array Value} {below : List Frame} {meth : Method} {c : Code} {cells slots : Nat} {Q : State → Prop} {D : va_G} {ad tc : Nat → Nat} {A : Nat → Prop} {M M' : vm_M} {pc pc' tgt idx L : Nat} {lv : List (Option Value)} {st rest As : List Value} {cs : List va_E} {xs : Nat → Int32}
theorem vw_ge (C : vm_C M p R s m args meth c D ad tc A) {off : Int} {x y : Int32} (hd : vm_dec M pc (.if_icmp .ge off) 3 = true) (ht : (pc : Int) + off = (tgt : Int)) (kt : y ≤ x → vm_W p l e R s m args below meth c cells slots Q D ad tc A tgt (lv, st, cs)) (kf : ¬ y ≤ x → vm_W p l e R s m args below meth c cells slots Q D ad tc A (pc + 3) (lv, st, cs)) : vm_W p l e R s m args below meth c cells slots Q D ad tc A pc (lv, .int y :: .int x :: st, cs) := by
  obtain ⟨hx, hb, -⟩ := C
  intro H locs ls h1 h2 h3 h4
  exact lv_icmp_ge hx hb (vm_dec_ok hd) ht (fun h => kt h H locs ls h1 h2 h3 h4) (fun h => kf h H locs ls h1 h2 h3 h4)
theorem c_W_cell (hL : L < 2 ^ 31) (l : Launch) (D : va_G) (ad tc : Nat → Nat) (sz : Nat) : Met l m_W_cell.2.1 (vm_ws m_W_cell) (vm_rm m_W_cell 0 0) (vm_PX D ad tc [.ref 2000000, .int 0] cs sz L xs) (vm_Qc D ad tc cs 0 (vm_is (some (.int (fcell L xs))) cs) sz) 0 0 (va_A (vm_w ad tc 0 cs) sz) := by
  refine Met.ofW (cc := m_W_cell.2.2.1) (maxL := m_W_cell.2.2.2.1) (ret := m_W_cell.2.2.2.2.1) (by decide +kernel) rfl ?_
  intro p e s m args below meth c s₁ B hml hv
  obtain ⟨⟨rfl, hsz, hP, hK, hD0, hN, hT⟩, hX, hbl, hbA⟩ := hv
  have hx := B.exec
  have hb := B.bytes
  have hr := B.returns
  have hts := atoms_spec (ws := vm_ws m_W_cell) B.pre
  have hown : s.vm.findClass m_W_cell.1 = some m.cls := findClass_of_methodNamed B.named
  have hlocks := B.notSynchronized
  have hnm : meth.name = m_W_cell.2.1.name := (name_of_methodNamed B.named B.method).1
  subst hsz
  have hD := hD0.self (sz := s.heap.size)
  have hl := lv_entry ([.ref 2000000, .int 0].map (vm_v ad)) (n := m_W_cell.2.2.2.1) (by rw [← vm_en_len]; exact Nat.le_of_ble_eq_true rfl)
  rw [lg_entry_eq]
  generalize (lg_sl ([.ref 2000000, .int 0].map (vm_v ad)) ++ List.replicate (m_W_cell.2.2.2.1 - (lg_sl ([.ref 2000000, .int 0].map (vm_v ad))).length) Slot.unset).toArray = ls at hl ⊢
  have hl2 : vm_l ad ls [some (.ref 2000000), some (.int 0)] := hl
  have C : vm_C m_W_cell p (vm_rm m_W_cell 0 0) s m ([.ref 2000000, .int 0].map (vm_v ad)).toArray meth c D ad tc (va_A (vm_w ad tc 0 cs) s.heap.size) := ⟨hx, hb, hml, hown, fun w hw => hts w (List.mem_cons_of_mem _ hw), hK, fun q h => Or.inr h, hN, hlocks, hnm, ⟨Nat.le_refl _, Nat.le_refl _⟩, hT⟩
  refine (vm_blk C [.inl (.iload_n 1), .inl (.aload_n 0)] 0 ([some (.ref 2000000), some (.int 0)], [], cs) [True, True] kw_W_cell_0 rfl ⟨trivial, trivial, trivial⟩ ?_) s.heap [] ls hl2 hP hD va_S.rf
  refine vw_slen C hX hbl hbA dw_W_cell_2 ?_
  refine vw_ge (tgt := 12) C d_W_cell_3 (by decide) (fun c1 => ?_) (fun c1 => ?_)
  · have c2 : L = 0 := by
      have := (nI_leI (a := L) (b := 0) hL (by decide)).mp c1
      omega
    refine vm_blk C k_W_cell_12 12 _ [True] kc_W_cell_12 rfl ⟨trivial, trivial⟩ ?_
    intro H locs ls h1 h2 h3 h4
    exact W.zret hx hb (hr.trans rfl) rfl (fun t ht hW => ⟨⟨some (.int 0), cs, ad, rfl, ⟨by unfold fcell; rw [if_neg (by omega)], rfl⟩, fun _ _ => rfl, fun _ => rfl, by rw [ht]; exact h2, va_K.moved hW.alike hK, h3⟩, h4.F ht⟩) h4.2.2 (vm_dec_ok d_W_cell_13)
  · have c2 : 0 < L := by
      rcases Nat.eq_zero_or_pos L with h | h
      · rw [h] at c1; exact absurd (Int32.le_refl _) c1
      · exact h
    refine vm_blk C [.inl (.aload_n 0), .inl (.iload_n 1)] 6 _ [True, True] kw_W_cell_6 rfl ⟨trivial, trivial, trivial⟩ ?_
    refine vw_sld C hX hbl hbA dw_W_cell_8 (vp_in_nI (n := 0) c2 hL) ?_
    refine vw_goto (tgt := 13) C d_W_cell_9 (by decide) ?_
    intro H locs ls h1 h2 h3 h4
    exact W.zret hx hb (hr.trans rfl) rfl (fun t ht hW => ⟨⟨some (.int (xs 0)), cs, ad, rfl, ⟨by unfold fcell; rw [if_pos c2], rfl⟩, fun _ _ => rfl, fun _ => rfl, by rw [ht]; exact h2, va_K.moved hW.alike hK, h3⟩, h4.F ht⟩) h4.2.2 (vm_dec_ok d_W_cell_13)
theorem vw_callC (C : vm_C M p R s m args meth c D ad tc A) (hX : va_X (ad 2000000) L xs s s.heap) (hbl : ad 2000000 < s.heap.size) (hbA : ¬ A (ad 2000000)) (hL : L < 2 ^ 31) {P : Nat × Nat × Nat × Nat} (hok : vm_okS M m_W_cell pc idx 2 P = true) (hst : st = .int 0 :: .ref 2000000 :: rest) (hrest : (rest.map Value.category).sum ≤ 8) (hlen : lv.length = M.2.2.2.1) (hc : cells ≤ R.cells) (hs : slots ≤ R.slots)
    (k : vm_W p l e R s m args below meth c cells slots Q D ad tc A (pc + 3) (lv, .int (fcell L xs) :: rest, cs)) : vm_W p l e R s m args below meth c cells slots Q D ad tc A pc (lv, st, cs) := by
  intro H locs ls h1 h2 h3 h4
  have C' := C
  obtain ⟨hx, hb, hml, hown, hts, hK, hA, hN, hlk, hnm, hR, hT⟩ := C'
  simp only [vm_okS, Bool.and_eq_true] at hok
  obtain ⟨o1, o2, o3, o4, o6, o7⟩ := hok
  obtain ⟨r1, r2, r3⟩ := vm_okR_ok o7 hR
  have hG : GoodIn G_big (va_wsS M.1 idx m_W_cell.2.1 (vm_ws m_W_cell)) := by
    intro w hw
    unfold va_wsS at hw
    rcases List.mem_append.mp hw with hw | hw
    · simp only [List.mem_cons, List.not_mem_nil, or_false] at hw
      rcases hw with rfl | rfl | rfl
      · exact vm_good (vm_at_in o2)
      · exact vm_good (vm_at_in o3)
      · exact vm_good (vm_at_in o4)
    · exact vm_goodWs (vm_at_in o6) w hw
  have hcw := va_cwS (R := R) (s := s) (args := args) (own := M.1) (index := idx) (y := m_W_cell.2.1) (bytes := m_W_cell.2.2.1) (maxL := m_W_cell.2.2.2.1) (ret := m_W_cell.2.2.2.2.1) (ws := vm_ws m_W_cell) (rm := vm_rm m_W_cell 0 0) (mc := 0) (ms := 0) 2 hts hG rfl rfl rfl r2 r3
  have hF : ∀ q, va_A (vm_w ad tc 0 cs) H.size q → A q := by
    intro q h
    rcases h with ⟨k, e, h⟩ | h
    · exact h3.2 k _ h
    · exact hA q (Nat.le_trans h4.1 h)
  have hpre : ∀ U : State, U.heap = H → s.WarmedH U.vm → vm_PX D ad tc [.ref 2000000, .int 0] cs H.size L xs ([.ref 2000000, .int 0].map (vm_v ad)).toArray U := by
    intro U hU hW
    refine ⟨vm_pre (av := [.ref 2000000, .int 0]) C h2 h3 h4 U hU hW, ?_, ?_, fun w => hbA (hF _ w)⟩
    · rw [hU]
      exact va_X.moved hW.alike (hX.kept (h4.2.1 _ hbl hbA))
    · rw [hU]
      exact Nat.lt_of_lt_of_le hbl h4.1
  refine vm_back C h3 h4 (va_runS (As := [.ref 2000000, .int 0].map (vm_v ad)) (rest := rest.map (vm_v ad)) ⟨hx, hb, hml, hown, hts⟩ (c_W_cell (xs := xs) (cs := cs) hL l D ad tc H.size) hcw ⟨vm_blindX D ad tc _ cs _ L xs, hpre⟩ rfl (by simp) (h1.1.trans hlen) ?_ (lv_room (by rw [vm_sum]; exact hrest)) (vm_dec_ok o1) ⟨by omega, by omega⟩) ?_
  · show st.map (vm_v ad) = _
    rw [hst]
    simp
  · intro r cs' ad' H1 locs1 hp hag h0 hP1 hD1 hS1
    have := h0 rfl
    subst this
    obtain ⟨rfl, rfl⟩ := hp
    have k2 := k H1 locs1 ls h1 hP1 hD1 hS1
    exact k2
end LW3
