/-! one instruction, whatever it is; a stretch of instructions -/
def vm_x : List vm_I → vm_S → Option (List Prop × vm_S)
  | [], S => some ([], S)
  | i :: is, S => match vm_x1 i S with
    | some (g, S1) => match vm_x is S1 with
      | some (gs, S2) => some (g :: gs, S2)
      | none => none
    | none => none
def vm_all : List Prop → Prop
  | [] => True
  | g :: gs => g ∧ vm_all gs
def vm_chk (M : vm_M) : Nat → List vm_I → Option Nat
  | pc, [] => some pc
  | pc, i :: is => match decode M.2.2.1 pc with
    | .ok (raw, len) => bif vm_okI M raw len i then vm_chk M (pc + len) is else none
    | .error _ => none
section VM5
variable {p : Program} {l : Launch} {e : Env} {R : Room} {s : State} {m : MethodId} {args : Array Value} {below : List Frame} {meth : Method} {c : Code} {cells slots : Nat} {Q : State → Prop} {D : va_G} {ad tc : Nat → Nat} {A : Nat → Prop} {M : vm_M} {pc pc' : Nat} {S S' : vm_S} {g : Prop}
set_option maxHeartbeats 2000000 in
theorem vm_plain (C : vm_C M p R s m args meth c D ad tc A) (j : Instr) (hd : decode M.2.2.1 pc = .ok (j, vm_len j)) (hs : vm_p j S = some (g, S')) (hg : g) (k : vm_W p l e R s m args below meth c cells slots Q D ad tc A (pc + vm_len j) S') : vm_W p l e R s m args below meth c cells slots Q D ad tc A pc S := by
  have C' := C
  obtain ⟨hx, hb, hml, hown, hts, hK, hA, hN, hlk, hnm, hR, hT⟩ := C'
  cases j <;> first | exact absurd (show (none : vm_R) = some (g, S') from hs) (by simp) | skip
  case iload_n n => exact vm_li_ok hs (fun _ _ _ _ _ hl k => lv_iload_n hx hb hd rfl hl k) k
  case iload n => exact vm_li_ok hs (fun _ _ _ _ _ hl k => lv_iload hx hb hd hl k) k
  case lload_n n => exact vm_ll_ok hs (fun _ _ _ _ _ hl k => lv_lload_n hx hb hd rfl hl k) k
  case lload n => exact vm_ll_ok hs (fun _ _ _ _ _ hl k => lv_lload hx hb hd hl k) k
  case aload_n n => exact vm_la_ok hs (fun _ _ _ _ _ hl k => lv_aload_n hx hb hd rfl hl k) k
  case aload n => exact vm_la_ok hs (fun _ _ _ _ _ hl k => lv_aload hx hb hd hl k) k
  case istore_n n => exact vm_si_ok hs (fun _ _ _ _ _ _ _ h hn kk => lv_istore_n hx hb hd rfl h hn rfl kk) k
  case istore n => exact vm_si_ok hs (fun _ _ _ _ _ _ _ h hn kk => lv_istore hx hb hd h hn rfl kk) k
  case lstore_n n => exact vm_sl_ok hs (fun _ _ _ _ _ _ _ h hn kk => lv_lstore_n hx hb hd rfl h hn rfl kk) k
  case lstore n => exact vm_sl_ok hs (fun _ _ _ _ _ _ _ h hn kk => lv_lstore hx hb hd h hn rfl kk) k
  case astore_n n => exact vm_sa_ok hs (fun _ _ _ _ _ _ _ h hn kk => lv_astore_n hx hb hd rfl h hn rfl kk) k
  case astore n => exact vm_sa_ok hs (fun _ _ _ _ _ _ _ h hn kk => lv_astore hx hb hd h hn rfl kk) k
  case iadd => exact vm_ii_ok hs (fun _ _ _ _ _ _ k => lv_iadd hx hb hd k) k
  case isub => exact vm_ii_ok hs (fun _ _ _ _ _ _ k => lv_isub hx hb hd k) k
  case imul => exact vm_ii_ok hs (fun _ _ _ _ _ _ k => lv_imul hx hb hd k) k
  case iand => exact vm_ii_ok hs (fun _ _ _ _ _ _ k => lv_iand hx hb hd k) k
  case ior => exact vm_ii_ok hs (fun _ _ _ _ _ _ k => lv_ior hx hb hd k) k
  case ixor => exact vm_ii_ok hs (fun _ _ _ _ _ _ k => lv_ixor hx hb hd k) k
  case ishl => exact vm_ii_ok hs (fun _ _ _ _ _ _ k => lv_ishl hx hb hd k) k
  case ishr => exact vm_ii_ok hs (fun _ _ _ _ _ _ k => lv_ishr hx hb hd k) k
  case iushr => exact vm_ii_ok hs (fun _ _ _ _ _ _ k => lv_iushr hx hb hd rfl k) k
  case idiv => exact vm_iq_ok hs hg (fun _ _ _ _ _ _ hy k => lv_idiv hx hb hd hy k) k
  case irem => exact vm_iq_ok hs hg (fun _ _ _ _ _ _ hy k => lv_irem hx hb hd hy k) k
  case ineg => exact vm_1i_ok (fun _ => rfl) hs (fun _ _ _ _ _ k => lv_ineg hx hb hd k) k
  case i2l => exact vm_1i_ok (fun _ => rfl) hs (fun _ _ _ _ _ k => lv_i2l hx hb hd rfl k) k
  case i2b => exact vm_1i_ok (fun _ => rfl) hs (fun _ _ _ _ _ k => lv_i2b hx hb hd rfl k) k
  case l2i => exact vm_1j_ok (fun _ => rfl) hs (fun _ _ _ _ _ k => lv_l2i hx hb hd rfl k) k
  case ladd => exact vm_jj_ok hs (fun _ _ _ _ _ _ k => lv_ladd hx hb hd k) k
  case lsub => exact vm_jj_ok hs (fun _ _ _ _ _ _ k => lv_lsub hx hb hd k) k
  case lmul => exact vm_jj_ok hs (fun _ _ _ _ _ _ k => lv_lmul hx hb hd k) k
  case land => exact vm_jj_ok hs (fun _ _ _ _ _ _ k => lv_land hx hb hd k) k
  case lor => exact vm_jj_ok hs (fun _ _ _ _ _ _ k => lv_lor hx hb hd k) k
  case ldiv => exact vm_jq_ok hs hg (fun _ _ _ _ _ _ hy k => lv_ldiv hx hb hd hy k) k
  case lrem => exact vm_jq_ok hs hg (fun _ _ _ _ _ _ hy k => lv_lrem hx hb hd hy k) k
  case lshl => exact vm_ji_ok hs (fun _ _ _ _ _ _ k => lv_lshl hx hb hd rfl k) k
  case lshr => exact vm_ji_ok hs (fun _ _ _ _ _ _ k => lv_lshr hx hb hd rfl k) k
  case lushr => exact vm_ji_ok hs (fun _ _ _ _ _ _ k => lv_lushr hx hb hd rfl k) k
  case lcmp => exact vm_lcmp_ok C hd hs k
  case dup => exact vm_dup_ok C hd hs k
  case pop => exact vm_pop_ok C hd hs k
  case baload => exact vm_bald_ok C hd hs hg k
  case iaload => exact vm_iald_ok C hd hs hg k
  case laload => exact vm_lald_ok C hd hs hg k
  case bastore => exact vm_bast_ok C hd hs hg k
  case iastore => exact vm_iast_ok C hd hs hg k
  case lastore => exact vm_last_ok C hd hs hg k
  case arraylength => exact vm_alen_ok C hd hs k
theorem vm_const (C : vm_C M p R s m args meth c D ad tc A) {raw : Instr} {len pl : Nat} {v : Value} (hd : decode M.2.2.1 pc = .ok (raw, len)) (hk : vm_okc M raw len v pl = true) (k : vm_W p l e R s m args below meth c cells slots Q D ad tc A (pc + len) (S.1, v :: S.2.1, S.2.2)) : vm_W p l e R s m args below meth c cells slots Q D ad tc A pc S := by
  obtain ⟨hx, hb, hml, hown, hts, hK, hA, hN, hlk, hnm, hR, hT⟩ := C
  unfold vm_okc at hk
  split at hk
  · simp only [Bool.and_eq_true, decide_eq_true_eq] at hk
    obtain ⟨h1, h2⟩ := hk
    have h2 := Nat.eq_of_beq_eq_true h2
    subst h2
    intro H locs ls g1 g2 g3 g4
    exact lv_iconst hx hb hd h1 (k H locs ls g1 g2 g3 g4)
  · simp only [Bool.and_eq_true, decide_eq_true_eq] at hk
    obtain ⟨h1, h2⟩ := hk
    have h2 := Nat.eq_of_beq_eq_true h2
    subst h2
    intro H locs ls g1 g2 g3 g4
    exact lv_bipush hx hb hd h1 (k H locs ls g1 g2 g3 g4)
  · simp only [Bool.and_eq_true, decide_eq_true_eq] at hk
    obtain ⟨h1, h2⟩ := hk
    have h2 := Nat.eq_of_beq_eq_true h2
    subst h2
    intro H locs ls g1 g2 g3 g4
    exact lv_sipush hx hb hd h1 (k H locs ls g1 g2 g3 g4)
  · simp only [Bool.and_eq_true, decide_eq_true_eq] at hk
    obtain ⟨h1, h2⟩ := hk
    have h2 := Nat.eq_of_beq_eq_true h2
    subst h2
    intro H locs ls g1 g2 g3 g4
    exact lv_lconst hx hb hd h1 (k H locs ls g1 g2 g3 g4)
  · simp only [Bool.and_eq_true] at hk
    obtain ⟨h1, h2⟩ := hk
    have h2 := Nat.eq_of_beq_eq_true h2
    subst h2
    intro H locs ls g1 g2 g3 g4
    exact lv_ldc2 hx hb hown (hts _ (vm_at_in h1)) hd (k H locs ls g1 g2 g3 g4)
  · cases hk
theorem vm_fld (C : vm_C M p R s m args meth c D ad tc A) {raw : Instr} {len op pl idx ci k : Nat} (hd : decode M.2.2.1 pc = .ok (raw, len)) (hk : vm_okf M raw len op pl idx ci k = true) (hs : vm_x1 (.inr (.inr (.inl (op, pl, idx, ci, k)))) S = some (g, S')) (kk : vm_W p l e R s m args below meth c cells slots Q D ad tc A (pc + len) S') : vm_W p l e R s m args below meth c cells slots Q D ad tc A pc S := by
  have C' := C
  obtain ⟨hx, hb, hml, hown, hts, hK, hA, hN, hlk, hnm, hR, hT⟩ := C'
  unfold vm_okf at hk
  split at hk
  · rename_i Cn T N hcl
    simp only [Bool.and_eq_true] at hk
    obtain ⟨h1, h2, h3⟩ := hk
    have h1 := Nat.eq_of_beq_eq_true h1
    have h2 : k < N := Nat.le_of_ble_eq_true h2
    subst h1
    split at h3
    · simp only [Bool.and_eq_true, decide_eq_true_eq] at h3
      obtain ⟨h4, h5⟩ := h3
      subst h4
      exact vm_gf_ok C hcl h2 (vm_at_in h5) hd hs kk
    · simp only [Bool.and_eq_true, decide_eq_true_eq, Bool.not_eq_true'] at h3
      obtain ⟨h4, h5, h6⟩ := h3
      subst h4
      exact vm_pf_ok C hcl h2 (vm_at_in h5) h6 hd hs kk
    · simp only [Bool.and_eq_true, decide_eq_true_eq] at h3
      obtain ⟨h4, h5⟩ := h3
      subst h4
      rw [vm_g_eq] at h5
      exact vm_gfN_ok C hcl h2 (List.mem_of_getElem? h5) hd hs kk
    · simp only [Bool.and_eq_true, decide_eq_true_eq] at h3
      obtain ⟨h4, h5, h6, h7, h8⟩ := h3
      subst h4
      exact vm_pfF_ok C hcl h2 (vm_at_in h5) h6 h7 h8 hd hs kk
    · simp only [Bool.and_eq_true, decide_eq_true_eq] at h3
      obtain ⟨h4, h5⟩ := h3
      subst h4
      have hs2 : some (True, S.1, Value.ref 1000000 :: S.2.1, S.2.2) = some (g, S') := hs
      cases hs2
      intro H locs ls g1 g2 g3 g4
      exact va_gets hx hb hT.1 g4 hown (hts _ (vm_at_in h5)) (fun _ h9 => h9) hd (kk H locs ls g1 g2 g3 g4)
    · cases h3
  · cases hk
theorem vm_one (C : vm_C M p R s m args meth c D ad tc A) {raw : Instr} {len : Nat} {i : vm_I} (hd : decode M.2.2.1 pc = .ok (raw, len)) (hk : vm_okI M raw len i = true) (hs : vm_x1 i S = some (g, S')) (hg : g) (k : vm_W p l e R s m args below meth c cells slots Q D ad tc A (pc + len) S') : vm_W p l e R s m args below meth c cells slots Q D ad tc A pc S := by
  match i, hk, hs with
  | .inl j, hk, hs =>
    simp only [vm_okI, Bool.and_eq_true, decide_eq_true_eq] at hk
    obtain ⟨h1, h2⟩ := hk
    have h2 := Nat.eq_of_beq_eq_true h2
    subst h1
    subst h2
    exact vm_plain C _ hd hs hg k
  | .inr (.inl (v, pl)), hk, hs =>
    have hs2 : some (True, S.1, v :: S.2.1, S.2.2) = some (g, S') := hs
    cases hs2
    exact vm_const C hd hk k
  | .inr (.inr (.inl (op, pl, idx, ci, kf))), hk, hs => exact vm_fld C hd hk hs k
  | .inr (.inr (.inr (n, cc))), hk, hs =>
    obtain ⟨hx, hb, hml, hown, hts, hK, hA, hN, hlk, hnm, hR, hT⟩ := C
    simp only [vm_okI] at hk
    split at hk
    · simp only [Bool.and_eq_true, decide_eq_true_eq] at hk
      obtain ⟨h1, h2, h3⟩ := hk
      have h1 := Nat.eq_of_beq_eq_true h1
      have h3 := Nat.eq_of_beq_eq_true h3
      subst h1
      subst h3
      subst h2
      exact vm_inc_ok hs (fun _ _ _ _ _ _ _ _ h hj hn kk => lv_iinc hx hb hd h hj rfl hn rfl kk) k
    · cases hk
theorem vm_blk (C : vm_C M p R s m args meth c D ad tc A) : ∀ (is : List vm_I) (pc : Nat) (S : vm_S) (gs : List Prop), vm_chk M pc is = some pc' → vm_x is S = some (gs, S') → vm_all gs → vm_W p l e R s m args below meth c cells slots Q D ad tc A pc' S' → vm_W p l e R s m args below meth c cells slots Q D ad tc A pc S
  | [], pc, S, gs, h1, h2, h3, k => by
    cases h1
    cases h2
    exact k
  | i :: is, pc, S, gs, h1, h2, h3, k => by
    unfold vm_chk at h1
    split at h1
    · rename_i raw len hd
      cases hok : vm_okI M raw len i with
      | false => rw [hok] at h1; cases h1
      | true =>
        rw [hok] at h1
        unfold vm_x at h2
        split at h2
        · rename_i g S1 hs
          split at h2
          · rename_i gs1 S2 hs1
            cases h2
            exact vm_one C hd hok hs h3.1 (vm_blk C is (pc + len) S1 gs1 h1 hs1 h3.2 k)
          · cases h2
        · cases h2
    · cases h1
end VM5
