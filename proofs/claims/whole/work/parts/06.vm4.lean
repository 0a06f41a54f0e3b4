/-! arrays, fields; one instruction, whatever it is; a stretch of instructions -/
theorem vm_ai_inv {cs : List va_E} {a t n : Nat} {f : Nat → Int32} {ty : FieldType} (h : vm_ai cs a = some (t, n, f, ty)) : vm_g cs a = some (.inl (t, n, .inl f)) ∧ vm_g G_ty t = some ty := by
  unfold vm_ai at h
  split at h
  · rename_i t' n' f' h1
    split at h
    · rename_i ty' h2
      cases h
      exact ⟨h1, h2⟩
    · cases h
  · cases h
theorem vm_aj_inv {cs : List va_E} {a t n : Nat} {f : Nat → Int64} {ty : FieldType} (h : vm_aj cs a = some (t, n, f, ty)) : vm_g cs a = some (.inl (t, n, .inr (.inl f))) ∧ vm_g G_ty t = some ty := by
  unfold vm_aj at h
  split at h
  · rename_i t' n' f' h1
    split at h
    · rename_i ty' h2
      cases h
      exact ⟨h1, h2⟩
    · cases h
  · cases h
theorem vm_wP {D : va_G} {ad tc : Nat → Nat} {cs : List va_E} {a : Nat} {e : va_E} {H : Heap} (h : va_P D vwCl ((vm_w ad tc 0 cs).set a (ad a, vm_e ad tc e)) H) : va_P D vwCl (vm_w ad tc 0 (vm_u cs a e)) H := by
  rw [← vm_w_set0]; exact h
theorem vm_wD {A : Nat → Prop} {ad tc : Nat → Nat} {cs : List va_E} {a : Nat} {e : va_E} (h : va_D A ((vm_w ad tc 0 cs).set a (ad a, vm_e ad tc e))) : va_D A (vm_w ad tc 0 (vm_u cs a e)) := by
  rw [← vm_w_set0]; exact h
theorem vm_fs_set (ad : Nat → Nat) (fs : List Value) (k : Nat) (v : Value) : (vm_u fs k v).map (vm_v ad) = (fs.map (vm_v ad)).set k (vm_v ad v) := by
  rw [vm_u_eq, List.map_set]
theorem vm_fit_ok {ty : FieldType} {v : Value} (ad : Nat → Nat) (h : vm_fit ty v = true) : narrow ty (vm_v ad v) = vm_v ad v ∧ fits ty (vm_v ad v) = true := by
  match ty, v, h with
  | .int, .int _, _ => exact ⟨rfl, rfl⟩
  | .long, .long _, _ => exact ⟨rfl, rfl⟩
  | .object _, .ref _, _ => exact ⟨rfl, rfl⟩
  | .array _, .ref _, _ => exact ⟨rfl, rfl⟩
section VM4
variable {p : Program} {l : Launch} {e : Env} {R : Room} {s : State} {m : MethodId} {args : Array Value} {below : List Frame} {meth : Method} {c : Code} {cells slots : Nat} {Q : State → Prop} {D : va_G} {ad tc : Nat → Nat} {A : Nat → Prop} {M : vm_M} {pc pc' : Nat} {S S' : vm_S} {g : Prop}
theorem vm_lcmp_ok (C : vm_C M p R s m args meth c D ad tc A) (hd : decode M.2.2.1 pc = .ok (.lcmp, 1)) (hs : vm_lcmp S = some (g, S')) (k : vm_W p l e R s m args below meth c cells slots Q D ad tc A (pc + 1) S') : vm_W p l e R s m args below meth c cells slots Q D ad tc A pc S := by
  obtain ⟨hx, hb, hml, hown, hts, hK, hA, hN, hlk, hnm, hR, hT⟩ := C
  obtain ⟨lv, st, cs⟩ := S
  unfold vm_lcmp at hs
  split at hs
  · rename_i y x st' hst
    cases hs
    cases hst
    intro H locs ls h1 h2 h3 h4
    exact W.lcmp hx hb hd (k H locs ls h1 h2 h3 h4)
  · cases hs
theorem vm_dup_ok (C : vm_C M p R s m args meth c D ad tc A) (hd : decode M.2.2.1 pc = .ok (.dup, 1)) (hs : vm_dup S = some (g, S')) (k : vm_W p l e R s m args below meth c cells slots Q D ad tc A (pc + 1) S') : vm_W p l e R s m args below meth c cells slots Q D ad tc A pc S := by
  obtain ⟨hx, hb, hml, hown, hts, hK, hA, hN, hlk, hnm, hR, hT⟩ := C
  obtain ⟨lv, st, cs⟩ := S
  unfold vm_dup at hs
  split at hs
  · rename_i x st' hst
    cases hs
    cases hst
    intro H locs ls h1 h2 h3 h4
    exact lv_dup hx hb hd rfl (k H locs ls h1 h2 h3 h4)
  · rename_i x st' hst
    cases hs
    cases hst
    intro H locs ls h1 h2 h3 h4
    exact lv_dup hx hb hd rfl (k H locs ls h1 h2 h3 h4)
  · cases hs
theorem vm_pop_ok (C : vm_C M p R s m args meth c D ad tc A) (hd : decode M.2.2.1 pc = .ok (.pop, 1)) (hs : vm_pop S = some (g, S')) (k : vm_W p l e R s m args below meth c cells slots Q D ad tc A (pc + 1) S') : vm_W p l e R s m args below meth c cells slots Q D ad tc A pc S := by
  obtain ⟨hx, hb, hml, hown, hts, hK, hA, hN, hlk, hnm, hR, hT⟩ := C
  obtain ⟨lv, st, cs⟩ := S
  unfold vm_pop at hs
  split at hs
  · rename_i x st' hst
    cases hs
    cases hst
    intro H locs ls h1 h2 h3 h4
    exact lv_pop hx hb hd rfl (k H locs ls h1 h2 h3 h4)
  · rename_i x st' hst
    cases hs
    cases hst
    intro H locs ls h1 h2 h3 h4
    exact lv_pop hx hb hd rfl (k H locs ls h1 h2 h3 h4)
  · cases hs
theorem vm_bald_ok (C : vm_C M p R s m args meth c D ad tc A) (hd : decode M.2.2.1 pc = .ok (.baload, 1)) (hs : vm_bald S = some (g, S')) (hg : g) (k : vm_W p l e R s m args below meth c cells slots Q D ad tc A (pc + 1) S') : vm_W p l e R s m args below meth c cells slots Q D ad tc A pc S := by
  obtain ⟨hx, hb, hml, hown, hts, hK, hA, hN, hlk, hnm, hR, hT⟩ := C
  obtain ⟨lv, st, cs⟩ := S
  unfold vm_bald at hs
  split at hs
  · rename_i i a st' hst
    split at hs
    · rename_i t n f hai
      cases hs
      cases hst
      obtain ⟨e1, e2⟩ := vm_ai_inv hai
      intro H locs ls h1 h2 h3 h4
      exact va_bald hx hb hK h2 a t (vm_w_at e1) (vm_tys_at e2) hg hd (k H locs ls h1 h2 h3 h4)
    · rename_i t n f hai
      cases hs
      cases hst
      obtain ⟨e1, e2⟩ := vm_ai_inv hai
      intro H locs ls h1 h2 h3 h4
      exact va_zald hx hb hK h2 a t (vm_w_at e1) (vm_tys_at e2) hg hd (k H locs ls h1 h2 h3 h4)
    · cases hs
  · cases hs
theorem vm_iald_ok (C : vm_C M p R s m args meth c D ad tc A) (hd : decode M.2.2.1 pc = .ok (.iaload, 1)) (hs : vm_iald S = some (g, S')) (hg : g) (k : vm_W p l e R s m args below meth c cells slots Q D ad tc A (pc + 1) S') : vm_W p l e R s m args below meth c cells slots Q D ad tc A pc S := by
  obtain ⟨hx, hb, hml, hown, hts, hK, hA, hN, hlk, hnm, hR, hT⟩ := C
  obtain ⟨lv, st, cs⟩ := S
  unfold vm_iald at hs
  split at hs
  · rename_i i a st' hst
    cases hba : Nat.beq a 1000000 with
    | true =>
      rw [hba] at hs
      have ha : a = 1000000 := Nat.eq_of_beq_eq_true hba
      subst ha
      cases hs
      cases hst
      intro H locs ls h1 h2 h3 h4
      exact va_ti hx hb hT.2.1 h4 hg rfl hd (k H locs ls h1 h2 h3 h4)
    | false =>
      rw [hba] at hs
      simp only [cond_false] at hs
      split at hs
      · rename_i t n f hai
        cases hs
        cases hst
        obtain ⟨e1, e2⟩ := vm_ai_inv hai
        intro H locs ls h1 h2 h3 h4
        exact va_iald hx hb hK h2 a t (vm_w_at e1) (vm_tys_at e2) hg hd (k H locs ls h1 h2 h3 h4)
      · cases hs
  · cases hs
theorem vm_lald_ok (C : vm_C M p R s m args meth c D ad tc A) (hd : decode M.2.2.1 pc = .ok (.laload, 1)) (hs : vm_lald S = some (g, S')) (hg : g) (k : vm_W p l e R s m args below meth c cells slots Q D ad tc A (pc + 1) S') : vm_W p l e R s m args below meth c cells slots Q D ad tc A pc S := by
  obtain ⟨hx, hb, hml, hown, hts, hK, hA, hN, hlk, hnm, hR, hT⟩ := C
  obtain ⟨lv, st, cs⟩ := S
  unfold vm_lald at hs
  split at hs
  · rename_i i a st' hst
    split at hs
    · rename_i t n f hai
      cases hs
      cases hst
      obtain ⟨e1, e2⟩ := vm_aj_inv hai
      intro H locs ls h1 h2 h3 h4
      exact va_lald hx hb hK h2 a t (vm_w_at e1) (vm_tys_at e2) hg hd (k H locs ls h1 h2 h3 h4)
    · cases hs
  · cases hs
theorem vm_bast_ok (C : vm_C M p R s m args meth c D ad tc A) (hd : decode M.2.2.1 pc = .ok (.bastore, 1)) (hs : vm_bast S = some (g, S')) (hg : g) (k : vm_W p l e R s m args below meth c cells slots Q D ad tc A (pc + 1) S') : vm_W p l e R s m args below meth c cells slots Q D ad tc A pc S := by
  obtain ⟨hx, hb, hml, hown, hts, hK, hA, hN, hlk, hnm, hR, hT⟩ := C
  obtain ⟨lv, st, cs⟩ := S
  unfold vm_bast at hs
  split at hs
  · rename_i x i a st' hst
    split at hs
    · rename_i t n f hai
      cases hs
      cases hst
      obtain ⟨e1, e2⟩ := vm_ai_inv hai
      intro H locs ls h1 h2 h3 h4
      exact va_bast hx hb hK h2 h3 h4 a t (vm_w_at e1) (vm_tys_at e2) hg hd (fun H1 locs1 p1 d1 s1 => k H1 locs1 ls h1 (vm_wP p1) (vm_wD d1) s1)
    · rename_i t n f hai
      cases hs
      cases hst
      obtain ⟨e1, e2⟩ := vm_ai_inv hai
      intro H locs ls h1 h2 h3 h4
      exact va_zast hx hb hK h2 h3 h4 a t (vm_w_at e1) (vm_tys_at e2) hg hd (fun H1 locs1 p1 d1 s1 => k H1 locs1 ls h1 (vm_wP p1) (vm_wD d1) s1)
    · cases hs
  · cases hs
theorem vm_iast_ok (C : vm_C M p R s m args meth c D ad tc A) (hd : decode M.2.2.1 pc = .ok (.iastore, 1)) (hs : vm_iast S = some (g, S')) (hg : g) (k : vm_W p l e R s m args below meth c cells slots Q D ad tc A (pc + 1) S') : vm_W p l e R s m args below meth c cells slots Q D ad tc A pc S := by
  obtain ⟨hx, hb, hml, hown, hts, hK, hA, hN, hlk, hnm, hR, hT⟩ := C
  obtain ⟨lv, st, cs⟩ := S
  unfold vm_iast at hs
  split at hs
  · rename_i x i a st' hst
    split at hs
    · rename_i t n f hai
      cases hs
      cases hst
      obtain ⟨e1, e2⟩ := vm_ai_inv hai
      intro H locs ls h1 h2 h3 h4
      exact va_iast hx hb hK h2 h3 h4 a t (vm_w_at e1) (vm_tys_at e2) hg hd (fun H1 locs1 p1 d1 s1 => k H1 locs1 ls h1 (vm_wP p1) (vm_wD d1) s1)
    · cases hs
  · cases hs
theorem vm_last_ok (C : vm_C M p R s m args meth c D ad tc A) (hd : decode M.2.2.1 pc = .ok (.lastore, 1)) (hs : vm_last S = some (g, S')) (hg : g) (k : vm_W p l e R s m args below meth c cells slots Q D ad tc A (pc + 1) S') : vm_W p l e R s m args below meth c cells slots Q D ad tc A pc S := by
  obtain ⟨hx, hb, hml, hown, hts, hK, hA, hN, hlk, hnm, hR, hT⟩ := C
  obtain ⟨lv, st, cs⟩ := S
  unfold vm_last at hs
  split at hs
  · rename_i x i a st' hst
    split at hs
    · rename_i t n f hai
      cases hs
      cases hst
      obtain ⟨e1, e2⟩ := vm_aj_inv hai
      intro H locs ls h1 h2 h3 h4
      exact va_last hx hb hK h2 h3 h4 a t (vm_w_at e1) (vm_tys_at e2) hg hd (fun H1 locs1 p1 d1 s1 => k H1 locs1 ls h1 (vm_wP p1) (vm_wD d1) s1)
    · cases hs
  · cases hs
theorem vm_alen_ok (C : vm_C M p R s m args meth c D ad tc A) (hd : decode M.2.2.1 pc = .ok (.arraylength, 1)) (hs : vm_alen S = some (g, S')) (k : vm_W p l e R s m args below meth c cells slots Q D ad tc A (pc + 1) S') : vm_W p l e R s m args below meth c cells slots Q D ad tc A pc S := by
  obtain ⟨hx, hb, hml, hown, hts, hK, hA, hN, hlk, hnm, hR, hT⟩ := C
  obtain ⟨lv, st, cs⟩ := S
  unfold vm_alen at hs
  split at hs
  · rename_i a st' hst
    cases hba : Nat.beq a 1000000 with
    | true =>
      rw [hba] at hs
      have ha : a = 1000000 := Nat.eq_of_beq_eq_true hba
      subst ha
      cases hs
      cases hst
      intro H locs ls h1 h2 h3 h4
      exact va_tlen hx hb hT.2.1 h4 (v := 7) (by decide) hd (k H locs ls h1 h2 h3 h4)
    | false =>
      rw [hba] at hs
      simp only [cond_false] at hs
      split at hs
      · rename_i t x hai
        split at hs
        · rename_i ty hty
          cases hs
          cases hst
          intro H locs ls h1 h2 h3 h4
          obtain ⟨n, f | f | f | f | f⟩ := x
          · exact va_alen hx hb hK h2 a t (vm_w_at hai) (vm_tys_at hty) rfl hd (k H locs ls h1 h2 h3 h4)
          · exact va_alen hx hb hK h2 a t (vm_w_at hai) (vm_tys_at hty) rfl hd (k H locs ls h1 h2 h3 h4)
          · exact va_alen hx hb hK h2 a t (vm_w_at hai) (vm_tys_at hty) rfl hd (k H locs ls h1 h2 h3 h4)
          · exact va_alen hx hb hK h2 a t (vm_w_at hai) (vm_tys_at hty) rfl hd (k H locs ls h1 h2 h3 h4)
          · exact va_alen hx hb hK h2 a t (vm_w_at hai) (vm_tys_at hty) rfl hd (k H locs ls h1 h2 h3 h4)
        · cases hs
      · cases hs
  · cases hs
theorem vm_gf_inv {ci k : Nat} (hs : vm_gf ci k S = some (g, S')) : ∃ (a : Nat) (st : List Value) (fs : List Value) (v : Value), S.2.1 = .ref a :: st ∧ vm_g S.2.2 a = some (.inr (ci, fs)) ∧ vm_g fs k = some v ∧ S' = (S.1, v :: st, S.2.2) := by
  unfold vm_gf at hs
  split at hs
  · rename_i a st hst
    split at hs
    · rename_i c' fs hc
      split at hs
      · rename_i v hb hv
        cases hs
        have := Nat.eq_of_beq_eq_true hb
        subst this
        exact ⟨a, st, fs, v, hst, hc, hv, rfl⟩
      · cases hs
    · cases hs
  · cases hs
theorem vm_pf_inv {ci k : Nat} (hs : vm_pf ci k S = some (g, S')) : ∃ (a : Nat) (st : List Value) (fs : List Value) (v : Value), S.2.1 = v :: .ref a :: st ∧ vm_g S.2.2 a = some (.inr (ci, fs)) ∧ k < fs.length ∧ vm_fit (G_ft ci k) v = true ∧ S' = (S.1, st, vm_u S.2.2 a (.inr (ci, vm_u fs k v))) := by
  unfold vm_pf at hs
  split at hs
  · rename_i v a st hst
    split at hs
    · rename_i c' fs hc
      split at hs
      · rename_i hb hl hf
        cases hs
        have := Nat.eq_of_beq_eq_true hb
        subst this
        exact ⟨a, st, fs, v, hst, hc, Nat.le_of_ble_eq_true hl, hf, rfl⟩
      · cases hs
    · cases hs
  · cases hs
theorem vm_gf_ok {ci k idx : Nat} {Cn : String} {T : u_T} {N : Nat} (C : vm_C M p R s m args meth c D ad tc A) (hcl : vm_g vwCl ci = some (Cn, T, N)) (hk : k < N) (hl : Jvm.Cond.fieldLink M.1 idx (T k).1 (T k).2.1 (T k).2.2.1 ∈ G_big) (hd : decode M.2.2.1 pc = .ok (.getfield idx, 3)) (hs : vm_gf ci k S = some (g, S')) (kk : vm_W p l e R s m args below meth c cells slots Q D ad tc A (pc + 3) S') : vm_W p l e R s m args below meth c cells slots Q D ad tc A pc S := by
  obtain ⟨hx, hb, hml, hown, hts, hK, hA, hN, hlk, hnm, hR, hT⟩ := C
  obtain ⟨e0, e1, e2, e3⟩ := G_cl hcl
  obtain ⟨a, st, fs, v, h5, h6, h7, rfl⟩ := vm_gf_inv hs
  intro H locs ls h1 h2 h3 h4
  rw [h5]
  exact va_get hx hb hts e1 hown hK h2 a (vm_w_at h6) e0 k hk (hts _ hl) (fun _ h9 => h9) (by rw [List.getElem?_map, ← vm_g_eq, h7]; rfl) hd (kk H locs ls h1 h2 h3 h4)
theorem vm_gfN_ok {ci k idx : Nat} {Cn : String} {T : u_T} {N : Nat} (C : vm_C M p R s m args meth c D ad tc A) (hcl : vm_g vwCl ci = some (Cn, T, N)) (hk : k < N) (hl : Jvm.Cond.fieldLinkNest M.1 idx (T k).1 (T k).2.1 (T k).2.2.1 "ImageLoader" ∈ G_nest) (hd : decode M.2.2.1 pc = .ok (.getfield idx, 3)) (hs : vm_gf ci k S = some (g, S')) (kk : vm_W p l e R s m args below meth c cells slots Q D ad tc A (pc + 3) S') : vm_W p l e R s m args below meth c cells slots Q D ad tc A pc S := by
  obtain ⟨hx, hb, hml, hown, hts, hK, hA, hN, hlk, hnm, hR, hT⟩ := C
  obtain ⟨e0, e1, e2, e3⟩ := G_cl hcl
  obtain ⟨a, st, fs, v, h5, h6, h7, rfl⟩ := vm_gf_inv hs
  intro H locs ls h1 h2 h3 h4
  rw [h5]
  exact va_getN hx hb hts e1 hown hK h2 a (vm_w_at h6) e0 k hk (va_Nw.use rfl (hN _ hl)) (fun _ h9 => h9) (by rw [List.getElem?_map, ← vm_g_eq, h7]; rfl) hd (kk H locs ls h1 h2 h3 h4)
theorem vm_pf_ok {ci k idx : Nat} {Cn : String} {T : u_T} {N : Nat} (C : vm_C M p R s m args meth c D ad tc A) (hcl : vm_g vwCl ci = some (Cn, T, N)) (hk : k < N) (hl : Jvm.Cond.fieldLink M.1 idx (T k).1 (T k).2.1 (T k).2.2.1 ∈ G_big) (hfin : (T k).2.2.2 = false) (hd : decode M.2.2.1 pc = .ok (.putfield idx, 3)) (hs : vm_pf ci k S = some (g, S')) (kk : vm_W p l e R s m args below meth c cells slots Q D ad tc A (pc + 3) S') : vm_W p l e R s m args below meth c cells slots Q D ad tc A pc S := by
  obtain ⟨hx, hb, hml, hown, hts, hK, hA, hN, hlk, hnm, hR, hT⟩ := C
  obtain ⟨e0, e1, e2, e3⟩ := G_cl hcl
  obtain ⟨a, st, fs, v, h5, h6, h7, h8, rfl⟩ := vm_pf_inv hs
  obtain ⟨f1, f2⟩ := vm_fit_ok ad h8
  intro H locs ls h1 h2 h3 h4
  rw [h5]
  refine va_put hx hb hts e1 (G_ft ci) e2 e3 hown hK h2 h3 h4 a (vm_w_at h6) e0 k hk (hts _ hl) (fun _ h9 => h9) hfin (e2 k hk) f1 f2 (by rw [List.length_map]; exact h7) hd (fun H1 locs1 p1 d1 s1 => ?_)
  rw [← vm_fs_set] at p1 d1
  exact kk H1 locs1 ls h1 (vm_wP p1) (vm_wD d1) s1
theorem vm_pfF_ok {ci k idx : Nat} {Cn : String} {T : u_T} {N : Nat} (C : vm_C M p R s m args meth c D ad tc A) (hcl : vm_g vwCl ci = some (Cn, T, N)) (hk : k < N) (hl : Jvm.Cond.fieldLink M.1 idx (T k).1 (T k).2.1 (T k).2.2.1 ∈ G_big) (hfin : (T k).2.2.2 = true) (hdc : (T k).1 = M.1) (hin : M.2.1.name = "<init>") (hd : decode M.2.2.1 pc = .ok (.putfield idx, 3)) (hs : vm_pf ci k S = some (g, S')) (kk : vm_W p l e R s m args below meth c cells slots Q D ad tc A (pc + 3) S') : vm_W p l e R s m args below meth c cells slots Q D ad tc A pc S := by
  obtain ⟨hx, hb, hml, hown, hts, hK, hA, hN, hlk, hnm, hR, hT⟩ := C
  obtain ⟨e0, e1, e2, e3⟩ := G_cl hcl
  obtain ⟨a, st, fs, v, h5, h6, h7, h8, rfl⟩ := vm_pf_inv hs
  obtain ⟨f1, f2⟩ := vm_fit_ok ad h8
  intro H locs ls h1 h2 h3 h4
  rw [h5]
  refine va_putF hx hb hts e1 (G_ft ci) e2 e3 hown hK h2 h3 h4 a (vm_w_at h6) e0 k hk (hts _ hl) (fun _ h9 => h9) hfin (hnm.trans hin) hdc (e2 k hk) f1 f2 (by rw [List.length_map]; exact h7) hd (fun H1 locs1 p1 d1 s1 => ?_)
  rw [← vm_fs_set] at p1 d1
  exact kk H1 locs1 ls h1 (vm_wP p1) (vm_wD d1) s1
end VM4
