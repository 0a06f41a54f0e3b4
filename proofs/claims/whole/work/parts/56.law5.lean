theorem fr_of (x : Int32) : ∃ f, (1 ≤ f ∧ f ≤ 64) ∧ f_J_max (1 : Int32) (f_J_min (64 : Int32) x) = nI f ∧ f_M_init x = nI f := by
  unfold f_J_max f_J_min f_M_init
  have t64' : (64 : Int32).toInt = 64 := by decide
  by_cases h1 : (1 : Int32) ≤ x
  · by_cases h2 : x ≤ 64
    · rw [Int32.le_iff_toInt_le, t1] at h1
      rw [Int32.le_iff_toInt_le, t64'] at h2
      obtain ⟨k, hk, hk1, hk2⟩ := nI_ofr (x := x) (lo := 1) (hi := 64) h1 h2 (by decide)
      refine ⟨k, ⟨hk1, hk2⟩, ?_, ?_⟩
      · have e : (if x < 64 then x else (64 : Int32)) = x := by
          by_cases h3 : x < 64
          · rw [if_pos h3]
          · rw [if_neg h3]
            rw [Int32.lt_iff_toInt_lt, t64'] at h3
            exact Int32.toInt_inj.mp (by rw [t64']; omega)
        rw [e]
        by_cases h3 : (1 : Int32) < x
        · rw [if_pos h3, hk]
        · rw [if_neg h3]
          rw [Int32.lt_iff_toInt_lt, t1] at h3
          rw [← hk]
          exact Int32.toInt_inj.mp (by rw [t1]; omega)
      · rw [if_pos (by rw [Int32.le_iff_toInt_le, t1]; exact h1), if_pos (by rw [Int32.le_iff_toInt_le, t64']; exact h2), hk]
    · refine ⟨64, by decide, ?_, ?_⟩
      · rw [if_neg (c := x < 64)]
        · decide
        · intro w
          rw [Int32.lt_iff_toInt_lt, t64'] at w
          rw [Int32.le_iff_toInt_le, t64'] at h2
          omega
      · rw [if_pos h1, if_neg h2]; rfl
  · refine ⟨1, by decide, ?_, ?_⟩
    · rw [Int32.le_iff_toInt_le, t1] at h1
      have h3 : x < 64 := by rw [Int32.lt_iff_toInt_lt, t64']; omega
      rw [if_pos h3, if_neg]
      · rfl
      · rw [Int32.lt_iff_toInt_lt, t1]; omega
    · rw [if_neg h1]; rfl
theorem tb_at {s : State} {A : Array Value} (hts : ∀ w ∈ lw_tbl, w.before A s = true) (k : Nat) {w : Cond} (h : lw_tbl[k]? = some w) : w.before A s = true := hts w (List.mem_of_getElem? h)
set_option maxRecDepth 100000 in
theorem G_nest_in : ∀ w ∈ G_nest, w ∈ lw_tbl := by decide +kernel
theorem w_arr {s : State} {A : Array Value} {ty : FieldType} (h : (Cond.arrayClass ty).before A s = true) : ∃ cA : Nat, ArrOfT s cA ty ∧ s.vm.findClass ("[" ++ ty.toString) = some cA := by
  obtain ⟨cA, kA, comp, h1, h2, h3⟩ := Cond.arrayClass_spec h
  exact ⟨cA, fun N z => ⟨(fun k h => by cases h), kA, h2, comp, h3⟩, h1⟩
set_option maxRecDepth 100000 in
set_option maxHeartbeats 4000000 in
theorem w_K {s : State} {A : Array Value} (hts : ∀ w ∈ lw_tbl, w.before A s = true) : ∃ (D : va_G) (tc : Nat → Nat), va_K D vwCl (vm_tys tc) s := by
  have hG : ∀ w ∈ G_big, w.before A s = true := fun w hw => hts w (List.mem_filter.mp hw).1
  obtain ⟨c0, i0, k0⟩ := u_known (C := RX0) (T := TX0) (N := 13) (n := 13) hG G_in0 (tb_at hts 99 (by decide +kernel))
  obtain ⟨c1, i1, k1⟩ := u_known (C := RX1) (T := TX1) (N := 7) (n := 7) hG G_in1 (tb_at hts 106 (by decide +kernel))
  obtain ⟨c2, i2, k2⟩ := u_known (C := RX2) (T := TX2) (N := 4) (n := 4) hG G_in2 (tb_at hts 73 (by decide +kernel))
  obtain ⟨c3, i3, k3⟩ := u_known (C := RX3) (T := TX3) (N := 2) (n := 2) hG G_in3 (tb_at hts 59 (by decide +kernel))
  obtain ⟨c4, i4, k4⟩ := u_known (C := RX4) (T := TX4) (N := 8) (n := 8) hG G_in4 (tb_at hts 51 (by decide +kernel))
  obtain ⟨c5, i5, k5⟩ := u_known (C := RX5) (T := TX5) (N := 24) (n := 24) hG G_in5 (tb_at hts 583 (by decide +kernel))
  obtain ⟨ab, pb, qb⟩ := w_arr (ty := .byte) (tb_at hts 71 (by decide +kernel))
  obtain ⟨ai, pi, qi⟩ := w_arr (ty := .int) (tb_at hts 97 (by decide +kernel))
  obtain ⟨al, pl, ql⟩ := w_arr (ty := .long) (tb_at hts 662 (by decide +kernel))
  obtain ⟨az, pz, qz⟩ := w_arr (ty := .boolean) (tb_at hts 661 (by decide +kernel))
  obtain ⟨comp, as, kA, h1, h2, h3, h4, h5⟩ := Cond.arrayOver_spec (n := "ImageLoader$Segment") (tb_at hts 105 (by decide +kernel))
  refine ⟨(fun k => match k with | 0 => c0 | 1 => c1 | 2 => c2 | 3 => c3 | 4 => c4 | _ => c5, fun k => match k with | 0 => i0 | 1 => i1 | 2 => i2 | 3 => i3 | 4 => i4 | _ => i5), fun k => match k with | 0 => ab | 1 => ai | 2 => al | 3 => az | _ => as, ?_, ?_⟩
  · intro k q hq
    match k, hq with
    | 0, hq => cases hq; exact k0
    | 1, hq => cases hq; exact k1
    | 2, hq => cases hq; exact k2
    | 3, hq => cases hq; exact k3
    | 4, hq => cases hq; exact k4
    | 5, hq => cases hq; exact k5
    | k + 6, hq => simp [vwCl] at hq
  · intro k q hq
    match k, hq with
    | 0, hq => cases hq; exact ⟨pb, qb⟩
    | 1, hq => cases hq; exact ⟨pi, qi⟩
    | 2, hq => cases hq; exact ⟨pl, ql⟩
    | 3, hq => cases hq; exact ⟨pz, qz⟩
    | 4, hq => cases hq; exact ⟨fun N z => ⟨(fun k h => by cases h), kA, h3, comp, h4⟩, kA, comp, h3, h4, h1, h5⟩
    | k + 5, hq => simp [vm_tys] at hq
set_option maxRecDepth 100000 in
set_option maxHeartbeats 4000000 in
theorem w_T {s : State} {b : Nat} (hts : ∀ w ∈ lw_tbl, w.before #[Value.ref b] s = true) (hgv : (Jvm.Cond.and given_1 narrow_1).before #[Value.ref b] s = true) : ∃ tm : Nat, va_Z "ImageLoader$Image" "MAGIC" "[I" (.ref tm) (fun q => s.heap.size ≤ q) s s.heap ∧ va_T .int tm 7 (fun j => .int (G_mag j)) (fun q => s.heap.size ≤ q) s s.heap ∧ va_AO "ImageLoader$Segment" s := by
  have hs := flat_of_before _ hgv
  have hA : ∀ a : Nat, a < s.heap.size → ¬ (fun q : Nat => s.heap.size ≤ q) a := fun a h => Nat.not_le.mpr h
  have harr : (Cond.arrayOf (.static "ImageLoader$Image" "MAGIC" "[I") .int).before #[Value.ref b] s = true := hs _ (by decide +kernel)
  have hlen : (Cond.eq (.length (.static "ImageLoader$Image" "MAGIC" "[I")) (.int 7)).before #[Value.ref b] s = true := hs _ (by decide +kernel)
  have h0 : (Cond.eq (.elem (.static "ImageLoader$Image" "MAGIC" "[I") (.int 0)) (.int 127)).before #[Value.ref b] s = true := hs _ (by decide +kernel)
  have h1 : (Cond.eq (.elem (.static "ImageLoader$Image" "MAGIC" "[I") (.int 1)) (.int 69)).before #[Value.ref b] s = true := hs _ (by decide +kernel)
  have h2 : (Cond.eq (.elem (.static "ImageLoader$Image" "MAGIC" "[I") (.int 2)) (.int 76)).before #[Value.ref b] s = true := hs _ (by decide +kernel)
  have h3 : (Cond.eq (.elem (.static "ImageLoader$Image" "MAGIC" "[I") (.int 3)) (.int 70)).before #[Value.ref b] s = true := hs _ (by decide +kernel)
  have h4 : (Cond.eq (.elem (.static "ImageLoader$Image" "MAGIC" "[I") (.int 4)) (.int 1)).before #[Value.ref b] s = true := hs _ (by decide +kernel)
  have h5 : (Cond.eq (.elem (.static "ImageLoader$Image" "MAGIC" "[I") (.int 5)) (.int 1)).before #[Value.ref b] s = true := hs _ (by decide +kernel)
  have h6 : (Cond.eq (.elem (.static "ImageLoader$Image" "MAGIC" "[I") (.int 6)) (.int 1)).before #[Value.ref b] s = true := hs _ (by decide +kernel)
  obtain ⟨tm, e1, e2⟩ := va_Tof (args := #[Value.ref b]) (N := 7) (f := fun j => .int (G_mag j)) (A := fun q => s.heap.size ≤ q) (by decide) harr (va_eqt hlen) (fun j hj => by
    match j, hj with
    | 0, _ => exact va_eqt h0
    | 1, _ => exact va_eqt h1
    | 2, _ => exact va_eqt h2
    | 3, _ => exact va_eqt h3
    | 4, _ => exact va_eqt h4
    | 5, _ => exact va_eqt h5
    | 6, _ => exact va_eqt h6
    | j + 7, hj => exact absurd hj (by omega)) hA
  exact ⟨tm, va_Zof (tb_at hts 275 (by decide +kernel)) (tb_at hts 46 (by decide +kernel)) e1 hA, e2, va_AO.of (tb_at hts 105 (by decide +kernel))⟩
