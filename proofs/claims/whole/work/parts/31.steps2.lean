
theorem ref_0 {rf : Nat → Int32} {x y r : Int32} (h : f_P_refusal rf x y r = 0) : (y.toInt = 1 ∨ y.toInt = 2 ∨ y.toInt = 4) ∧ x &&& (y - 1) = 0 ∧ 0 ≤ x.toInt ∧ x.toInt < 16384 := by
  unfold f_P_refusal at h
  by_cases h1 : y.toInt = 1 ∨ y.toInt = 2 ∨ y.toInt = 4
  · rw [if_pos h1] at h
    by_cases h2 : x &&& (y - 1) = 0
    · rw [if_pos h2] at h
      by_cases h3 : 0 ≤ x.toInt ∧ x.toInt < 16384
      · exact ⟨h1, h2, h3⟩
      · rw [rO_fd h3, if_pos rfl] at h; exact absurd h (by decide)
    · rw [if_neg h2] at h; exact absurd h (by decide)
  · rw [if_neg h1] at h; exact absurd h (by decide)
theorem ref_p {x : Int32} {N : Nat} (h1 : 1 ≤ N) (h4 : N ≤ 4) (hd : 16384 % N = 0) (h : x - x / nI N * nI N = 0) (h0 : 0 ≤ x.toInt ∧ x.toInt < 16384) : ∃ p, x = nI p ∧ p + N ≤ 16384 := by
  have ho : 0 ≤ x.toInt ∧ x.toInt ≤ (16384 : Int) - N := Classical.byContradiction (fun q => al_out h1 h4 hd h q h0)
  obtain ⟨p, hp, -, hp2⟩ := nI_ofr (x := x) (lo := 0) (hi := 16384) (by omega) (by omega) (by decide)
  rw [nI_ret (lo := 0) (hi := 0) hp (by omega)] at ho
  exact ⟨p, hp, by omega⟩
theorem cnt_upd {f : Nat → Int32} {p : Nat} {v : Int32} (h1 : ¬ f p = -1) (h2 : ¬ v = -1) : cntM (upd f p v) 0 64 = cntM f 0 64 := cnt_congr 64 (fun j _ _ => by
  unfold upd
  by_cases hj : j = p
  · rw [if_pos hj, hj]; exact ⟨fun q => absurd q h2, fun q => absurd q h1⟩
  · rw [if_neg hj])
theorem Rm.up9 {rf mp rg : Nat → Int32} {p : Nat} {v : Int32} (h : Rm rf mp rg) (h1 : ¬ rf p = -1) (h2 : ¬ v = -1) : Rm (upd rf p v) mp (upd rg p v) := by
  intro j hj
  unfold upd
  by_cases hp : j = p
  · rw [if_pos hp, if_pos hp]
    rcases h j hj with ⟨q1, q2⟩ | ⟨q1, q2, q3⟩
    · rw [hp] at q1; exact absurd q1 h1
    · exact Or.inr ⟨h2, q2, rfl⟩
  · rw [if_neg hp, if_neg hp]; exact h j hj
theorem Rm.fill {rf mp rg : Nat → Int32} {p k : Nat} (h : Rm rf mp rg) : Rm (fillI rf p k (-1)) (fillI mp p k 0) rg := by
  intro j hj
  unfold fillI
  by_cases hp : p ≤ j ∧ j < p + k
  · rw [if_pos hp, if_pos hp]; exact Or.inl ⟨rfl, rfl⟩
  · rw [if_neg hp, if_neg hp]; exact h j hj

set_option maxRecDepth 100000 in
set_option maxHeartbeats 4000000 in
theorem s_protect {x y : Int32} : StepI m_L_protect m_M_protect [.int x, .int y] := by
  intro f X cs hI hK
  obtain ⟨t, z, b, rf, fp, le, lp, lb, il⟩ := X
  obtain ⟨ht, hz, hb, hr, hf, hc⟩ := hI
  simp only at ht hz hb hr hc
  by_cases h1 : 0 ≤ x.toInt ∧ x.toInt < 64 ∧ 0 ≤ y.toInt ∧ y.toInt ≤ 7
  · obtain ⟨p, hp, -, hp2⟩ := nI_ofr (x := x) (lo := 0) (hi := 63) (by omega) (by omega) (by decide)
    obtain ⟨w, hw, -, hw2⟩ := nI_ofr (x := y) (lo := 0) (hi := 7) (by omega) (by omega) (by decide)
    have hy1 : ¬ y = -1 := fun q => by rw [q] at h1; exact absurd h1.2.2.1 (by decide)
    by_cases h2 : rf p = -1
    · refine ⟨-3, (t, z, b, rf, fp, le, lp, lb, il), ⟨ht, hz, hb, hr, hf, hc⟩, ?_, ?_⟩
      · obtain ⟨sc, ifp, ib, ie, pw, dh, rl, rb, re, sy, sb, rc, sg, mth, msn, mwn, mba, mdy, mfa, mbg, mhd, mkn, mfo, mfi, mmy, mwa, mmp, mrg, hR, rfl⟩ := hK
        exact (c_L_protect_B hp (by omega) ⟨h1.2.2.1, h1.2.2.2⟩ h2).mono (fun r cs' hp => by obtain ⟨rfl, rfl⟩ := hp; exact ⟨rfl, ⟨_, _, _, _, _, _, _, _, _, _, _, _, _, _, _, _, _, _, _, _, _, _, _, _, _, _, _, _, hR, rfl⟩⟩)
      · intro cs1 hK1
        obtain ⟨sc, ifp, ib, ie, pw, dh, rl, rb, re, sy, sb, rc, sg, mth, msn, mwn, mba, mdy, mfa, mbg, mhd, mkn, mfo, mfi, mmy, mwa, mmp, mrg, hR, rfl⟩ := hK1
        exact (c_M_protect_B hR hp (by omega) ⟨h1.2.2.1, h1.2.2.2⟩ h2).mono (fun r cs' hp => by obtain ⟨rfl, rfl⟩ := hp; exact ⟨rfl, ⟨_, _, _, _, _, _, _, _, _, _, _, _, _, _, _, _, _, _, _, _, _, _, _, _, _, _, _, _, hR, rfl⟩⟩)
    · refine ⟨rf p, (t, z, b, upd rf p y, fp, le, lp, lb, il), ⟨ht, hz, hb, fun j hj => (by show upd rf p y j = -1 ∨ _; by_cases hjp : j = p; exact Or.inr ⟨w, by omega, (if_pos hjp).trans hw⟩; exact (hr j hj).elim (fun q => Or.inl ((if_neg hjp).trans q)) (fun ⟨r, q1, q2⟩ => Or.inr ⟨r, q1, (if_neg hjp).trans q2⟩)), hf, by show cntM (upd rf p y) 0 64 ≤ f; rw [cnt_upd h2 hy1]; exact hc⟩, ?_, ?_⟩
      · obtain ⟨sc, ifp, ib, ie, pw, dh, rl, rb, re, sy, sb, rc, sg, mth, msn, mwn, mba, mdy, mfa, mbg, mhd, mkn, mfo, mfi, mmy, mwa, mmp, mrg, hR, rfl⟩ := hK
        refine (c_L_protect_C hp (by omega) ⟨h1.2.2.1, h1.2.2.2⟩ h2).mono (fun r cs' hp => ?_)
        obtain ⟨rfl, rfl⟩ := hp
        exact ⟨rfl, ⟨sc, ifp, ib, ie, pw, dh, rl, rb, re, sy, sb, rc, sg, mth, msn, mwn, mba, mdy, mfa, mbg, mhd, mkn, mfo, mfi, mmy, mwa, mmp, mrg, hR, by simp only [cnt_upd h2 hy1]⟩⟩
      · intro cs1 hK1
        obtain ⟨sc, ifp, ib, ie, pw, dh, rl, rb, re, sy, sb, rc, sg, mth, msn, mwn, mba, mdy, mfa, mbg, mhd, mkn, mfo, mfi, mmy, mwa, mmp, mrg, hR, rfl⟩ := hK1
        refine (c_M_protect_C hR hp (by omega) ⟨h1.2.2.1, h1.2.2.2⟩ h2).mono (fun r cs' hp => ?_)
        obtain ⟨rfl, rfl⟩ := hp
        exact ⟨rfl, ⟨sc, ifp, ib, ie, pw, dh, rl, rb, re, sy, sb, rc, sg, 0, msn, mwn, mba, mdy, mfa, mbg, mhd, mkn, mfo, mfi, mmy, mwa, mmp, upd mrg p y, hR.up9 h2 hy1, by simp only⟩⟩
  · refine ⟨-2, (t, z, b, rf, fp, le, lp, lb, il), ⟨ht, hz, hb, hr, hf, hc⟩, ?_, ?_⟩
    · obtain ⟨sc, ifp, ib, ie, pw, dh, rl, rb, re, sy, sb, rc, sg, mth, msn, mwn, mba, mdy, mfa, mbg, mhd, mkn, mfo, mfi, mmy, mwa, mmp, mrg, hR, rfl⟩ := hK
      exact (c_L_protect_A h1).mono (fun r cs' hp => by obtain ⟨rfl, rfl⟩ := hp; exact ⟨rfl, ⟨_, _, _, _, _, _, _, _, _, _, _, _, _, _, _, _, _, _, _, _, _, _, _, _, _, _, _, _, hR, rfl⟩⟩)
    · intro cs1 hK1
      obtain ⟨sc, ifp, ib, ie, pw, dh, rl, rb, re, sy, sb, rc, sg, mth, msn, mwn, mba, mdy, mfa, mbg, mhd, mkn, mfo, mfi, mmy, mwa, mmp, mrg, hR, rfl⟩ := hK1
      exact (c_M_protect_A h1).mono (fun r cs' hp => by obtain ⟨rfl, rfl⟩ := hp; exact ⟨rfl, ⟨_, _, _, _, _, _, _, _, _, _, _, _, _, _, _, _, _, _, _, _, _, _, _, _, _, _, _, _, hR, rfl⟩⟩)
set_option maxRecDepth 100000 in
set_option maxHeartbeats 4000000 in
theorem s_unmap {x y : Int32} : StepI m_L_unmap m_M_unmap [.int x, .int y] := by
  intro f X cs hI hK
  obtain ⟨t, z, b, rf, fp, le, lp, lb, il⟩ := X
  obtain ⟨ht, hz, hb, hr, hf, hc⟩ := hI
  simp only at ht hz hb hr hc
  by_cases h1 : 1 ≤ y.toInt ∧ 0 ≤ x.toInt ∧ x.toInt + y.toInt ≤ 64
  · obtain ⟨p, hp, -, hp2⟩ := nI_ofr (x := x) (lo := 0) (hi := 63) (by omega) (by omega) (by decide)
    obtain ⟨k, hk, hk1, hk2⟩ := nI_ofr (x := y) (lo := 1) (hi := 64) (by omega) (by omega) (by decide)
    rw [nI_ret (lo := 0) (hi := 0) hp (by omega), nI_ret (lo := 0) (hi := 0) hk (by omega)] at h1
    have hpk : p + k ≤ 64 := by omega
    have hcf := cnt_fill rf hpk
    refine ⟨nI (cntM rf p k), (t, z, b, fillI rf p k (-1), fp, le, lp, lb, il), ⟨ht, hz, hb, fun j hj => (by show fillI rf p k (-1) j = -1 ∨ _; by_cases hjp : p ≤ j ∧ j < p + k; exact Or.inl (if_pos hjp); exact (hr j hj).elim (fun q => Or.inl ((if_neg hjp).trans q)) (fun ⟨r, q1, q2⟩ => Or.inr ⟨r, q1, (if_neg hjp).trans q2⟩)), hf, by show cntM (fillI rf p k (-1)) 0 64 ≤ f; omega⟩, ?_, ?_⟩
    · obtain ⟨sc, ifp, ib, ie, pw, dh, rl, rb, re, sy, sb, rc, sg, mth, msn, mwn, mba, mdy, mfa, mbg, mhd, mkn, mfo, mfi, mmy, mwa, mmp, mrg, hR, rfl⟩ := hK
      refine (c_L_unmap_B hp hk hk1 hpk).mono (fun r cs' hp => ?_)
      obtain ⟨rfl, rfl⟩ := hp
      exact ⟨rfl, ⟨sc, ifp, ib, ie, pw, dh, rl, rb, re, sy, sb, rc, sg, mth, msn, mwn, mba, mdy, mfa, mbg, mhd, mkn, mfo, mfi, mmy, mwa, mmp, mrg, hR, by simp only [show nI (cntM rf 0 64) - nI (cntM rf p k) = nI (cntM (fillI rf p k (-1)) 0 64) from by rw [pk_sub (by omega)]; congr 1; omega]⟩⟩
    · intro cs1 hK1
      obtain ⟨sc, ifp, ib, ie, pw, dh, rl, rb, re, sy, sb, rc, sg, mth, msn, mwn, mba, mdy, mfa, mbg, mhd, mkn, mfo, mfi, mmy, mwa, mmp, mrg, hR, rfl⟩ := hK1
      refine (c_M_unmap_B hR hp hk hk1 hpk).mono (fun r cs' hp => ?_)
      obtain ⟨rfl, rfl⟩ := hp
      exact ⟨rfl, ⟨sc, ifp, ib, ie, pw, dh, rl, rb, re, sy, sb, rc, sg, 0, msn, mwn, mba, mdy, mfa, mbg, mhd, mkn, mfo, mfi, mmy, mwa, fillI mmp p k 0, mrg, hR.fill, by simp only⟩⟩
  · refine ⟨-2, (t, z, b, rf, fp, le, lp, lb, il), ⟨ht, hz, hb, hr, hf, hc⟩, ?_, ?_⟩
    · obtain ⟨sc, ifp, ib, ie, pw, dh, rl, rb, re, sy, sb, rc, sg, mth, msn, mwn, mba, mdy, mfa, mbg, mhd, mkn, mfo, mfi, mmy, mwa, mmp, mrg, hR, rfl⟩ := hK
      exact (c_L_unmap_A h1).mono (fun r cs' hp => by obtain ⟨rfl, rfl⟩ := hp; exact ⟨rfl, ⟨_, _, _, _, _, _, _, _, _, _, _, _, _, _, _, _, _, _, _, _, _, _, _, _, _, _, _, _, hR, rfl⟩⟩)
    · intro cs1 hK1
      obtain ⟨sc, ifp, ib, ie, pw, dh, rl, rb, re, sy, sb, rc, sg, mth, msn, mwn, mba, mdy, mfa, mbg, mhd, mkn, mfo, mfi, mmy, mwa, mmp, mrg, hR, rfl⟩ := hK1
      exact (c_M_unmap_A h1).mono (fun r cs' hp => by obtain ⟨rfl, rfl⟩ := hp; exact ⟨rfl, ⟨_, _, _, _, _, _, _, _, _, _, _, _, _, _, _, _, _, _, _, _, _, _, _, _, _, _, _, _, hR, rfl⟩⟩)
set_option maxRecDepth 100000 in
set_option maxHeartbeats 4000000 in
theorem s_sum {x y : Int32} : StepI m_L_sum m_M_sum [.int x, .int y] := by
  intro f X cs hI hK
  obtain ⟨t, z, b, rf, fp, le, lp, lb, il⟩ := X
  obtain ⟨ht, hz, hb, hr, hf, hc⟩ := hI
  simp only at ht hz hb hr hc
  by_cases h1 : y.toInt = 0 ∨ (0 < y.toInt ∧ y.toInt ≤ 64 ∧ 0 ≤ x.toInt ∧ x.toInt ≤ 64 - y.toInt)
  · by_cases h2 : y.toInt = 0
    · obtain rfl : y = 0 := Int32.toInt_inj.mp (by rw [h2]; decide)
      refine ⟨7, (t, z, b, rf, fp, le, lp, lb, il), ⟨ht, hz, hb, hr, hf, hc⟩, ?_, ?_⟩
      · obtain ⟨sc, ifp, ib, ie, pw, dh, rl, rb, re, sy, sb, rc, sg, mth, msn, mwn, mba, mdy, mfa, mbg, mhd, mkn, mfo, mfi, mmy, mwa, mmp, mrg, hR, rfl⟩ := hK
        exact (c_L_sum_0).mono (fun r cs' hp => by obtain ⟨rfl, rfl⟩ := hp; exact ⟨rfl, ⟨_, _, _, _, _, _, _, _, _, _, _, _, _, _, _, _, _, _, _, _, _, _, _, _, _, _, _, _, hR, rfl⟩⟩)
      · intro cs1 hK1
        obtain ⟨sc, ifp, ib, ie, pw, dh, rl, rb, re, sy, sb, rc, sg, mth, msn, mwn, mba, mdy, mfa, mbg, mhd, mkn, mfo, mfi, mmy, mwa, mmp, mrg, hR, rfl⟩ := hK1
        exact (c_M_sum_0).mono (fun r cs' hp => by obtain ⟨rfl, rfl⟩ := hp; exact ⟨rfl, ⟨_, _, _, _, _, _, _, _, _, _, _, _, _, _, _, _, _, _, _, _, _, _, _, _, _, _, _, _, hR, rfl⟩⟩)
    · obtain ⟨p, hp, -, hp2⟩ := nI_ofr (x := x) (lo := 0) (hi := 63) (by omega) (by omega) (by decide)
      obtain ⟨k, hk, hk1, hk2⟩ := nI_ofr (x := y) (lo := 1) (hi := 64) (by omega) (by omega) (by decide)
      rw [nI_ret (lo := 0) (hi := 0) hp (by omega), nI_ret (lo := 0) (hi := 0) hk (by omega)] at h1
      have hpk : p + k ≤ 64 := by omega
      refine ⟨sS b rf p k, (t, z, b, rf, fp, le, lp, lb, il), ⟨ht, hz, hb, hr, hf, hc⟩, ?_, ?_⟩
      · obtain ⟨sc, ifp, ib, ie, pw, dh, rl, rb, re, sy, sb, rc, sg, mth, msn, mwn, mba, mdy, mfa, mbg, mhd, mkn, mfo, mfi, mmy, mwa, mmp, mrg, hR, rfl⟩ := hK
        exact (c_L_sum_B hb hp hk hk1 hpk).mono (fun r cs' hp => by obtain ⟨rfl, rfl⟩ := hp; exact ⟨rfl, ⟨_, _, _, _, _, _, _, _, _, _, _, _, _, _, _, _, _, _, _, _, _, _, _, _, _, _, _, _, hR, rfl⟩⟩)
      · intro cs1 hK1
        obtain ⟨sc, ifp, ib, ie, pw, dh, rl, rb, re, sy, sb, rc, sg, mth, msn, mwn, mba, mdy, mfa, mbg, mhd, mkn, mfo, mfi, mmy, mwa, mmp, mrg, hR, rfl⟩ := hK1
        exact (c_M_sum_B hR hp hk hk1 hpk).mono (fun r cs' hp => by obtain ⟨rfl, rfl⟩ := hp; exact ⟨rfl, ⟨_, _, _, _, _, _, _, _, _, _, _, _, _, _, _, _, _, _, _, _, _, _, _, _, _, _, _, _, hR, rfl⟩⟩)
  · refine ⟨0, (t, z, b, rf, fp, le, lp, lb, il), ⟨ht, hz, hb, hr, hf, hc⟩, ?_, ?_⟩
    · obtain ⟨sc, ifp, ib, ie, pw, dh, rl, rb, re, sy, sb, rc, sg, mth, msn, mwn, mba, mdy, mfa, mbg, mhd, mkn, mfo, mfi, mmy, mwa, mmp, mrg, hR, rfl⟩ := hK
      exact (c_L_sum_A h1).mono (fun r cs' hp => by obtain ⟨rfl, rfl⟩ := hp; exact ⟨rfl, ⟨_, _, _, _, _, _, _, _, _, _, _, _, _, _, _, _, _, _, _, _, _, _, _, _, _, _, _, _, hR, rfl⟩⟩)
    · intro cs1 hK1
      obtain ⟨sc, ifp, ib, ie, pw, dh, rl, rb, re, sy, sb, rc, sg, mth, msn, mwn, mba, mdy, mfa, mbg, mhd, mkn, mfo, mfi, mmy, mwa, mmp, mrg, hR, rfl⟩ := hK1
      exact (c_M_sum_A h1).mono (fun r cs' hp => by obtain ⟨rfl, rfl⟩ := hp; exact ⟨rfl, ⟨_, _, _, _, _, _, _, _, _, _, _, _, _, _, _, _, _, _, _, _, _, _, _, _, _, _, _, _, hR, rfl⟩⟩)
set_option maxRecDepth 100000 in
set_option maxHeartbeats 4000000 in
theorem s_read {x y : Int32} : StepJ m_L_read m_M_read [.int x, .int y] := by
  intro f X cs hI hK
  obtain ⟨t, z, b, rf, fp, le, lp, lb, il⟩ := X
  obtain ⟨ht, hz, hb, hr, hf, hc⟩ := hI
  simp only at ht hz hb hr hc
  by_cases h1 : f_P_refusal rf x y 4 = 0
  · obtain ⟨hy, hal, hx⟩ := ref_0 h1
    rcases hy with h | h | h
    · obtain rfl : y = 1 := Int32.toInt_inj.mp (by rw [h]; decide)
      obtain ⟨p, hp, hp2⟩ := ref_p (N := 1) (by decide) (by decide) (by decide) ((al_1 x).mpr hal) hx
      refine ⟨lN (n1 b p), (t, z, b, rf, fp, le, lp, lb, il), ⟨ht, hz, hb, hr, hf, hc⟩, ?_, ?_⟩
      · obtain ⟨sc, ifp, ib, ie, pw, dh, rl, rb, re, sy, sb, rc, sg, mth, msn, mwn, mba, mdy, mfa, mbg, mhd, mkn, mfo, mfi, mmy, mwa, mmp, mrg, hR, rfl⟩ := hK
        exact (c_L_read_1 hb hp hp2 h1).mono (fun r cs' hp => by obtain ⟨rfl, rfl⟩ := hp; exact ⟨rfl, ⟨_, _, _, _, _, _, _, _, _, _, _, _, _, _, _, _, _, _, _, _, _, _, _, _, _, _, _, _, hR, rfl⟩⟩)
      · intro cs1 hK1
        obtain ⟨sc, ifp, ib, ie, pw, dh, rl, rb, re, sy, sb, rc, sg, mth, msn, mwn, mba, mdy, mfa, mbg, mhd, mkn, mfo, mfi, mmy, mwa, mmp, mrg, hR, rfl⟩ := hK1
        exact (c_M_read_1 hR hb hp hp2 h1).mono (fun r cs' hp => by obtain ⟨rfl, rfl⟩ := hp; exact ⟨rfl, ⟨_, _, _, _, _, _, _, _, _, _, _, _, _, _, _, _, _, _, _, _, _, _, _, _, _, _, _, _, hR, rfl⟩⟩)
    · obtain rfl : y = 2 := Int32.toInt_inj.mp (by rw [h]; decide)
      obtain ⟨p, hp, hp2⟩ := ref_p (N := 2) (by decide) (by decide) (by decide) ((al_2 x).mpr hal) hx
      refine ⟨lN (n2 b p), (t, z, b, rf, fp, le, lp, lb, il), ⟨ht, hz, hb, hr, hf, hc⟩, ?_, ?_⟩
      · obtain ⟨sc, ifp, ib, ie, pw, dh, rl, rb, re, sy, sb, rc, sg, mth, msn, mwn, mba, mdy, mfa, mbg, mhd, mkn, mfo, mfi, mmy, mwa, mmp, mrg, hR, rfl⟩ := hK
        exact (c_L_read_2 hb hp hp2 h1).mono (fun r cs' hp => by obtain ⟨rfl, rfl⟩ := hp; exact ⟨rfl, ⟨_, _, _, _, _, _, _, _, _, _, _, _, _, _, _, _, _, _, _, _, _, _, _, _, _, _, _, _, hR, rfl⟩⟩)
      · intro cs1 hK1
        obtain ⟨sc, ifp, ib, ie, pw, dh, rl, rb, re, sy, sb, rc, sg, mth, msn, mwn, mba, mdy, mfa, mbg, mhd, mkn, mfo, mfi, mmy, mwa, mmp, mrg, hR, rfl⟩ := hK1
        exact (c_M_read_2 hR hb hp hp2 h1).mono (fun r cs' hp => by obtain ⟨rfl, rfl⟩ := hp; exact ⟨rfl, ⟨_, _, _, _, _, _, _, _, _, _, _, _, _, _, _, _, _, _, _, _, _, _, _, _, _, _, _, _, hR, rfl⟩⟩)
    · obtain rfl : y = 4 := Int32.toInt_inj.mp (by rw [h]; decide)
      obtain ⟨p, hp, hp2⟩ := ref_p (N := 4) (by decide) (by decide) (by decide) ((al_4 x).mpr hal) hx
      refine ⟨lN (n4 b p), (t, z, b, rf, fp, le, lp, lb, il), ⟨ht, hz, hb, hr, hf, hc⟩, ?_, ?_⟩
      · obtain ⟨sc, ifp, ib, ie, pw, dh, rl, rb, re, sy, sb, rc, sg, mth, msn, mwn, mba, mdy, mfa, mbg, mhd, mkn, mfo, mfi, mmy, mwa, mmp, mrg, hR, rfl⟩ := hK
        exact (c_L_read_4 hb hp hp2 h1).mono (fun r cs' hp => by obtain ⟨rfl, rfl⟩ := hp; exact ⟨rfl, ⟨_, _, _, _, _, _, _, _, _, _, _, _, _, _, _, _, _, _, _, _, _, _, _, _, _, _, _, _, hR, rfl⟩⟩)
      · intro cs1 hK1
        obtain ⟨sc, ifp, ib, ie, pw, dh, rl, rb, re, sy, sb, rc, sg, mth, msn, mwn, mba, mdy, mfa, mbg, mhd, mkn, mfo, mfi, mmy, mwa, mmp, mrg, hR, rfl⟩ := hK1
        exact (c_M_read_4 hR hb hp hp2 h1).mono (fun r cs' hp => by obtain ⟨rfl, rfl⟩ := hp; exact ⟨rfl, ⟨_, _, _, _, _, _, _, _, _, _, _, _, _, _, _, _, _, _, _, _, _, _, _, _, _, _, _, _, hR, rfl⟩⟩)
  · refine ⟨(f_P_refusal rf x y 4).toInt64, (t, z, b, rf, fp, le, lp, lb, il), ⟨ht, hz, hb, hr, hf, hc⟩, ?_, ?_⟩
    · obtain ⟨sc, ifp, ib, ie, pw, dh, rl, rb, re, sy, sb, rc, sg, mth, msn, mwn, mba, mdy, mfa, mbg, mhd, mkn, mfo, mfi, mmy, mwa, mmp, mrg, hR, rfl⟩ := hK
      exact (c_L_read_A h1).mono (fun r cs' hp => by obtain ⟨rfl, rfl⟩ := hp; exact ⟨rfl, ⟨_, _, _, _, _, _, _, _, _, _, _, _, _, _, _, _, _, _, _, _, _, _, _, _, _, _, _, _, hR, rfl⟩⟩)
    · intro cs1 hK1
      obtain ⟨sc, ifp, ib, ie, pw, dh, rl, rb, re, sy, sb, rc, sg, mth, msn, mwn, mba, mdy, mfa, mbg, mhd, mkn, mfo, mfi, mmy, mwa, mmp, mrg, hR, rfl⟩ := hK1
      exact (c_M_read_A hR h1).mono (fun r cs' hp => by obtain ⟨rfl, rfl⟩ := hp; exact ⟨rfl, ⟨_, _, _, _, _, _, _, _, _, _, _, _, _, _, _, _, _, _, _, _, _, _, _, _, _, _, _, _, hR, rfl⟩⟩)
set_option maxRecDepth 100000 in
set_option maxHeartbeats 4000000 in
theorem s_fetch {x : Int32} : StepJ m_L_fetch m_M_fetch [.int x] := by
  intro f X cs hI hK
  obtain ⟨t, z, b, rf, fp, le, lp, lb, il⟩ := X
  obtain ⟨ht, hz, hb, hr, hf, hc⟩ := hI
  simp only at ht hz hb hr hc
  by_cases h1 : f_P_refusal rf x 4 1 = 0
  · obtain ⟨hy, hal, hx⟩ := ref_0 h1
    obtain ⟨p, hp, hp2⟩ := ref_p (N := 4) (by decide) (by decide) (by decide) ((al_4 x).mpr hal) hx
    refine ⟨lN (n4 b p), (t, z, b, rf, fp, le, lp, lb, il), ⟨ht, hz, hb, hr, hf, hc⟩, ?_, ?_⟩
    · obtain ⟨sc, ifp, ib, ie, pw, dh, rl, rb, re, sy, sb, rc, sg, mth, msn, mwn, mba, mdy, mfa, mbg, mhd, mkn, mfo, mfi, mmy, mwa, mmp, mrg, hR, rfl⟩ := hK
      exact (c_L_fetch_4 hb hp hp2 h1).mono (fun r cs' hp => by obtain ⟨rfl, rfl⟩ := hp; exact ⟨rfl, ⟨_, _, _, _, _, _, _, _, _, _, _, _, _, _, _, _, _, _, _, _, _, _, _, _, _, _, _, _, hR, rfl⟩⟩)
    · intro cs1 hK1
      obtain ⟨sc, ifp, ib, ie, pw, dh, rl, rb, re, sy, sb, rc, sg, mth, msn, mwn, mba, mdy, mfa, mbg, mhd, mkn, mfo, mfi, mmy, mwa, mmp, mrg, hR, rfl⟩ := hK1
      exact (c_M_fetch_4 hR hb hp hp2 h1).mono (fun r cs' hp => by obtain ⟨rfl, rfl⟩ := hp; exact ⟨rfl, ⟨_, _, _, _, _, _, _, _, _, _, _, _, _, _, _, _, _, _, _, _, _, _, _, _, _, _, _, _, hR, rfl⟩⟩)
  · refine ⟨(f_P_refusal rf x 4 1).toInt64, (t, z, b, rf, fp, le, lp, lb, il), ⟨ht, hz, hb, hr, hf, hc⟩, ?_, ?_⟩
    · obtain ⟨sc, ifp, ib, ie, pw, dh, rl, rb, re, sy, sb, rc, sg, mth, msn, mwn, mba, mdy, mfa, mbg, mhd, mkn, mfo, mfi, mmy, mwa, mmp, mrg, hR, rfl⟩ := hK
      exact (c_L_fetch_A h1).mono (fun r cs' hp => by obtain ⟨rfl, rfl⟩ := hp; exact ⟨rfl, ⟨_, _, _, _, _, _, _, _, _, _, _, _, _, _, _, _, _, _, _, _, _, _, _, _, _, _, _, _, hR, rfl⟩⟩)
    · intro cs1 hK1
      obtain ⟨sc, ifp, ib, ie, pw, dh, rl, rb, re, sy, sb, rc, sg, mth, msn, mwn, mba, mdy, mfa, mbg, mhd, mkn, mfo, mfi, mmy, mwa, mmp, mrg, hR, rfl⟩ := hK1
      exact (c_M_fetch_A hR h1).mono (fun r cs' hp => by obtain ⟨rfl, rfl⟩ := hp; exact ⟨rfl, ⟨_, _, _, _, _, _, _, _, _, _, _, _, _, _, _, _, _, _, _, _, _, _, _, _, _, _, _, _, hR, rfl⟩⟩)
set_option maxRecDepth 100000 in
set_option maxHeartbeats 4000000 in
theorem s_write {x y v : Int32} : StepI m_L_write m_M_write [.int x, .int y, .int v] := by
  intro f X cs hI hK
  obtain ⟨t, z, b, rf, fp, le, lp, lb, il⟩ := X
  obtain ⟨ht, hz, hb, hr, hf, hc⟩ := hI
  simp only at ht hz hb hr hc
  by_cases h1 : f_P_refusal rf x y 2 = 0
  · obtain ⟨hy, hal, hx⟩ := ref_0 h1
    rcases hy with h | h | h
    · obtain rfl : y = 1 := Int32.toInt_inj.mp (by rw [h]; decide)
      obtain ⟨p, hp, hp2⟩ := ref_p (N := 1) (by decide) (by decide) (by decide) ((al_1 x).mpr hal) hx
      refine ⟨0, (t, z, u1 b p v, rf, fp, le, lp, lb, il), ⟨ht, hz, u1_lt hb p v, hr, hf, hc⟩, ?_, ?_⟩
      · obtain ⟨sc, ifp, ib, ie, pw, dh, rl, rb, re, sy, sb, rc, sg, mth, msn, mwn, mba, mdy, mfa, mbg, mhd, mkn, mfo, mfi, mmy, mwa, mmp, mrg, hR, rfl⟩ := hK
        exact (c_L_write_1 hp hp2 h1).mono (fun r cs' hp => by obtain ⟨rfl, rfl⟩ := hp; exact ⟨rfl, ⟨_, _, _, _, _, _, _, _, _, _, _, _, _, _, _, _, _, _, _, _, _, _, _, _, _, _, _, _, hR, rfl⟩⟩)
      · intro cs1 hK1
        obtain ⟨sc, ifp, ib, ie, pw, dh, rl, rb, re, sy, sb, rc, sg, mth, msn, mwn, mba, mdy, mfa, mbg, mhd, mkn, mfo, mfi, mmy, mwa, mmp, mrg, hR, rfl⟩ := hK1
        exact (c_M_write_1 hR hp hp2 h1).mono (fun r cs' hp => by obtain ⟨rfl, rfl⟩ := hp; exact ⟨rfl, ⟨_, _, _, _, _, _, _, _, _, _, _, _, _, _, _, _, _, _, _, _, _, _, _, _, _, _, _, _, hR, rfl⟩⟩)
    · obtain rfl : y = 2 := Int32.toInt_inj.mp (by rw [h]; decide)
      obtain ⟨p, hp, hp2⟩ := ref_p (N := 2) (by decide) (by decide) (by decide) ((al_2 x).mpr hal) hx
      refine ⟨0, (t, z, u2 b p v, rf, fp, le, lp, lb, il), ⟨ht, hz, u2_lt hb p v, hr, hf, hc⟩, ?_, ?_⟩
      · obtain ⟨sc, ifp, ib, ie, pw, dh, rl, rb, re, sy, sb, rc, sg, mth, msn, mwn, mba, mdy, mfa, mbg, mhd, mkn, mfo, mfi, mmy, mwa, mmp, mrg, hR, rfl⟩ := hK
        exact (c_L_write_2 hp hp2 h1).mono (fun r cs' hp => by obtain ⟨rfl, rfl⟩ := hp; exact ⟨rfl, ⟨_, _, _, _, _, _, _, _, _, _, _, _, _, _, _, _, _, _, _, _, _, _, _, _, _, _, _, _, hR, rfl⟩⟩)
      · intro cs1 hK1
        obtain ⟨sc, ifp, ib, ie, pw, dh, rl, rb, re, sy, sb, rc, sg, mth, msn, mwn, mba, mdy, mfa, mbg, mhd, mkn, mfo, mfi, mmy, mwa, mmp, mrg, hR, rfl⟩ := hK1
        exact (c_M_write_2 hR hp hp2 h1).mono (fun r cs' hp => by obtain ⟨rfl, rfl⟩ := hp; exact ⟨rfl, ⟨_, _, _, _, _, _, _, _, _, _, _, _, _, _, _, _, _, _, _, _, _, _, _, _, _, _, _, _, hR, rfl⟩⟩)
    · obtain rfl : y = 4 := Int32.toInt_inj.mp (by rw [h]; decide)
      obtain ⟨p, hp, hp2⟩ := ref_p (N := 4) (by decide) (by decide) (by decide) ((al_4 x).mpr hal) hx
      refine ⟨0, (t, z, u4 b p v, rf, fp, le, lp, lb, il), ⟨ht, hz, u4_lt hb p v, hr, hf, hc⟩, ?_, ?_⟩
      · obtain ⟨sc, ifp, ib, ie, pw, dh, rl, rb, re, sy, sb, rc, sg, mth, msn, mwn, mba, mdy, mfa, mbg, mhd, mkn, mfo, mfi, mmy, mwa, mmp, mrg, hR, rfl⟩ := hK
        exact (c_L_write_4 hp hp2 h1).mono (fun r cs' hp => by obtain ⟨rfl, rfl⟩ := hp; exact ⟨rfl, ⟨_, _, _, _, _, _, _, _, _, _, _, _, _, _, _, _, _, _, _, _, _, _, _, _, _, _, _, _, hR, rfl⟩⟩)
      · intro cs1 hK1
        obtain ⟨sc, ifp, ib, ie, pw, dh, rl, rb, re, sy, sb, rc, sg, mth, msn, mwn, mba, mdy, mfa, mbg, mhd, mkn, mfo, mfi, mmy, mwa, mmp, mrg, hR, rfl⟩ := hK1
        exact (c_M_write_4 hR hp hp2 h1).mono (fun r cs' hp => by obtain ⟨rfl, rfl⟩ := hp; exact ⟨rfl, ⟨_, _, _, _, _, _, _, _, _, _, _, _, _, _, _, _, _, _, _, _, _, _, _, _, _, _, _, _, hR, rfl⟩⟩)
  · refine ⟨f_P_refusal rf x y 2, (t, z, b, rf, fp, le, lp, lb, il), ⟨ht, hz, hb, hr, hf, hc⟩, ?_, ?_⟩
    · obtain ⟨sc, ifp, ib, ie, pw, dh, rl, rb, re, sy, sb, rc, sg, mth, msn, mwn, mba, mdy, mfa, mbg, mhd, mkn, mfo, mfi, mmy, mwa, mmp, mrg, hR, rfl⟩ := hK
      exact (c_L_write_A h1).mono (fun r cs' hp => by obtain ⟨rfl, rfl⟩ := hp; exact ⟨rfl, ⟨_, _, _, _, _, _, _, _, _, _, _, _, _, _, _, _, _, _, _, _, _, _, _, _, _, _, _, _, hR, rfl⟩⟩)
    · intro cs1 hK1
      obtain ⟨sc, ifp, ib, ie, pw, dh, rl, rb, re, sy, sb, rc, sg, mth, msn, mwn, mba, mdy, mfa, mbg, mhd, mkn, mfo, mfi, mmy, mwa, mmp, mrg, hR, rfl⟩ := hK1
      exact (c_M_write_A hR h1).mono (fun r cs' hp => by obtain ⟨rfl, rfl⟩ := hp; exact ⟨rfl, ⟨_, _, _, _, _, _, _, _, _, _, _, _, _, _, _, _, _, _, _, _, _, _, _, _, _, _, _, _, hR, rfl⟩⟩)
