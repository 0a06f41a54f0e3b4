set_option maxRecDepth 100000 in
set_option maxHeartbeats 4000000 in
theorem s_load {x : Int32} : StepI m_L_load m_M_load [.int x] := by
  intro f X cs hI hK
  obtain ⟨t, z, b, rf, fp, le, lp, lb, il⟩ := X
  obtain ⟨ht, hz, hb, hr, hf, hc⟩ := hI
  simp only at ht hz hb hr hc
  by_cases h1 : (0 ≤ x.toInt ∧ x.toInt ≤ 16128 ∧ x.toInt.tmod 256 = 0)
  · obtain ⟨B, hx, -, hB⟩ := nI_ofr (x := x) (lo := 0) (hi := 16128) (by omega) (by omega) (by decide)
    have hB2 : B % 256 = 0 := by
      have h2 := h1.2.2
      rw [nI_ret (lo := 0) (hi := 0) hx (by omega), Int.tmod_eq_emod_of_nonneg (by omega)] at h2
      omega
    have hI := ldF_inv (z := z) (B := B) ht (by omega) (f := f) (b := b) (rf := rf) ⟨hb, hr, hc⟩
    refine ⟨(if (ldF t z B rf (f - cntM rf 0 64) b).1.1 = 0 then (ldF t z B rf (f - cntM rf 0 64) b).2.2.2.2.2.2 else -10 - (ldF t z B rf (f - cntM rf 0 64) b).1.1), (t, z, (ldF t z B rf (f - cntM rf 0 64) b).2.1, (ldF t z B rf (f - cntM rf 0 64) b).2.2.1, (ldF t z B rf (f - cntM rf 0 64) b).1.2, (if (ldF t z B rf (f - cntM rf 0 64) b).1.1 = 0 then (ldF t z B rf (f - cntM rf 0 64) b).2.2.2.1 else le), (if (ldF t z B rf (f - cntM rf 0 64) b).1.1 = 0 then (ldF t z B rf (f - cntM rf 0 64) b).2.2.2.2.1 else lp), (if (ldF t z B rf (f - cntM rf 0 64) b).1.1 = 0 then (ldF t z B rf (f - cntM rf 0 64) b).2.2.2.2.2.1 else lb), (if (ldF t z B rf (f - cntM rf 0 64) b).1.1 = 0 then il + 1 else il)), ⟨ht, hz, hI.1, hI.2.1, hf, hI.2.2⟩, ?_, ?_⟩
    · obtain ⟨sc, ifp, ib, ie, pw, dh, rl, rb, re, sy, sb, rc, sg, mth, msn, mwn, mba, mdy, mfa, mbg, mhd, mkn, mfo, mfi, mmy, mwa, mmp, mrg, hR, rfl⟩ := hK
      refine (c_L_load_B ht hz hb hB hB2 hf.2 hc hx).mono (fun r cs' hp => ?_)
      obtain ⟨sc', ib', ie', pw', dh', rc', ifp', rl', rb', re', sy', sb', sg', rfl, rfl⟩ := hp
      exact ⟨rfl, ⟨_, _, _, _, _, _, _, _, _, _, _, _, _, _, _, _, _, _, _, _, _, _, _, _, _, _, _, _, hR, rfl⟩⟩
    · intro cs1 hK1
      obtain ⟨sc, ifp, ib, ie, pw, dh, rl, rb, re, sy, sb, rc, sg, mth, msn, mwn, mba, mdy, mfa, mbg, mhd, mkn, mfo, mfi, mmy, mwa, mmp, mrg, hR, rfl⟩ := hK1
      refine (c_M_load_B hR ht hz hb hB hB2 hf.2 hc hx).mono (fun r cs' hp => ?_)
      obtain ⟨sn', wn', ba', dy', fa', bg', hd', kn', fo', fi', my', wa', mp', rg', hR', rfl, rfl⟩ := hp
      exact ⟨rfl, ⟨_, _, _, _, _, _, _, _, _, _, _, _, _, _, _, _, _, _, _, _, _, _, _, _, _, _, _, _, hR', rfl⟩⟩
  · refine ⟨-2, (t, z, b, rf, fp, le, lp, lb, il), ⟨ht, hz, hb, hr, hf, hc⟩, ?_, ?_⟩
    · obtain ⟨sc, ifp, ib, ie, pw, dh, rl, rb, re, sy, sb, rc, sg, mth, msn, mwn, mba, mdy, mfa, mbg, mhd, mkn, mfo, mfi, mmy, mwa, mmp, mrg, hR, rfl⟩ := hK
      exact (c_L_load_A h1).mono (fun r cs' hp => by obtain ⟨rfl, rfl⟩ := hp; exact ⟨rfl, ⟨_, _, _, _, _, _, _, _, _, _, _, _, _, _, _, _, _, _, _, _, _, _, _, _, _, _, _, _, hR, rfl⟩⟩)
    · intro cs1 hK1
      obtain ⟨sc, ifp, ib, ie, pw, dh, rl, rb, re, sy, sb, rc, sg, mth, msn, mwn, mba, mdy, mfa, mbg, mhd, mkn, mfo, mfi, mmy, mwa, mmp, mrg, hR, rfl⟩ := hK1
      exact (c_M_load_A h1).mono (fun r cs' hp => by obtain ⟨rfl, rfl⟩ := hp; exact ⟨rfl, ⟨_, _, _, _, _, _, _, _, _, _, _, _, _, _, _, _, _, _, _, _, _, _, _, _, _, _, _, _, hR, rfl⟩⟩)
