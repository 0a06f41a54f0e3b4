
theorem anyM_fr {f : Nat → Int32} : ∀ (k a : Nat), anyM f a k = false → ∀ j, a ≤ j → j < a + k → f j = -1
  | 0, a, _, j, h1, h2 => absurd h2 (by omega)
  | k + 1, a, h, j, h1, h2 => by
    rw [anyM] at h
    by_cases c : f a = -1
    · rw [if_pos c] at h
      by_cases e : j = a
      · rw [e]; exact c
      · exact anyM_fr k (a + 1) h j (by omega) (by omega)
    · rw [if_neg c] at h; exact absurd h (by decide)
theorem Rm.fil6 {rf mp rg : Nat → Int32} {p k : Nat} (h : Rm rf mp rg) : Rm (fillI rf p k 6) (fillI mp p k 1) (fillI rg p k 6) := by
  intro j hj
  unfold fillI
  by_cases hp : p ≤ j ∧ j < p + k
  · rw [if_pos hp, if_pos hp, if_pos hp]; exact Or.inr ⟨by decide, rfl, rfl⟩
  · rw [if_neg hp, if_neg hp, if_neg hp]; exact h j hj

set_option maxRecDepth 100000 in
set_option maxHeartbeats 4000000 in
theorem s_stack {x : Int32} : StepI m_L_stack m_M_stack [.int x] := by
  intro f X cs hI hK
  obtain ⟨t, z, b, rf, fp, le, lp, lb, il⟩ := X
  obtain ⟨ht, hz, hb, hr, hf, hc⟩ := hI
  simp only at ht hz hb hr hc
  by_cases h1 : 1 ≤ x.toInt ∧ x.toInt ≤ 16
  · obtain ⟨q, hx, hq1, hq2⟩ := nI_ofr (x := x) (lo := 1) (hi := 16) h1.1 h1.2 (by decide)
    have hgm : ((decide (cntM rf 0 64 + q ≤ f) && !anyM rf (64 - q) q) = true ∧ 256 * (64 - q) ≤ sPt t z) ↔ (anyM rf (64 - q) (64 - (64 - q)) = false ∧ q ≤ f - cntM rf 0 64 ∧ 256 * (64 - q) ≤ sPt t z) := by
      rw [show 64 - (64 - q) = q by omega, Bool.and_eq_true, decide_eq_true_iff, Bool.not_eq_true']
      constructor
      · intro w; exact ⟨w.1.2, by have := w.1.1; omega, w.2⟩
      · intro w; exact ⟨⟨by have := w.2.1; omega, w.1⟩, w.2.2⟩
    by_cases hg : (anyM rf (64 - q) (64 - (64 - q)) = false ∧ q ≤ f - cntM rf 0 64 ∧ 256 * (64 - q) ≤ sPt t z)
    · have hfree : ∀ j, 64 - q ≤ j → j < 64 → rf j = -1 := fun j h2 h3 => anyM_fr _ _ hg.1 j h2 (by omega)
      have hcs := cnt_set rf (p := 64 - q) (k := q) (v := 6) (by omega) (by decide) (fun j h2 h3 => hfree j h2 (by omega))
      refine ⟨nI (sPt t z), (t, 0, (stB t (16384 - sAB t z) z 0 (sPt t z + 4) true (u4 (fillN b (16384 - 256 * q) (256 * q) 0) (sPt t z) (nI (sAC t z)))), fillI rf (64 - q) q 6, fp, le, lp, lb, il), ⟨ht, Nat.zero_le _, stB_lt ht _ _ _ _ _ _ (u4_lt (fill_lt hb _ _) _ _), fun j hj => ?_, hf, ?_⟩, ?_, ?_⟩
      · show fillI rf (64 - q) q 6 j = -1 ∨ ∃ r, r < 8 ∧ fillI rf (64 - q) q 6 j = nI r
        unfold fillI
        split
        · exact Or.inr ⟨6, by decide, rfl⟩
        · exact hr j hj
      · show cntM (fillI rf (64 - q) q 6) 0 64 ≤ f
        have := hg.2.1
        omega
      · obtain ⟨sc, ifp, ib, ie, pw, dh, rl, rb, re, sy, sb, rc, sg, mth, msn, mwn, mba, mdy, mfa, mbg, mhd, mkn, mfo, mfi, mmy, mwa, mmp, mrg, hR, rfl⟩ := hK
        refine (c_L_stack_C ht hz hf.2 hc ⟨hq1, hq2⟩ hx hfree hg).mono (fun r cs' hp => ?_)
        obtain ⟨rfl, rfl⟩ := hp
        rw [show 64 - (64 - q) = q by omega, show 256 * (64 - q) = 16384 - 256 * q by omega, nI_add, ← hcs]
        exact ⟨rfl, ⟨_, _, _, _, _, _, _, _, _, _, _, _, _, _, _, _, _, _, _, _, _, _, _, _, _, _, _, _, hR, rfl⟩⟩
      · intro cs1 hK1
        obtain ⟨sc, ifp, ib, ie, pw, dh, rl, rb, re, sy, sb, rc, sg, mth, msn, mwn, mba, mdy, mfa, mbg, mhd, mkn, mfo, mfi, mmy, mwa, mmp, mrg, hR, rfl⟩ := hK1
        refine (c_M_stack_B hR ht hz hf.2 hc ⟨hq1, hq2⟩ hx).mono (fun r cs' hp => ?_)
        rw [if_pos (hgm.mpr hg)] at hp
        obtain ⟨rfl, rfl⟩ := hp
        exact ⟨rfl, ⟨_, _, _, _, _, _, _, _, _, _, _, _, _, _, _, _, _, _, _, _, _, _, _, _, _, _, _, _, hR.fil6, rfl⟩⟩
    · refine ⟨-3, (t, z, b, rf, fp, le, lp, lb, il), ⟨ht, hz, hb, hr, hf, hc⟩, ?_, ?_⟩
      · obtain ⟨sc, ifp, ib, ie, pw, dh, rl, rb, re, sy, sb, rc, sg, mth, msn, mwn, mba, mdy, mfa, mbg, mhd, mkn, mfo, mfi, mmy, mwa, mmp, mrg, hR, rfl⟩ := hK
        exact (c_L_stack_B ht hz hf.2 hc ⟨hq1, hq2⟩ hx hg).mono (fun r cs' hp => by obtain ⟨rfl, rfl⟩ := hp; exact ⟨rfl, ⟨_, _, _, _, _, _, _, _, _, _, _, _, _, _, _, _, _, _, _, _, _, _, _, _, _, _, _, _, hR, rfl⟩⟩)
      · intro cs1 hK1
        obtain ⟨sc, ifp, ib, ie, pw, dh, rl, rb, re, sy, sb, rc, sg, mth, msn, mwn, mba, mdy, mfa, mbg, mhd, mkn, mfo, mfi, mmy, mwa, mmp, mrg, hR, rfl⟩ := hK1
        refine (c_M_stack_B hR ht hz hf.2 hc ⟨hq1, hq2⟩ hx).mono (fun r cs' hp => ?_)
        rw [if_neg (fun w => hg (hgm.mp w))] at hp
        obtain ⟨rfl, rfl⟩ := hp
        exact ⟨rfl, ⟨_, _, _, _, _, _, _, _, _, _, _, _, _, _, _, _, _, _, _, _, _, _, _, _, _, _, _, _, hR, rfl⟩⟩
  · refine ⟨-2, (t, z, b, rf, fp, le, lp, lb, il), ⟨ht, hz, hb, hr, hf, hc⟩, ?_, ?_⟩
    · obtain ⟨sc, ifp, ib, ie, pw, dh, rl, rb, re, sy, sb, rc, sg, mth, msn, mwn, mba, mdy, mfa, mbg, mhd, mkn, mfo, mfi, mmy, mwa, mmp, mrg, hR, rfl⟩ := hK
      exact (c_L_stack_A h1).mono (fun r cs' hp => by obtain ⟨rfl, rfl⟩ := hp; exact ⟨rfl, ⟨_, _, _, _, _, _, _, _, _, _, _, _, _, _, _, _, _, _, _, _, _, _, _, _, _, _, _, _, hR, rfl⟩⟩)
    · intro cs1 hK1
      obtain ⟨sc, ifp, ib, ie, pw, dh, rl, rb, re, sy, sb, rc, sg, mth, msn, mwn, mba, mdy, mfa, mbg, mhd, mkn, mfo, mfi, mmy, mwa, mmp, mrg, hR, rfl⟩ := hK1
      exact (c_M_stack_A h1).mono (fun r cs' hp => by obtain ⟨rfl, rfl⟩ := hp; exact ⟨rfl, ⟨_, _, _, _, _, _, _, _, _, _, _, _, _, _, _, _, _, _, _, _, _, _, _, _, _, _, _, _, hR, rfl⟩⟩)
