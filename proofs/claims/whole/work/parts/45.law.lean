theorem cX.rc {S : mc_S} {kb : Nat} {X : pX} (h : cX S kb X) : rcv S (some kb) 0 = some kb := by
  obtain ⟨no, nr, ro, rr, sa, rb, hM, -⟩ := h
  exact rcv_at hM.1
theorem rX.rc {S : mc_S} {mb : Nat} {X : pX} (h : rX S mb X) : rcv S (some mb) 4 = some mb := by
  obtain ⟨sg, D0, D1, D2, b0, b1, b2, Dw, bw, hM, -⟩ := h
  exact hM.rc
theorem scI_at {L : Nat} {xs : Nat → Int32} {j : Nat} (hL : L ≤ 2560) (hj : j < L) : scI L xs (nI j) = some (xs j) := by
  unfold scI
  rw [nI_clamp (by omega), if_pos ⟨nI_pos (by omega), hj⟩]
theorem neg5 : ∀ L, L < 5 → (Int32.ofNat L) - 5 < 0 := by decide +kernel
theorem law_on {L j : Nat} (hL : L ≤ 2560) (hj : j ≤ 2600) (h : ¬ (Int32.ofNat L) - 5 < nI j) : j + 5 ≤ L := by
  by_cases h5 : L < 5
  · exact absurd (Int32.lt_of_lt_of_le (neg5 L h5) (show nI 0 ≤ nI j from (nI_lei (by omega) (by omega)).mpr (by omega))) h
  · have e : (Int32.ofNat L) - 5 = nI (L - 5) := by
      have h1 : Int32.ofNat L = nI (L - 5) + 5 := by
        rw [show (5 : Int32) = nI 5 from rfl, nI_ad]
        show nI L = _
        congr 1
        omega
      rw [h1, Int32.add_sub_cancel]
    rw [e] at h
    have : ¬ (L - 5 < j) := fun q => h ((nI_lti (by omega) (by omega)).mpr q)
    omega
theorem law_g {L : Nat} {xs : Nat → Int32} (hL : L ≤ 2560) {kb : Nat} : ∀ (n i : Nat) (S : mc_S) (X : pX), i + n = 520 → 5 * i ≤ L → cX S kb X → rX S (kb + 29) X → pWX X → ∃ S', g_L_law L xs n (some kb) (some (kb + 29)) (nI (5 * i)) S = some (1, S') := by
  intro n
  induction n with
  | zero => intro i S X hi hiL; omega
  | succ n ih =>
    intro i S X hi hiL hc hr hw
    show ∃ S', q_L_law_0 L xs (g_L_law L xs n) (some kb) (some (kb + 29)) (nI (5 * i)) S = some (1, S')
    unfold q_L_law_0
    by_cases hend : (Int32.ofNat L) - 5 < nI (5 * i)
    · rw [if_pos hend]; exact ⟨S, rfl⟩
    rw [if_neg hend]
    have h5 := law_on hL (by omega) hend
    have x0 := scI_at (xs := xs) hL (show 5 * i < L from by omega)
    have x1 : scI L xs (nI (5 * i) + 1) = some (xs (5 * i + 1)) := by
      rw [show (1 : Int32) = nI 1 from rfl, nI_ad]; exact scI_at hL (by omega)
    have x2 : scI L xs (nI (5 * i) + 2) = some (xs (5 * i + 2)) := by
      rw [show (2 : Int32) = nI 2 from rfl, nI_ad]; exact scI_at hL (by omega)
    have x3 : scI L xs (nI (5 * i) + 3) = some (xs (5 * i + 3)) := by
      rw [show (3 : Int32) = nI 3 from rfl, nI_ad]; exact scI_at hL (by omega)
    have x4 : scI L xs (nI (5 * i) + 4) = some (xs (5 * i + 4)) := by
      rw [show (4 : Int32) = nI 4 from rfl, nI_ad]; exact scI_at hL (by omega)
    have nx : ∀ (S2 : mc_S) (X2 : pX), cX S2 kb X2 → rX S2 (kb + 29) X2 → pWX X2 → ∃ S', g_L_law L xs n (some kb) (some (kb + 29)) (nI (5 * i) + 5) S2 = some (1, S') := by
      intro S2 X2 h1 h2 h3
      rw [show (5 : Int32) = nI 5 from rfl, nI_ad]
      exact ih (i + 1) S2 X2 (by omega) (by omega) h1 h2 h3
    have kc := hc.rc
    have rc := hr.rc
    rw [x0, obind]
    generalize xs (5 * i) &&& 31 = op
    generalize xs (5 * i + 1) = y1 at x1
    generalize xs (5 * i + 2) = y2 at x2
    generalize xs (5 * i + 3) = y3 at x3
    generalize xs (5 * i + 4) = y4 at x4
    by_cases h0 : op = 0
    · rw [if_pos h0, x1, obind]
      by_cases hz : y1 = 0
      · rw [if_pos hz]
        obtain ⟨S1, e1, c1, k1⟩ := zk_make hc 0
        have r1 := kfr.r hr k1
        obtain ⟨S2, e2, c2, k2⟩ := zm_make r1 hw.1 0
        have m1 := r1.rc
        simp only [kc, obind, e1, x1]
        rw [if_pos hz]
        simp only [m1, obind, e2]
        rw [if_pos trivial]
        exact nx S2 _ (mfr.c c1 k2) c2 ⟨pMake_wf hw.1 0, hw.2⟩
      · rw [if_neg hz]
        obtain ⟨S1, e1, c1, k1⟩ := zk_make hc 1
        have r1 := kfr.r hr k1
        obtain ⟨S2, e2, c2, k2⟩ := zm_make r1 hw.1 1
        have m1 := r1.rc
        simp only [kc, obind, e1, x1]
        rw [if_neg hz]
        simp only [m1, obind, e2]
        rw [if_pos trivial]
        exact nx S2 _ (mfr.c c1 k2) c2 ⟨pMake_wf hw.1 1, hw.2⟩
    rw [if_neg h0]
    clear h0
    by_cases h0 : op = 1
    · rw [if_pos h0]
      obtain ⟨S1, e1, c1, k1⟩ := zk_set hc y1 y2 y3 y4
      have r1 := kfr.r hr k1
      obtain ⟨S2, e2, c2, k2⟩ := zm_set r1 hw.1 y1 y2 y3 y4
      have m1 := r1.rc
      simp only [kc, obind, e1, m1, e2, x1, x2, x3, x4]
      rw [if_pos trivial]
      exact nx S2 _ (mfr.c c1 k2) c2 ⟨pSet_wf hw.1 y1 y2 y3 y4, hw.2⟩
    rw [if_neg h0]
    clear h0
    by_cases h0 : op = 2
    · rw [if_pos h0]
      have e1 := zk_get hc y1 y2
      have e2 := zm_get hr hw.1 y1 y2
      simp only [kc, rc, obind, e1, e2, x1, x2]
      rw [if_pos (lc_eq.mpr rfl)]
      exact nx S _ hc hr hw
    rw [if_neg h0]
    clear h0
    by_cases h0 : op = 3
    · rw [if_pos h0]
      obtain ⟨S1, e1, c1, k1⟩ := zk_push hc y1 y2 y3
      have r1 := kfr.r hr k1
      obtain ⟨S2, e2, c2, k2⟩ := zm_push r1 hw.1 y1 y2 y3
      have m1 := r1.rc
      simp only [kc, obind, e1, m1, e2, x1, x2, x3]
      rw [if_pos trivial]
      exact nx S2 _ (mfr.c c1 k2) c2 ⟨pPush_wf hw.1 y1 y2 y3, hw.2⟩
    rw [if_neg h0]
    clear h0
    by_cases h0 : op = 4
    · rw [if_pos h0]
      obtain ⟨S1, e1, c1, k1⟩ := zk_pop hc y1
      have r1 := kfr.r hr k1
      obtain ⟨S2, e2, c2, k2⟩ := zm_pop r1 hw.1 y1
      have m1 := r1.rc
      simp only [kc, obind, e1, m1, e2, x1]
      rw [if_pos (lc_eq.mpr rfl)]
      exact nx S2 _ (mfr.c c1 k2) c2 ⟨pPop_wf hw.1 y1, hw.2⟩
    rw [if_neg h0]
    clear h0
    by_cases h0 : op = 5
    · rw [if_pos h0]
      obtain ⟨S1, e1, c1, k1⟩ := zk_put hc hw.1 y1 y2 y3 y4
      have r1 := kfr.r hr k1
      obtain ⟨S2, e2, c2, k2⟩ := zm_put r1 hw.1 y1 y2 y3 y4
      have m1 := r1.rc
      simp only [kc, obind, e1, m1, e2, x1, x2, x3, x4]
      rw [if_pos trivial]
      exact nx S2 _ (mfr.c c1 k2) c2 ⟨pPutAt_wf hw.1 y1 y2 y3 y4, hw.2⟩
    rw [if_neg h0]
    clear h0
    by_cases h0 : op = 6
    · rw [if_pos h0]
      have e1 := zk_item hc y1 y2
      have e2 := zm_item hr hw.1 y1 y2
      simp only [kc, rc, obind, e1, e2, x1, x2]
      rw [if_pos (lc_eq.mpr rfl)]
      exact nx S _ hc hr hw
    rw [if_neg h0]
    clear h0
    by_cases h0 : op = 7
    · rw [if_pos h0]
      obtain ⟨S1, e1, c1, k1⟩ := zk_root hc y1 y2 y3
      have r1 := kfr.r hr k1
      obtain ⟨S2, e2, c2, k2⟩ := zm_root r1 hw.1 y1 y2 y3
      have m1 := r1.rc
      simp only [kc, obind, e1, m1, e2, x1, x2, x3]
      rw [if_pos trivial]
      exact nx S2 _ (mfr.c c1 k2) c2 ⟨pRoot_wf hw.1 y1 y2 y3, hw.2⟩
    rw [if_neg h0]
    clear h0
    by_cases h0 : op = 8
    · rw [if_pos h0]
      have e1 := zk_rooted hc y1
      have e2 := zm_rooted hr hw.1 y1
      simp only [kc, rc, obind, e1, e2, x1]
      rw [if_pos (lc_eq.mpr rfl)]
      exact nx S _ hc hr hw
    rw [if_neg h0]
    clear h0
    by_cases h0 : op = 9
    · rw [if_pos h0]
      obtain ⟨S1, e1, c1, k1⟩ := zk_commit hc
      have r1 := kfr.r hr k1
      obtain ⟨S2, e2, c2, k2⟩ := zm_commit r1 hw
      have m1 := r1.rc
      simp only [kc, obind, e1, m1, e2]
      rw [if_pos trivial]
      exact nx S2 _ (mfr.c c1 k2) c2 (pCommit_wf hw)
    rw [if_neg h0]
    clear h0
    by_cases h0 : op = 10
    · rw [if_pos h0]
      obtain ⟨S1, e1, c1, k1⟩ := zk_undo hc
      have r1 := kfr.r hr k1
      obtain ⟨S2, e2, c2, k2⟩ := zm_undo r1 hw
      have m1 := r1.rc
      simp only [kc, obind, e1, m1, e2]
      rw [if_pos trivial]
      exact nx S2 _ (mfr.c c1 k2) c2 (pUndo_wf hw)
    rw [if_neg h0]
    clear h0
    by_cases h0 : op = 11
    · rw [if_pos h0]
      obtain ⟨S1, e1, c1, k1⟩ := zk_sweep hc
      have r1 := kfr.r hr k1
      obtain ⟨S2, e2, c2, k2⟩ := zm_sweep r1 hw
      have m1 := r1.rc
      simp only [kc, obind, e1, m1, e2]
      rw [if_pos trivial]
      exact nx S2 _ (mfr.c c1 k2) c2 (pSweep_wf hw)
    rw [if_neg h0]
    clear h0
    by_cases h0 : op = 12
    · rw [if_pos h0]
      obtain ⟨S1, e1, c1, k1⟩ := zk_sync hc
      have r1 := kfr.r hr k1
      obtain ⟨S2, e2, c2, k2⟩ := zm_sync r1 hw
      have m1 := r1.rc
      simp only [kc, obind, e1, m1, e2]
      rw [if_pos trivial]
      exact nx S2 _ (mfr.c c1 k2) c2 (pSync_wf hw)
    rw [if_neg h0]
    clear h0
    by_cases h0 : op = 13
    · rw [if_pos h0]
      obtain ⟨S1, e1, c1, k1⟩ := zk_crash hc hw y1
      have r1 := kfr.r hr k1
      obtain ⟨S2, e2, c2, k2⟩ := zm_crash r1 hw y1
      have m1 := r1.rc
      simp only [kc, obind, e1, m1, e2, x1]
      rw [if_pos trivial]
      exact nx S2 _ (mfr.c c1 k2) c2 (pCrash_wf hw y1)
    rw [if_neg h0]
    clear h0
    by_cases h0 : op = 14
    · rw [if_pos h0]
      have e1 := zk_kind hc y1
      have e2 := zm_kind hr hw.1 y1
      simp only [kc, rc, obind, e1, e2, x1]
      rw [if_pos trivial]
      exact nx S _ hc hr hw
    rw [if_neg h0]
    clear h0
    by_cases h0 : op = 15
    · rw [if_pos h0]
      have e1 := zk_size hc y1
      have e2 := zm_size hr hw.1 y1
      simp only [kc, rc, obind, e1, e2, x1]
      rw [if_pos trivial]
      exact nx S _ hc hr hw
    rw [if_neg h0]
    clear h0
    by_cases h0 : op = 16
    · rw [if_pos h0]
      have e1 := zk_count hc y1
      have e2 := zm_count hr hw.1 y1
      simp only [kc, rc, obind, e1, e2, x1]
      rw [if_pos trivial]
      exact nx S _ hc hr hw
    rw [if_neg h0]
    clear h0
    exact nx S _ hc hr hw
theorem law_all {L : Nat} (xs : Nat → Int32) (hL : L ≤ 2560) (S0 : mc_S) : ∃ S1, f_L_law L xs S0 = some (1, S1) := by
  obtain ⟨S2, S4, e2, z2, e4, c4, r4⟩ := z_born S0 (kb := S0.2) rfl
  obtain ⟨S', g⟩ := law_g (xs := xs) hL 520 0 S4 pX0 (by omega) (by omega) c4 r4 pX0_wf
  refine ⟨S', ?_⟩
  unfold f_L_law
  rw [rcv_at (nwOS S0 0 [.null, .null, .null, .null, .int 0, .int 0, .int 0]).1, obind, e2, obind, rcv_at (nwOS S2 4 [.null, .null, .null, .null, .int 0, .int 0, .null, .null]).1, obind, z2, e4, obind]
  exact g
