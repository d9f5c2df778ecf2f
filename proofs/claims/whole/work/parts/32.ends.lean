theorem pKept_at (X : pX) {i : Nat} (hi : i ≤ X.2.2.1.length) : pKept (X.1, X.2.1, X.2.2.1.take i, X.2.2.2) = pAt X i := by
  have hl : (X.2.2.1.take i).length = i := by simp; omega
  have := pAt_last (X.1, X.2.1, X.2.2.1.take i, X.2.2.2)
  rw [← this]
  show pAt (X.1, X.2.1, X.2.2.1.take i, X.2.2.2) (X.2.2.1.take i).length = pAt X i
  rw [hl]
  unfold pAt
  show ((X.2.1 :: (X.2.2.1.take i).map (fun q => q.1))[i]?).getD X.2.1 = ((X.2.1 :: X.2.2.1.map (fun q => q.1))[i]?).getD X.2.1
  cases i with
  | zero => rfl
  | succ i =>
    rw [List.getElem?_cons_succ, List.getElem?_cons_succ, List.getElem?_map, List.getElem?_map, List.getElem?_take]
    rw [if_pos (by omega)]
theorem nI_mul (a b : Nat) : nI a * nI b = nI (a * b) := (Int32.ofNat_mul a b).symm
section KE
variable {S : mc_S} {kb : Nat} {no : Nat → Option Nat} {nr : Nat} {ro : Nat → Nat → Option Nat} {rr : Nat → Nat} {sa : Nat} {rb : Nat → Int32} {X : pX}
theorem zk_cb_g {wt : Nat} {lg : Int32} (hM : cM S kb no nr ro rr sa wt lg rb) {P B : pS} (hP : cPS S no nr P) {t' : Nat} {ob' : Nat → Option Nat} {rp' : Nat} (hT : cSt S t' ob' rp') (hB : cPS S ob' rp' B) : ∀ (d k n c : Nat), k + d = 100 → d < n → g_K_changedBytes kb n (some t') (nI c) (nI k) S = some (nI (16 * (c + ((List.range 100).drop k).countP (fun o => @decide (¬ P.1 o = none ∧ ¬ P.1 o = B.1 o) (Classical.propDecidable _))) + 6 * pNmd P B), S) := by
  intro d
  induction d with
  | zero =>
    intro k n c hk hn
    obtain ⟨n, rfl⟩ : ∃ q, n = q + 1 := ⟨n - 1, by omega⟩
    obtain rfl : k = 100 := by omega
    show q_K_changedBytes_0 kb (g_K_changedBytes kb n) (some t') (nI c) (nI 100) S = _
    simp only [q_K_changedBytes_0, hM.rd0, hM.now.rd1, hT.rd1, hP.2.rc, obind, zs_nc hP.2 hB.2]
    rw [if_pos (show (100 : Int32) ≤ nI 100 from by decide), List.drop_eq_nil_of_le (by simp)]
    rw [show (16 : Int32) = nI 16 from rfl, show (6 : Int32) = nI 6 from rfl, nI_mul, nI_mul, nI_ad]
    rfl
  | succ d ih =>
    intro k n c hk hn
    obtain ⟨n, rfl⟩ : ∃ q, n = q + 1 := ⟨n - 1, by omega⟩
    have hk1 : k < 100 := by omega
    have hk2 : k < (List.range 100).length := by simp; omega
    have hd1 : (List.range 100).drop k = k :: (List.range 100).drop (k + 1) := by
      rw [List.drop_eq_getElem_cons hk2]
      simp
    have hcond : ¬ (100 : Int32) ≤ nI k := fun q => by have := (nI_lei (a := 100) (by decide) (by omega)).mp q; omega
    have ho := hP.1 k hk1
    have hob := hB.1 k hk1
    have hn1 := ho.none_iff
    rw [hd1, List.countP_cons]
    have goal0 : g_K_changedBytes kb (n + 1) (some t') (nI c) (nI k) S = if no k = none then (g_K_changedBytes kb n (some t') (nI c) (nI (k + 1)) S) else ((rcv S (no k) 1).bind fun b11 => (f_S_sameAs b11 (ob' k) S).bind fun o12 => if o12.1 = 0 then (g_K_changedBytes kb n (some t') (nI (c + 1)) (nI (k + 1)) o12.2) else (g_K_changedBytes kb n (some t') (nI c) (nI (k + 1)) o12.2)) := by
      show q_K_changedBytes_0 kb (g_K_changedBytes kb n) (some t') (nI c) (nI k) S = _
      simp only [q_K_changedBytes_0, hM.rd0, hM.now.rd0, hT.rd0, obind, hM.now.ld hk1, hT.ld hk1, nI_s]
      rw [if_neg hcond]
    rw [goal0]
    cases hx : P.1 k with
    | none =>
      rw [if_pos (hn1.mpr hx), ih (k + 1) n c (by omega) (by omega), if_neg (by simp)]
      rfl
    | some q =>
      rw [hx] at ho
      obtain ⟨b, eb, hs⟩ := ho
      rw [eb, if_neg (fun e => by cases e)]
      simp only [hs.rc, obind]
      cases hy : B.1 k with
      | none =>
        rw [hy] at hob
        rw [show ob' k = none from hob, zs_sameAs0]
        simp only [obind]
        rw [if_pos trivial, ih (k + 1) n (c + 1) (by omega) (by omega), if_pos (by simp)]
        congr 3
        omega
      | some q' =>
        rw [hy] at hob
        obtain ⟨b', eb', hs'⟩ := hob
        rw [eb', zs_sameAs hs hs']
        simp only [obind]
        by_cases heq : q.1 = q'.1 ∧ q.2 = q'.2
        · rw [if_pos heq, if_neg (by decide), ih (k + 1) n c (by omega) (by omega), if_neg (by
            have : q = q' := Prod.ext heq.1 heq.2
            simp [this])]
          rfl
        · rw [if_neg heq, if_pos rfl, ih (k + 1) n (c + 1) (by omega) (by omega), if_pos (by
            have : ¬ q = q' := fun e => heq (by rw [e]; exact ⟨rfl, rfl⟩)
            simp [this])]
          congr 3
          omega
theorem zk_cb (h : cY S kb X no nr ro rr sa rb) : f_K_changedBytes kb S = some (nI (pByt X.1 (pKept X)), S) := by
  have hM := h.1
  have hj : (sa + X.2.2.1.length) % 9 < 9 := Nat.mod_lt _ (by omega)
  have hB := h.2.2.2.1 X.2.2.1.length (Nat.le_refl _)
  rw [pAt_last] at hB
  have := zk_cb_g hM h.2.2.1 (hM.ring hj) hB 100 0 5000 0 (by omega) (by omega)
  unfold f_K_changedBytes
  simp only [hM.rc, obind, zk_kept hM]
  rw [show (0 : Int32) = nI 0 from rfl, this]
  unfold pByt pDif
  rw [List.drop_zero, Nat.zero_add]
theorem zk_commit (h : cX S kb X) : ∃ S', f_K_commit kb S = some ((pCommit X).1, S') ∧ cX S' kb (pCommit X).2 ∧ kfr S S' kb := by
  obtain ⟨no, nr, ro, rr, sa, rb, hY⟩ := id h
  obtain ⟨S', g1, g2, g3⟩ := zk_keepNow h (b := 8 + pByt X.1 (pKept X))
  refine ⟨S', ?_, g2, g3⟩
  simp only [f_K_commit, hY.1.rc, obind, zk_cb hY]
  rw [show (8 : Int32) = nI 8 from rfl, nI_ad, g1]
  rfl
theorem zk_back (h : cY S kb X no nr ro rr sa rb) : ∃ S', f_T_become (kb + 9) (some (kb + 11 + 2 * ((sa + X.2.2.1.length) % 9))) S = some S' ∧ cY S' kb (pKept X, X.2) (ro ((sa + X.2.2.1.length) % 9)) (rr ((sa + X.2.2.1.length) % 9)) ro rr sa rb ∧ kfr S S' kb := by
  obtain ⟨hM, hN, hP, hR, hB⟩ := h
  have hj : (sa + X.2.2.1.length) % 9 < 9 := Nat.mod_lt _ (by omega)
  have hK := hR X.2.2.1.length (Nat.le_refl _)
  rw [pAt_last] at hK
  obtain ⟨S', e1, e2, e3, e4⟩ := zt_become (t := kb + 9) (t' := kb + 11 + 2 * ((sa + X.2.2.1.length) % 9)) (by omega) hM.now (hM.ring hj) hK
  have hkeep : ∀ h, cOk kb S.2 h → S'.1 h = S.1 h ∧ S'.1 (h + 1) = S.1 (h + 1) ∧ S'.1 (h + 2) = S.1 (h + 2) := by
    intro h hh
    have h1 := hh.1
    exact ⟨e4 _ (by omega) (by omega), e4 _ (by omega) (by omega), e4 _ (by omega) (by omega)⟩
  refine ⟨S', e1, ⟨?_, ?_, hK.frame (fun h hh => hkeep h (hN.2.1 _ (Nat.le_refl _) h hh)), fun i hi => (hR i hi).frame (fun h hh => hkeep h (hN.2.1 i hi h hh)), hB⟩, by omega, fun a h0 h1 => e4 a (by omega) (by omega)⟩
  · obtain ⟨m0, ⟨f1, m1, n1⟩, ⟨f2, m2, n2⟩, ⟨rf, qf, n, hRR⟩, hT, hJ, hs3, hw3, hz0⟩ := hM
    exact ⟨(e4 _ (by omega) (by omega)).trans m0, ⟨f1, (e4 _ (by omega) (by omega)).trans m1, n1⟩, ⟨f2, (e4 _ (by omega) (by omega)).trans m2, n2⟩, ⟨rf, qf, n, hRR.frame (fun a _ _ => e4 a (by omega) (by omega))⟩, e2, fun i hi => (hJ i hi).frame (e4 _ (by omega) (by omega)) (e4 _ (by omega) (by omega)), hs3, hw3, by omega⟩
  · rw [e3]
    exact ⟨hN.2.1 _ (Nat.le_refl _), hN.2.1, hN.2.2.2.1 _ (Nat.le_refl _), hN.2.2.2.1, fun o h ho e => Or.inl e, Or.inl rfl⟩
theorem zk_undo (h : cX S kb X) : ∃ S', f_K_undo kb S = some ((pUndo X).1, S') ∧ cX S' kb (pUndo X).2 ∧ kfr S S' kb := by
  obtain ⟨no, nr, ro, rr, sa, rb, hY⟩ := h
  obtain ⟨S', g1, g2, g3⟩ := zk_back hY
  refine ⟨S', ?_, ⟨_, _, _, _, _, _, g2⟩, g3⟩
  have hM := hY.1
  simp only [f_K_undo, hM.rc, obind, zk_cb hY, hM.rd0, zk_kept hM, hM.now.rc, g1]
  rfl
theorem pGone_le (P : pS) : pGone P ≤ 100 := by
  unfold pGone
  have := List.countP_le_length (p := fun o => @decide (¬ P.1 o = none ∧ ¬ pRch P o) (Classical.propDecidable _)) (l := List.range 100)
  simpa using this
theorem zk_sweep (h : cX S kb X) : ∃ S', f_K_sweep kb S = some ((pSweep X).1, S') ∧ cX S' kb (pSweep X).2 ∧ kfr S S' kb := by
  obtain ⟨no, nr, ro, rr, sa, rb, hY⟩ := h
  obtain ⟨S1, g1, hY1, g3⟩ := zk_back hY
  have hM := hY.1
  obtain ⟨hM1, hN1, hP1, hR1, hB1⟩ := id hY1
  obtain ⟨rf, qf, n, hRc⟩ := hM1.2.2.2.1
  obtain ⟨S2, ob', rf', qf', n', d1, d2, d3, d4, d5, d6, d7⟩ := zr_drop hM1.now hP1 hRc
  have hsub : ∀ h, cPt ob' (rr ((sa + X.2.2.1.length) % 9)) h → cPt (ro ((sa + X.2.2.1.length) % 9)) (rr ((sa + X.2.2.1.length) % 9)) h := by
    intro h hh
    rcases hh with ⟨o, ho, e⟩ | e
    · rcases d5 o ho with q | q
      · rw [q] at e; cases e
      · exact Or.inl ⟨o, ho, by rw [← q]; exact e⟩
    · exact Or.inr e
  have hkeep : ∀ h, cOk kb S1.2 h → S2.1 h = S1.1 h ∧ S2.1 (h + 1) = S1.1 (h + 1) ∧ S2.1 (h + 2) = S1.1 (h + 2) := by
    intro h hh
    have h1 := hh.1
    exact ⟨d7 _ (by omega) (by omega) (by omega) (by omega), d7 _ (by omega) (by omega) (by omega) (by omega), d7 _ (by omega) (by omega) (by omega) (by omega)⟩
  have hob : ∀ o, o < 100 → ∀ h, ob' o = some h → ro ((sa + X.2.2.1.length) % 9) o = some h := fun o ho h e => by
    rcases d5 o ho with q | q
    · rw [q] at e; cases e
    · rw [← q]; exact e
  have hY2 : ∀ P : pS, (∀ o, o < 100 → P.1 o = (pSw (pKept X)).1 o) → P.2 = (pKept X).2 → cY S2 kb (P, X.2) ob' (rr ((sa + X.2.2.1.length) % 9)) ro rr sa rb := by
    intro P hPo hPr
    refine ⟨?_, ?_, d3.congr hPo hPr, fun i hi => (hR1 i hi).frame (fun h hh => hkeep h (hN1.2.1 i hi h hh)), hB1⟩
    · obtain ⟨m0, ⟨f1, m1, n1⟩, ⟨f2, m2, n2⟩, -, hT, hJ, hs3, hw3, hz0⟩ := hM1
      exact ⟨(d7 _ (by omega) (by omega) (by omega) (by omega)).trans m0, ⟨f1, (d7 _ (by omega) (by omega) (by omega) (by omega)).trans m1, n1⟩, ⟨f2, (d7 _ (by omega) (by omega) (by omega) (by omega)).trans m2, n2⟩, ⟨rf', qf', n', d4⟩, d2, fun i hi => (hJ i hi).frame (d7 _ (by omega) (by omega) (by omega) (by omega)) (d7 _ (by omega) (by omega) (by omega) (by omega)), hs3, hw3, by omega⟩
    · rw [d6]
      exact ⟨fun h hh => hN1.1 h (hsub h hh), hN1.2.1, ⟨fun o o' h ho ho' e e' => hN1.2.2.1.1 o o' h ho ho' (hob o ho h e) (hob o' ho' h e'), fun o ho e => hN1.2.2.1.2 o ho (hob o ho _ e)⟩, hN1.2.2.2.1, fun o h ho e => Or.inl (hob o ho h e), Or.inl rfl⟩
  have hfr2 : kfr S S2 kb := ⟨by have := g3.1; omega, fun a h0 h1 => (d7 a (by omega) (by omega) (by omega) (by omega)).trans (g3.2 a h0 h1)⟩
  have hgl := pGone_le (pKept X)
  have pre : f_K_sweep kb S = if nI (pGone (pKept X)) ≤ 0 then (some (nI (pGone (pKept X)), S2)) else ((rcv S2 (some kb) 0).bind fun b10 => (f_K_keepNow b10 8 S2).bind fun S11 => some (nI (pGone (pKept X)), S11)) := by
    simp only [f_K_sweep, hM.rd0, hM.rc, obind, zk_kept hM, hM.now.rc, g1, hM1.rd3, hM1.rd0, rcv_at hRc.1, d1]
  unfold pSweep
  by_cases hg : 0 < pGone (pKept X)
  · rw [if_pos hg]
    have hYs := hY2 (pSw (pKept X)) (fun _ _ => rfl) rfl
    obtain ⟨S3, k1, k2, k3⟩ := zk_keepNow ⟨_, _, _, _, _, _, hYs⟩ (b := 8)
    refine ⟨S3, ?_, k2, hfr2.tr k3⟩
    rw [pre, if_neg (nI_nle hg (by omega))]
    simp only [hYs.1.rc, obind]
    rw [show (8 : Int32) = nI 8 from rfl, k1]
    rfl
  · rw [if_neg hg]
    have hg0 : pGone (pKept X) = 0 := by omega
    have hall : ∀ o, o < 100 → (pKept X).1 o = (pSw (pKept X)).1 o := by
      intro o ho
      show (pKept X).1 o = @ite pO (pRch (pKept X) o) (Classical.propDecidable _) ((pKept X).1 o) none
      by_cases hr : pRch (pKept X) o
      · rw [if_pos hr]
      · rw [if_neg hr]
        have := List.countP_eq_zero.mp hg0 o (List.mem_range.mpr ho)
        simp only [decide_eq_true_eq] at this
        by_cases hx : (pKept X).1 o = none
        · exact hx
        · exact absurd ⟨hx, hr⟩ this
    refine ⟨S2, ?_, ⟨_, _, _, _, _, _, hY2 (pKept X) hall rfl⟩, hfr2⟩
    rw [pre, hg0, if_pos (by decide)]
    rfl
theorem zk_rew (h : cY S kb X no nr ro rr sa rb) {i : Nat} (hi : i ≤ X.2.2.1.length) : cM (va_up S.1 kb (some (kO kb ((sa + i) % 9) 0 X.2.2.2)), S.2) kb no nr ro rr ((sa + i) % 9) 0 X.2.2.2 rb ∧ (∀ a, a ≠ kb → (va_up S.1 kb (some (kO kb ((sa + i) % 9) 0 X.2.2.2)), S.2).1 a = S.1 a) := ⟨h.1.set (Nat.mod_lt _ (by omega)) (by omega), fun a ha => up_ne ha rfl⟩
theorem zk_sync (h : cX S kb X) : ∃ S', f_K_sync kb S = some ((pSync X).1, S') ∧ cX S' kb (pSync X).2 ∧ kfr S S' kb := by
  obtain ⟨no, nr, ro, rr, sa, rb, hY⟩ := h
  obtain ⟨hM, hN, hP, hR, hB⟩ := id hY
  have hw := hM.2.2.2.2.2.2.2.1
  obtain ⟨hM2, hup⟩ := zk_rew hY (Nat.le_refl _)
  have hkeep : ∀ h, cOk kb S.2 h → (va_up S.1 kb (some (kO kb ((sa + X.2.2.1.length) % 9) 0 X.2.2.2)), S.2).1 h = S.1 h ∧ (va_up S.1 kb (some (kO kb ((sa + X.2.2.1.length) % 9) 0 X.2.2.2)), S.2).1 (h + 1) = S.1 (h + 1) ∧ (va_up S.1 kb (some (kO kb ((sa + X.2.2.1.length) % 9) 0 X.2.2.2)), S.2).1 (h + 2) = S.1 (h + 2) := by
    intro h hh
    have h1 := hh.1
    exact ⟨hup _ (by omega), hup _ (by omega), hup _ (by omega)⟩
  have hix : ∀ i, i ≤ 0 → ((sa + X.2.2.1.length) % 9 + i) % 9 = (sa + X.2.2.1.length) % 9 := fun i hi => by omega
  refine ⟨(va_up S.1 kb (some (kO kb ((sa + X.2.2.1.length) % 9) 0 X.2.2.2)), S.2), ?_, ⟨no, nr, ro, rr, (sa + X.2.2.1.length) % 9, rb, hM2, ?_, hP.frame (fun h hh => hkeep h (hN.1 h hh)), fun i hi => ?_, fun i q hq => by cases hq⟩, Nat.le_refl _, fun a h0 h1 => hup a (by omega)⟩
  · simp only [f_K_sync, hM.rd5, hM.rc, obind]
    rw [zk_ri hM (by omega)]
    simp only [obind]
    rw [show wrV S (some kb) 0 4 (.int (nI ((sa + X.2.2.1.length) % 9))) = some (va_up S.1 kb (some (kO kb ((sa + X.2.2.1.length) % 9) X.2.2.1.length X.2.2.2)), S.2) from wr4 (z := S.2) (kO_at hM)]
    simp only [obind]
    rw [show (0 : Int32) = nI 0 from rfl, wr5 up_eq, upup]
    rfl
  · show cN kb S.2 no nr ro rr ((sa + X.2.2.1.length) % 9) 0
    refine ⟨hN.1, fun i hi h hh => ?_, hN.2.2.1, fun i hi => ?_, fun o h ho e => ?_, ?_⟩
    · rw [hix i hi] at hh; exact hN.2.1 _ (Nat.le_refl _) h hh
    · rw [hix i hi]; exact hN.2.2.2.1 _ (Nat.le_refl _)
    · rw [hix 0 (Nat.le_refl _)]
      rcases hN.2.2.2.2.1 o h ho e with p | p
      · exact Or.inl p
      · refine Or.inr (fun i hi hh => ?_)
        rw [hix i hi] at hh
        exact p _ (Nat.le_refl _) hh
    · rw [hix 0 (Nat.le_refl _)]
      rcases hN.2.2.2.2.2 with p | p
      · exact Or.inl p
      · refine Or.inr (fun i hi hh => ?_)
        rw [hix i hi] at hh
        exact p _ (Nat.le_refl _) hh
  · have hi : i ≤ 0 := hi
    obtain rfl : i = 0 := by omega
    rw [hix 0 (Nat.le_refl _)]
    have hK := hR X.2.2.1.length (Nat.le_refl _)
    rw [pAt_last] at hK
    exact hK.frame (fun h hh => hkeep h (hN.2.1 _ (Nat.le_refl _) h hh))
theorem zk_ew_g {wt : Nat} {lg : Int32} (hM : cM S kb no nr ro rr sa wt lg rb) (ws : List (pS × Nat)) (hwt : ws.length = wt) (hB : ∀ i q, ws[i]? = some q → rb ((sa + i + 1) % 9) = nI q.2 ∧ q.2 ≤ 4000) (x1 : Int32) : ∀ (d k n m : Nat), k + d = ws.length → d < n → m < 2 ^ 31 → g_K_entriesWithin kb n x1 (nI m) (nI (k + 1)) S = some (nI (k + pLeft (ws.drop k) m), S) := by
  have hw := hM.2.2.2.2.2.2.2.1
  intro d
  induction d with
  | zero =>
    intro k n m hk hn hm
    obtain ⟨n, rfl⟩ : ∃ q, n = q + 1 := ⟨n - 1, by omega⟩
    show q_K_entriesWithin_0 kb (g_K_entriesWithin kb n) x1 (nI m) (nI (k + 1)) S = _
    simp only [q_K_entriesWithin_0, hM.rd5, obind]
    rw [if_pos ((nI_lti (by omega) (by omega)).mpr (by omega)), List.drop_eq_nil_of_le (by omega)]
    show some (nI wt, S) = some (nI (k + 0), S)
    rw [show k + 0 = wt by omega]
  | succ d ih =>
    intro k n m hk hn hm
    obtain ⟨n, rfl⟩ : ∃ q, n = q + 1 := ⟨n - 1, by omega⟩
    have hk1 : k < ws.length := by omega
    have hd1 : ws.drop k = ws[k] :: ws.drop (k + 1) := List.drop_eq_getElem_cons hk1
    obtain ⟨hb1, hb2⟩ := hB k ws[k] (List.getElem?_eq_getElem hk1)
    show q_K_entriesWithin_0 kb (g_K_entriesWithin kb n) x1 (nI m) (nI (k + 1)) S = _
    simp only [q_K_entriesWithin_0, hM.rd5, hM.rd2, hM.rc, obind]
    rw [if_neg (fun q => by have := (nI_lti (by omega) (by omega)).mp q; omega), zk_ri hM (by omega)]
    simp only [obind]
    rw [hM.ldb (Nat.mod_lt _ (by omega)), show (sa + (k + 1)) % 9 = (sa + k + 1) % 9 from rfl, hb1]
    simp only [obind]
    rw [hd1]
    show _ = some (nI (k + (if ws[k].2 ≤ m then pLeft (ws.drop (k + 1)) (m - ws[k].2) + 1 else 0)), S)
    by_cases hc : ws[k].2 ≤ m
    · rw [if_pos ((nI_lei (by omega) hm).mpr hc), if_pos hc]
      have hsub : nI m - nI ws[k].2 = nI (m - ws[k].2) := (Int32.ofNat_sub m ws[k].2 hc).symm
      rw [hsub, nI_s, ih (k + 1) n (m - ws[k].2) (by omega) (by omega) (by omega)]
      congr 3
      omega
    · rw [if_neg (fun q => hc ((nI_lei (by omega) hm).mp q)), if_neg hc, nI_p]
      rfl
theorem pLeft_le : ∀ (ws : List (pS × Nat)) (n : Nat), pLeft ws n ≤ ws.length
  | [], n => by simp [pLeft]
  | q :: ws, n => by
    unfold pLeft
    split
    · have := pLeft_le ws (n - q.2)
      simp
      omega
    · simp
theorem zk_cr_g (a1 : Int32) {left : Nat} : ∀ (d k n : Nat) (S : mc_S) (X : pX), k + d = X.2.2.1.length → d < n → left ≤ X.2.2.1.length → cY S kb X no nr ro rr sa rb → ∃ S', g_K_crash kb n a1 (nI left) (nI (k + 1)) S = some (nI left, S') ∧ cX S' kb (pAt X left, pAt X left, [], pLost (X.2.2.1.drop k) X.2.2.2) ∧ kfr S S' kb := by
  intro d
  induction d with
  | zero =>
    intro k n S X hk hn hleft hY
    obtain ⟨n, rfl⟩ : ∃ q, n = q + 1 := ⟨n - 1, by omega⟩
    obtain ⟨hM, hN, hP, hR, hB⟩ := id hY
    have hw := hM.2.2.2.2.2.2.2.1
    obtain ⟨hM2, hup⟩ := zk_rew hY hleft
    have hj : (sa + left) % 9 < 9 := Nat.mod_lt _ (by omega)
    have hix : ∀ i, i ≤ 0 → ((sa + left) % 9 + i) % 9 = (sa + left) % 9 := fun i hi => by omega
    have hkeep : ∀ h, cOk kb S.2 h → (va_up S.1 kb (some (kO kb ((sa + left) % 9) 0 X.2.2.2)), S.2).1 h = S.1 h ∧ (va_up S.1 kb (some (kO kb ((sa + left) % 9) 0 X.2.2.2)), S.2).1 (h + 1) = S.1 (h + 1) ∧ (va_up S.1 kb (some (kO kb ((sa + left) % 9) 0 X.2.2.2)), S.2).1 (h + 2) = S.1 (h + 2) := by
      intro h hh
      have h1 := hh.1
      exact ⟨hup _ (by omega), hup _ (by omega), hup _ (by omega)⟩
    have hK := (hR left hleft).frame (fun h hh => hkeep h (hN.2.1 left hleft h hh))
    obtain ⟨S', e1, e2, e3, e4⟩ := zt_become (t := kb + 9) (t' := kb + 11 + 2 * ((sa + left) % 9)) (by omega) hM2.now (hM2.ring hj) hK
    have hkeep2 : ∀ h, cOk kb S.2 h → S'.1 h = S.1 h ∧ S'.1 (h + 1) = S.1 (h + 1) ∧ S'.1 (h + 2) = S.1 (h + 2) := by
      intro h hh
      have h1 := hh.1
      obtain ⟨g0, g1, g2⟩ := hkeep h hh
      exact ⟨(e4 _ (by omega) (by omega)).trans g0, (e4 _ (by omega) (by omega)).trans g1, (e4 _ (by omega) (by omega)).trans g2⟩
    have hK2 := (hR left hleft).frame (fun h hh => hkeep2 h (hN.2.1 left hleft h hh))
    refine ⟨S', ?_, ⟨ro ((sa + left) % 9), rr ((sa + left) % 9), ro, rr, (sa + left) % 9, rb, ?_, ?_, hK2, fun i hi => ?_, fun i q hq => by cases hq⟩, ?_, fun a h0 h1 => (e4 a (by omega) (by omega)).trans (hup a (by omega))⟩
    · show q_K_crash_0 kb (g_K_crash kb n) a1 (nI left) (nI (k + 1)) S = _
      simp only [q_K_crash_0, hM.rd5, obind]
      rw [if_pos ((nI_lti (by omega) (by omega)).mpr (by omega))]
      simp only [hM.rc, obind]
      rw [zk_ri hM (by omega)]
      simp only [obind]
      rw [show wrV S (some kb) 0 4 (.int (nI ((sa + left) % 9))) = some (va_up S.1 kb (some (kO kb ((sa + left) % 9) X.2.2.1.length X.2.2.2)), S.2) from wr4 (z := S.2) (kO_at hM)]
      simp only [obind]
      rw [show (0 : Int32) = nI 0 from rfl, wr5 up_eq, upup]
      simp only [obind, hM2.rd0, hM2.rc, zk_kept hM2, hM2.now.rc]
      rw [show ((sa + left) % 9 + 0) % 9 = (sa + left) % 9 from hix 0 (Nat.le_refl _), e1]
      rfl
    · show cM S' kb _ _ ro rr ((sa + left) % 9) 0 (pLost (X.2.2.1.drop k) X.2.2.2) rb
      rw [List.drop_eq_nil_of_le (by omega)]
      obtain ⟨m0, ⟨f1, m1, n1⟩, ⟨f2, m2, n2⟩, ⟨rf, qf, nn, hRR⟩, hT, hJ, hs3, hw3, hz0⟩ := hM2
      exact ⟨(e4 _ (by omega) (by omega)).trans m0, ⟨f1, (e4 _ (by omega) (by omega)).trans m1, n1⟩, ⟨f2, (e4 _ (by omega) (by omega)).trans m2, n2⟩, ⟨rf, qf, nn, hRR.frame (fun a _ _ => e4 a (by omega) (by omega))⟩, e2, fun i hi => (hJ i hi).frame (e4 _ (by omega) (by omega)) (e4 _ (by omega) (by omega)), hs3, hw3, by rw [e3]; exact hz0⟩
    · show cN kb S'.2 _ _ ro rr ((sa + left) % 9) 0
      rw [e3]
      refine ⟨hN.2.1 left hleft, fun i hi h hh => ?_, hN.2.2.2.1 left hleft, fun i hi => ?_, fun o h ho e => ?_, ?_⟩
      · rw [hix i hi] at hh; exact hN.2.1 left hleft h hh
      · rw [hix i hi]; exact hN.2.2.2.1 left hleft
      · rw [hix 0 (Nat.le_refl _)]; exact Or.inl e
      · rw [hix 0 (Nat.le_refl _)]; exact Or.inl rfl
    · have hi : i ≤ 0 := hi
      obtain rfl : i = 0 := by omega
      rw [hix 0 (Nat.le_refl _)]
      exact hK2
    · rw [e3]; exact Nat.le_refl _
  | succ d ih =>
    intro k n S X hk hn hleft hY
    obtain ⟨n, rfl⟩ : ∃ q, n = q + 1 := ⟨n - 1, by omega⟩
    obtain ⟨hM, hN, hP, hR, hB⟩ := id hY
    have hw := hM.2.2.2.2.2.2.2.1
    have hk1 : k < X.2.2.1.length := by omega
    have hd1 : X.2.2.1.drop k = X.2.2.1[k] :: X.2.2.1.drop (k + 1) := List.drop_eq_getElem_cons hk1
    have hb1 := hB k X.2.2.1[k] (List.getElem?_eq_getElem hk1)
    have hup : ∀ a, a ≠ kb → (va_up S.1 kb (some (kO kb sa X.2.2.1.length (X.2.2.2 - nI X.2.2.1[k].2))), S.2).1 a = S.1 a := fun a ha => up_ne ha rfl
    have hkeep : ∀ h, cOk kb S.2 h → (va_up S.1 kb (some (kO kb sa X.2.2.1.length (X.2.2.2 - nI X.2.2.1[k].2))), S.2).1 h = S.1 h ∧ (va_up S.1 kb (some (kO kb sa X.2.2.1.length (X.2.2.2 - nI X.2.2.1[k].2))), S.2).1 (h + 1) = S.1 (h + 1) ∧ (va_up S.1 kb (some (kO kb sa X.2.2.1.length (X.2.2.2 - nI X.2.2.1[k].2))), S.2).1 (h + 2) = S.1 (h + 2) := by
      intro h hh
      have h1 := hh.1
      exact ⟨hup _ (by omega), hup _ (by omega), hup _ (by omega)⟩
    obtain ⟨S', g1, g2, g3⟩ := ih (k + 1) n (va_up S.1 kb (some (kO kb sa X.2.2.1.length (X.2.2.2 - nI X.2.2.1[k].2))), S.2) (X.1, X.2.1, X.2.2.1, X.2.2.2 - nI X.2.2.1[k].2) (by show k + 1 + d = X.2.2.1.length; omega) (by omega) hleft ⟨hM.set hM.2.2.2.2.2.2.1 hw, hN, hP.frame (fun h hh => hkeep h (hN.1 h hh)), fun i hi => (hR i hi).frame (fun h hh => hkeep h (hN.2.1 i hi h hh)), hB⟩
    refine ⟨S', ?_, ?_, ⟨g3.1, fun a h0 h1 => (g3.2 a h0 h1).trans (hup a (by omega))⟩⟩
    · show q_K_crash_0 kb (g_K_crash kb n) a1 (nI left) (nI (k + 1)) S = _
      simp only [q_K_crash_0, hM.rd5, hM.rd6, hM.rd2, hM.rc, obind]
      rw [if_neg (fun q => by have := (nI_lti (by omega) (by omega)).mp q; omega), zk_ri hM (by omega)]
      simp only [obind]
      rw [hM.ldb (Nat.mod_lt _ (by omega)), show (sa + (k + 1)) % 9 = (sa + k + 1) % 9 from rfl, hb1]
      simp only [obind]
      rw [show wrV S (some kb) 0 6 (.int (X.2.2.2 - nI X.2.2.1[k].2)) = some (va_up S.1 kb (some (kO kb sa X.2.2.1.length (X.2.2.2 - nI X.2.2.1[k].2))), S.2) from wr6 (z := S.2) (kO_at hM)]
      simp only [obind, nI_s]
      exact g1
    · rw [hd1]
      exact g2
theorem zk_crash (h : cX S kb X) (hw : pWX X) (a : Int32) : ∃ S', f_K_crash kb a S = some ((pCrash X a).1, S') ∧ cX S' kb (pCrash X a).2 ∧ kfr S S' kb := by
  obtain ⟨no, nr, ro, rr, sa, rb, hY⟩ := id h
  have hM := hY.1
  unfold pCrash
  by_cases h0 : a < 0
  · rw [if_pos h0]
    refine ⟨S, ?_, h, kfr.rf⟩
    unfold f_K_crash
    rw [if_neg (Int32.not_le.mpr h0)]
  · rw [if_neg h0]
    have hle := pLeft_le X.2.2.1 a.toNatClampNeg
    have hew := zk_ew_g hM X.2.2.1 rfl (fun i q hq => ⟨hY.2.2.2.2 i q hq, (hw.2.2.1 q (List.mem_of_getElem? hq)).2⟩) a X.2.2.1.length 0 5000 a.toNatClampNeg (by omega) (by have := hM.2.2.2.2.2.2.2.1; omega) (Int32.toNatClampNeg_lt a)
    rw [nI_at h0, List.drop_zero] at hew
    simp only [Nat.zero_add] at hew
    obtain ⟨S', g1, g2, g3⟩ := zk_cr_g (kb := kb) (no := no) (nr := nr) (ro := ro) (rr := rr) (sa := sa) (rb := rb) a (left := pLeft X.2.2.1 a.toNatClampNeg) (X.2.2.1.length - pLeft X.2.2.1 a.toNatClampNeg) (pLeft X.2.2.1 a.toNatClampNeg) 5000 S X (by omega) (by have := hM.2.2.2.2.2.2.2.1; omega) hle hY
    refine ⟨S', ?_, ?_, g3⟩
    · unfold f_K_crash
      rw [if_pos (Int32.not_lt.mp h0)]
      simp only [hM.rc, obind]
      unfold f_K_entriesWithin
      rw [show (1 : Int32) = nI 1 from rfl, hew]
      simp only [obind]
      rw [show nI (pLeft X.2.2.1 a.toNatClampNeg) + nI 1 = nI (pLeft X.2.2.1 a.toNatClampNeg + 1) from nI_ad _ _]
      exact g1
    · show cX S' kb (pKept (X.1, X.2.1, X.2.2.1.take (pLeft X.2.2.1 a.toNatClampNeg), X.2.2.2), pKept (X.1, X.2.1, X.2.2.1.take (pLeft X.2.2.1 a.toNatClampNeg), X.2.2.2), [], pLost (X.2.2.1.drop (pLeft X.2.2.1 a.toNatClampNeg)) X.2.2.2)
      rw [pKept_at X hle]
      exact g2
end KE
