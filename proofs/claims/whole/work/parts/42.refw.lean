theorem pSw_in {P : pS} {o : Nat} (h : pRch P o) : (pSw P).1 o = P.1 o := by
  show @ite pO (pRch P o) (Classical.propDecidable _) (P.1 o) none = _
  rw [if_pos h]
theorem pSw_out {P : pS} {o : Nat} (h : ¬ pRch P o) : (pSw P).1 o = none := by
  show @ite pO (pRch P o) (Classical.propDecidable _) (P.1 o) none = _
  rw [if_neg h]
theorem pSw_wf {P : pS} (hw : pWf P) : pWf (pSw P) := by
  refine ⟨fun o q ho hq => ?_, hw.2.1, hw.2.2.1, fun z hz => ⟨?_, (hw.2.2.2 z hz).2⟩⟩
  · by_cases hr : pRch P o
    · rw [pSw_in hr] at hq
      refine ⟨(hw.1 o q ho hq).1, fun z hz => ?_⟩
      rcases (hw.1 o q ho hq).2 z hz with e | e | ⟨x, hx, e, e2⟩
      · exact Or.inl e
      · exact Or.inr (Or.inl e)
      · exact Or.inr (Or.inr ⟨x, hx, e, by rw [pSw_in (pRch_step ho hr hq hx ⟨z, hz, e⟩)]; exact e2⟩)
    · rw [pSw_out hr] at hq
      cases hq
  · rcases (hw.2.2.2 z hz).1 with e | e | ⟨x, hx, e, e2⟩
    · exact Or.inl e
    · exact Or.inr (Or.inl e)
    · exact Or.inr (Or.inr ⟨x, hx, e, by rw [pSw_in (pRch_root (P := P) hx ⟨z, hz, e⟩)]; exact e2⟩)
theorem pSw_same {P : pS} (hg : ¬ 0 < pGone P) {o : Nat} (ho : o < 100) : (pSw P).1 o = P.1 o := by
  by_cases hr : pRch P o
  · exact pSw_in hr
  · rw [pSw_out hr]
    have h0 : pGone P = 0 := by omega
    unfold pGone at h0
    have := List.countP_eq_zero.mp h0 o (List.mem_range.mpr ho)
    simp only [decide_eq_true_eq] at this
    exact Classical.byContradiction (fun q => this ⟨fun e => q e.symm, hr⟩)
theorem zm_sweep {S : mc_S} {mb : Nat} {X : pX} (h : rX S mb X) (hw : pWX X) : ∃ S', f_M_sweep mb S = some ((pSweep X).1, S') ∧ rX S' mb (pSweep X).2 ∧ mfr S S' mb := by
  obtain ⟨sg, D0, D1, D2, b0, b1, b2, Dw, bw, hM, hP, h1, h2, h3⟩ := id h
  obtain ⟨S1, D, a1, a2, a3, a4⟩ := zn_copy (t := mb + 1) (t' := mb + 8) (by omega) hM.now hM.kept
  obtain ⟨hM1, f1⟩ := hM.setNow a4 a2
  have hP1 := h1.ag hw.kept a3
  obtain ⟨rf, hrf⟩ := hM1.2.2.2.2.1
  obtain ⟨qf, hqf⟩ := hM1.2.2.2.2.2.1
  obtain ⟨S2, D', c1, c2, c3, c4⟩ := zm_sw0 hP1 hw.kept 100 0 5000 S1 rf qf (by omega) (by omega) hM1 ⟨hrf, hqf⟩ (fun o ho => by omega)
  rw [show nI 0 = (0 : Int32) from rfl] at c1
  have e : f_M_sweep mb S = swT mb (pGone (pKept X)) S2 := by
    unfold f_M_sweep
    rw [hM.rd0, obind, hM.rd1, obind, hM.now.rc, obind, a1, obind, hM1.rd6, obind, hM1.rd7, obind]
    exact c1
  rw [e]
  have hle := pGone_le (pKept X)
  by_cases hg : 0 < pGone (pKept X)
  · have hX1 : rX S2 mb (pSw (pKept X), X.2) := ⟨sg, D', D1, D2, b0, b1, b2, Dw, bw, c2, c3, h1, h2, h3⟩
    obtain ⟨S3, k1, k2, k3⟩ := zm_keep hX1 ⟨pSw_wf hw.kept, hw.2⟩ 8
    unfold pSweep
    rw [if_pos hg]
    refine ⟨S3, ?_, k2, f1.tr (c4.tr k3)⟩
    unfold swT
    rw [if_neg (fun q => by have := (nI_lei (b := 0) (by omega) (by omega)).mp q; omega), c2.rc, obind, show (8 : Int32) = nI 8 from rfl, k1, obind]
  · unfold pSweep
    rw [if_neg hg]
    refine ⟨S2, ?_, ⟨sg, D', D1, D2, b0, b1, b2, Dw, bw, c2, ⟨fun o ho => ?_, c3.2⟩, h1, h2, h3⟩, f1.tr c4⟩
    · have h0 : pGone (pKept X) = 0 := by omega
      rw [h0]
      unfold swT
      rw [if_pos (by decide)]
      rfl
    · have := c3.1 o ho
      rw [pSw_same hg ho] at this
      exact this
