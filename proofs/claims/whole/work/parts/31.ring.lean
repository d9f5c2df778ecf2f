theorem cPS.congr {S : mc_S} {ob : Nat → Option Nat} {rp : Nat} {P P' : pS} (h : cPS S ob rp P) (h1 : ∀ o, o < 100 → P'.1 o = P.1 o) (h2 : P'.2 = P.2) : cPS S ob rp P' := ⟨fun o ho => by rw [h1 o ho]; exact h.1 o ho, by rw [h2]; exact h.2⟩
def kO (kb sa wt : Nat) (lg : Int32) : mc_E := .inr (0, [.ref (kb + 9), .ref (kb + 1), .ref (kb + 2), .ref (kb + 3), .int (nI sa), .int (nI wt), .int lg])
section KR
variable {S : mc_S} {kb : Nat} {no : Nat → Option Nat} {nr : Nat} {ro : Nat → Nat → Option Nat} {rr : Nat → Nat} {sa wt : Nat} {lg : Int32} {rb : Nat → Int32} {X : pX}
theorem cM.set (h : cM S kb no nr ro rr sa wt lg rb) {sa' wt' : Nat} {lg' : Int32} (hs : sa' < 9) (hw : wt' ≤ 8) : cM (va_up S.1 kb (some (kO kb sa' wt' lg')), S.2) kb no nr ro rr sa' wt' lg' rb := by
  have hup : ∀ a, a ≠ kb → (va_up S.1 kb (some (kO kb sa' wt' lg')), S.2).1 a = S.1 a := fun a ha => up_ne ha rfl
  obtain ⟨m0, ⟨f1, m1, n1⟩, ⟨f2, m2, n2⟩, ⟨rf, qf, n, hRR⟩, hT, hJ, hs3, hw3, hz0⟩ := h
  exact ⟨up_eq, ⟨f1, (hup _ (by omega)).trans m1, n1⟩, ⟨f2, (hup _ (by omega)).trans m2, n2⟩, ⟨rf, qf, n, hRR.frame (fun a _ _ => hup a (by omega))⟩, hT.frame (hup _ (by omega)) (hup _ (by omega)), fun j hj => (hJ j hj).frame (hup _ (by omega)) (hup _ (by omega)), hs, hw, hz0⟩
theorem kO_at (h : cM S kb no nr ro rr sa wt lg rb) : S.1 kb = some (kO kb sa wt lg) := h.1
theorem wr4 {M : mc_M} {z sa wt : Nat} {lg : Int32} {v : Nat} (h : M kb = some (kO kb sa wt lg)) : wrV (M, z) (some kb) 0 4 (.int (nI v)) = some (va_up M kb (some (kO kb v wt lg)), z) := by rw [wr_p h (by simp)]; rfl
theorem wr5 {M : mc_M} {z sa wt : Nat} {lg : Int32} {v : Nat} (h : M kb = some (kO kb sa wt lg)) : wrV (M, z) (some kb) 0 5 (.int (nI v)) = some (va_up M kb (some (kO kb sa v lg)), z) := by rw [wr_p h (by simp)]; rfl
theorem wr6 {M : mc_M} {z sa wt : Nat} {lg v : Int32} (h : M kb = some (kO kb sa wt lg)) : wrV (M, z) (some kb) 0 6 (.int v) = some (va_up M kb (some (kO kb sa wt v)), z) := by rw [wr_p h (by simp)]; rfl
theorem upup {α : Type} (f : Nat → α) (k : Nat) (x y : α) : va_up (va_up f k x) k y = va_up f k y := by
  funext j
  by_cases h : j = k
  · subst h; rw [va_up_self, va_up_self]
  · rw [va_up_ne _ _ h, va_up_ne _ _ h, va_up_ne _ _ h]
theorem zk_tail (X1 : pX) {b : Nat} (hM : cM S kb no nr ro rr sa (X1.2.2.1.length + 1) X1.2.2.2 rb) (hN : cN kb S.2 no nr ro rr sa X1.2.2.1.length) (hP : cPS S no nr X1.1) (hR : ∀ i, i ≤ X1.2.2.1.length → cPS S (ro ((sa + i) % 9)) (rr ((sa + i) % 9)) (pAt X1 i)) (hB : ∀ i q, X1.2.2.1[i]? = some q → rb ((sa + i + 1) % 9) = nI q.2) :
    ∃ S', ((rdI S (some kb) 0 5).bind fun v4 => (rcv S (some kb) 0).bind fun b5 => (f_K_ringIndex b5 v4 S).bind fun o6 => (rdR o6.2 (some kb) 0 1).bind fun v7 => (ldR o6.2 v7 4 o6.1).bind fun v8 => (rdR o6.2 (some kb) 0 0).bind fun v9 => (rcv o6.2 v8 2).bind fun b10 => (f_T_become b10 v9 o6.2).bind fun S11 => (rdR S11 (some kb) 0 2).bind fun v12 => (stI S11 v12 0 o6.1 (nI b)).bind fun S13 => (rdI S13 (some kb) 0 6).bind fun v14 => (wrV S13 (some kb) 0 6 (.int (v14 + nI b))).bind fun S15 => some S15) = some S' ∧ cX S' kb (X1.1, X1.2.1, X1.2.2.1 ++ [(X1.1, b)], X1.2.2.2 + nI b) ∧ kfr S S' kb := by
  have hw := hM.2.2.2.2.2.2.2.1
  have hzz := hM.2.2.2.2.2.2.2.2
  obtain ⟨j, hj⟩ : ∃ j, j = (sa + (X1.2.2.1.length + 1)) % 9 := ⟨_, rfl⟩
  have hj9 : j < 9 := by rw [hj]; exact Nat.mod_lt _ (by omega)
  have hsa := hM.2.2.2.2.2.2.1
  have hne : ∀ i, i ≤ X1.2.2.1.length → (sa + i) % 9 ≠ j := fun i hi => by rw [hj]; omega
  have htj := hM.ring hj9
  obtain ⟨S3, e1, e2, e3, e4⟩ := zt_become (t := kb + 11 + 2 * j) (t' := kb + 9) (by omega) htj hM.now hP
  have hM3 : cM S3 kb no nr (va_up ro j no) (va_up rr j nr) sa (X1.2.2.1.length + 1) X1.2.2.2 rb := by
    obtain ⟨m0, ⟨f1, m1, n1⟩, ⟨f2, m2, n2⟩, ⟨rf, qf, n, hRR⟩, hT, hJ, hs3, hw3, hz0⟩ := hM
    refine ⟨(e4 _ (by omega) (by omega)).trans m0, ⟨f1, (e4 _ (by omega) (by omega)).trans m1, n1⟩, ⟨f2, (e4 _ (by omega) (by omega)).trans m2, n2⟩, ⟨rf, qf, n, hRR.frame (fun a _ _ => e4 a (by omega) (by omega))⟩, hT.frame (e4 _ (by omega) (by omega)) (e4 _ (by omega) (by omega)), fun i hi => ?_, hs3, hw3, by omega⟩
    by_cases hij : i = j
    · subst hij
      rw [va_up_self, va_up_self]
      exact e2
    · rw [va_up_ne _ _ hij, va_up_ne _ _ hij]
      exact (hJ i hi).frame (e4 _ (by omega) (by omega)) (e4 _ (by omega) (by omega))
  obtain ⟨f2, m2, n2⟩ := hM3.2.2.1
  have hup : ∀ a, a ≠ kb + 2 → (va_up S3.1 (kb + 2) (some (.inl (0, 9, .inl (va_up f2 j (nI b))))), S3.2).1 a = S3.1 a := fun a ha => up_ne ha rfl
  have hM4 : cM (va_up S3.1 (kb + 2) (some (.inl (0, 9, .inl (va_up f2 j (nI b))))), S3.2) kb no nr (va_up ro j no) (va_up rr j nr) sa (X1.2.2.1.length + 1) X1.2.2.2 (va_up rb j (nI b)) := by
    obtain ⟨m0, ⟨f1, m1, n1⟩, -, ⟨rf, qf, n, hRR⟩, hT, hJ, hs3, hw3, hz0⟩ := hM3
    refine ⟨(hup _ (by omega)).trans m0, ⟨f1, (hup _ (by omega)).trans m1, n1⟩, ⟨va_up f2 j (nI b), up_eq, fun i hi => ?_⟩, ⟨rf, qf, n, hRR.frame (fun a _ _ => hup a (by omega))⟩, hT.frame (hup _ (by omega)) (hup _ (by omega)), fun i hi => (hJ i hi).frame (hup _ (by omega)) (hup _ (by omega)), hs3, hw3, hz0⟩
    by_cases hij : i = j
    · subst hij; rw [va_up_self, va_up_self]
    · rw [va_up_ne _ _ hij, va_up_ne _ _ hij, n2 i hi]
  have hM5 := hM4.set (lg' := X1.2.2.2 + nI b) hM4.2.2.2.2.2.2.1 hw
  have hkeep : ∀ h, cOk kb S.2 h → (va_up (va_up S3.1 (kb + 2) (some (.inl (0, 9, .inl (va_up f2 j (nI b)))))) kb (some (kO kb sa (X1.2.2.1.length + 1) (X1.2.2.2 + nI b))), S3.2).1 h = S.1 h ∧ (va_up (va_up S3.1 (kb + 2) (some (.inl (0, 9, .inl (va_up f2 j (nI b)))))) kb (some (kO kb sa (X1.2.2.1.length + 1) (X1.2.2.2 + nI b))), S3.2).1 (h + 1) = S.1 (h + 1) ∧ (va_up (va_up S3.1 (kb + 2) (some (.inl (0, 9, .inl (va_up f2 j (nI b)))))) kb (some (kO kb sa (X1.2.2.1.length + 1) (X1.2.2.2 + nI b))), S3.2).1 (h + 2) = S.1 (h + 2) := by
    intro h hh
    have h1 := hh.1
    have h2 := hh.2
    exact ⟨up_ne (by omega) (up_ne (by omega) (e4 _ (by omega) (by omega))), up_ne (by omega) (up_ne (by omega) (e4 _ (by omega) (by omega))), up_ne (by omega) (up_ne (by omega) (e4 _ (by omega) (by omega)))⟩
  have hl : (X1.2.2.1 ++ [(X1.1, b)]).length = X1.2.2.1.length + 1 := by simp
  have hPn := hP.frame (fun h hh => hkeep h (hN.1 h hh))
  refine ⟨_, ?_, ⟨no, nr, va_up ro j no, va_up rr j nr, sa, va_up rb j (nI b), ?_, ?_, hPn, fun i hi => ?_, fun i q hq => ?_⟩, by show S.2 ≤ S3.2; omega, fun a h0 h1 => up_ne (by omega) (up_ne (by omega) (e4 a (by omega) (by omega)))⟩
  · simp only [hM.rd5, hM.rc, obind]
    rw [zk_ri hM (by omega), ← hj]
    simp only [obind, hM.rd1, hM.rd0]
    rw [hM.ldr hj9]
    simp only [obind, htj.rc, e1, hM3.rd2]
    rw [stI_at m2 hj9 (by decide)]
    simp only [obind, hM4.rd6]
    rw [wr6 (kO_at hM4)]
    rfl
  · show cM _ kb no nr _ _ sa (X1.2.2.1 ++ [(X1.1, b)]).length _ _
    rw [hl]
    exact hM5
  · show cN kb S3.2 no nr _ _ sa (X1.2.2.1 ++ [(X1.1, b)]).length
    rw [hl, e3]
    have hkj : (sa + (X1.2.2.1.length + 1)) % 9 = j := hj.symm
    have hold : ∀ i, i ≤ X1.2.2.1.length + 1 → ((sa + i) % 9 = j ∨ i ≤ X1.2.2.1.length) := fun i hi => by
      by_cases h : i = X1.2.2.1.length + 1
      · subst h; exact Or.inl hkj
      · exact Or.inr (by omega)
    refine ⟨hN.1, fun i hi h hh => ?_, hN.2.2.1, fun i hi => ?_, fun o h ho e => ?_, ?_⟩
    · rcases hold i hi with q | q
      · rw [q, va_up_self, va_up_self] at hh
        exact hN.1 h hh
      · rw [va_up_ne _ _ (hne i q), va_up_ne _ _ (hne i q)] at hh
        exact hN.2.1 i q h hh
    · rcases hold i hi with q | q
      · rw [q, va_up_self, va_up_self]
        exact hN.2.2.1
      · rw [va_up_ne _ _ (hne i q), va_up_ne _ _ (hne i q)]
        exact hN.2.2.2.1 i q
    · rw [hkj, va_up_self]
      exact Or.inl e
    · rw [hkj, va_up_self]
      exact Or.inl rfl
  · have hi : i ≤ (X1.2.2.1 ++ [(X1.1, b)]).length := hi
    rw [hl] at hi
    by_cases h : i = X1.2.2.1.length + 1
    · have hi2 : (sa + i) % 9 = j := by rw [h]; exact hj.symm
      rw [hi2, va_up_self, va_up_self]
      have : pAt (X1.1, X1.2.1, X1.2.2.1 ++ [(X1.1, b)], X1.2.2.2 + nI b) i = X1.1 := by
        subst h
        unfold pAt
        show ((X1.2.1 :: (X1.2.2.1 ++ [(X1.1, b)]).map (fun q => q.1))[X1.2.2.1.length + 1]?).getD X1.2.1 = X1.1
        rw [List.getElem?_cons_succ, List.map_append, List.getElem?_append_right (by simp)]
        simp
      rw [this]
      exact hPn
    · have hi3 : i ≤ X1.2.2.1.length := by omega
      rw [va_up_ne _ _ (hne i hi3), va_up_ne _ _ (hne i hi3)]
      have : pAt (X1.1, X1.2.1, X1.2.2.1 ++ [(X1.1, b)], X1.2.2.2 + nI b) i = pAt X1 i := by
        unfold pAt
        show ((X1.2.1 :: (X1.2.2.1 ++ [(X1.1, b)]).map (fun q => q.1))[i]?).getD X1.2.1 = ((X1.2.1 :: X1.2.2.1.map (fun q => q.1))[i]?).getD X1.2.1
        cases i with
        | zero => rfl
        | succ i =>
          rw [List.getElem?_cons_succ, List.getElem?_cons_succ, List.map_append, List.getElem?_append_left (by simp; omega)]
      rw [this]
      exact (hR i hi3).frame (fun h hh => hkeep h (hN.2.1 i hi3 h hh))
  · have hq : (X1.2.2.1 ++ [(X1.1, b)])[i]? = some q := hq
    by_cases h : i < X1.2.2.1.length
    · rw [List.getElem?_append_left h] at hq
      have : (sa + i + 1) % 9 ≠ j := hne (i + 1) (by omega)
      rw [va_up_ne _ _ this]
      exact hB i q hq
    · have hil : i < (X1.2.2.1 ++ [(X1.1, b)]).length := (List.getElem?_eq_some_iff.mp hq).1
      have : i = X1.2.2.1.length := by rw [hl] at hil; omega
      subst this
      simp at hq
      have : (sa + X1.2.2.1.length + 1) % 9 = j := by rw [hj]; rfl
      rw [this, va_up_self, ← hq]
theorem zk_keepNow (h : cX S kb X) {b : Nat} : ∃ S', f_K_keepNow kb (nI b) S = some S' ∧ cX S' kb (pKeep X b) ∧ kfr S S' kb := by
  obtain ⟨no, nr, ro, rr, sa, rb, hM, hN, hP, hR, hB⟩ := h
  have hw := hM.2.2.2.2.2.2.2.1
  have hsa := hM.2.2.2.2.2.2.1
  have hPf : ∀ {S2 : mc_S}, (∀ a, a ≠ kb → S2.1 a = S.1 a) → ∀ {ob : Nat → Option Nat} {rp : Nat} {P : pS}, cPS S ob rp P → (∀ h, cPt ob rp h → cOk kb S.2 h) → cPS S2 ob rp P := by
    intro S2 hS2 ob rp P hp hok
    exact hp.frame (fun h hh => by have := (hok h hh).1; exact ⟨hS2 _ (by omega), hS2 _ (by omega), hS2 _ (by omega)⟩)
  by_cases h8 : X.2.2.1.length = 8
  · obtain ⟨q, ws, hws⟩ : ∃ q ws, X.2.2.1 = q :: ws := by
      cases hx : X.2.2.1 with
      | nil => rw [hx] at h8; simp at h8
      | cons q ws => exact ⟨q, ws, rfl⟩
    have hl7 : ws.length = 7 := by rw [hws] at h8; simp at h8; exact h8
    have hpk : pKeep X b = (X.1, q.1, ws ++ [(X.1, b)], X.2.2.2 + nI b) := by
      unfold pKeep
      rw [hws]
      simp only
      rw [if_pos hl7]
    have hM2 := hM.set (sa' := (sa + 1) % 9) (wt' := X.2.2.1.length) (lg' := X.2.2.2) (Nat.mod_lt _ (by omega)) hw
    rw [h8] at hM2
    have hsh : ∀ i, ((sa + 1) % 9 + i) % 9 = (sa + (i + 1)) % 9 := fun i => by omega
    have hpAt : ∀ i, i ≤ 7 → pAt (X.1, q.1, ws, X.2.2.2) i = pAt X (i + 1) := by
      intro i hi
      unfold pAt
      show ((q.1 :: ws.map (fun q => q.1))[i]?).getD q.1 = ((X.2.1 :: X.2.2.1.map (fun q => q.1))[i + 1]?).getD X.2.1
      rw [hws, List.getElem?_cons_succ]
      show ((q.1 :: ws.map (fun q => q.1))[i]?).getD q.1 = ((q.1 :: ws.map (fun q => q.1))[i]?).getD X.2.1
      have : i < (q.1 :: ws.map (fun q => q.1)).length := by simp; omega
      rw [List.getElem?_eq_getElem this]
      rfl
    have hS2 : ∀ a, a ≠ kb → (va_up S.1 kb (some (kO kb ((sa + 1) % 9) 8 X.2.2.2)), S.2).1 a = S.1 a := fun a ha => up_ne ha rfl
    obtain ⟨S', g1, g2, g3⟩ := zk_tail (S := (va_up S.1 kb (some (kO kb ((sa + 1) % 9) 8 X.2.2.2)), S.2)) (X.1, q.1, ws, X.2.2.2) (b := b) (by show cM _ kb no nr ro rr _ (ws.length + 1) _ rb; rw [hl7]; exact hM2) (by
      show cN kb S.2 no nr ro rr ((sa + 1) % 9) ws.length
      rw [hl7]
      rw [h8] at hN
      refine ⟨hN.1, fun i hi h hh => ?_, hN.2.2.1, fun i hi => ?_, fun o h ho e => ?_, ?_⟩
      · rw [hsh] at hh
        exact hN.2.1 (i + 1) (by omega) h hh
      · rw [hsh]
        exact hN.2.2.2.1 (i + 1) (by omega)
      · rw [hsh]
        rcases hN.2.2.2.2.1 o h ho e with p | p
        · exact Or.inl p
        · refine Or.inr (fun i hi hh => ?_)
          rw [hsh] at hh
          exact p (i + 1) (by omega) hh
      · rw [hsh]
        rcases hN.2.2.2.2.2 with p | p
        · exact Or.inl p
        · refine Or.inr (fun i hi hh => ?_)
          rw [hsh] at hh
          exact p (i + 1) (by omega) hh) (hPf hS2 hP hN.1) (fun i hi => by
      have hi : i ≤ ws.length := hi
      rw [hsh, hpAt i (by omega)]
      exact hPf hS2 (hR (i + 1) (by omega)) (hN.2.1 (i + 1) (by omega))) (fun i q' hq => by
      have hq : ws[i]? = some q' := hq
      have := hB (i + 1) q' (by rw [hws]; exact hq)
      rw [← this]
      congr 1
      omega)
    refine ⟨S', ?_, by rw [hpk]; exact g2, ⟨g3.1, fun a h0 h1 => (g3.2 a h0 h1).trans (hS2 a (by omega))⟩⟩
    simp only [f_K_keepNow, hM.rd5, obind]
    rw [if_pos (by rw [h8]; rfl)]
    simp only [hM.rc, obind]
    rw [show (1 : Int32) = nI 1 from rfl, zk_ri hM (by omega)]
    simp only [obind]
    have hw4 := wr4 (z := S.2) (v := (sa + 1) % 9) (kO_at hM)
    rw [h8] at hw4
    rw [show wrV S (some kb) 0 4 (.int (nI ((sa + 1) % 9))) = some (va_up S.1 kb (some (kO kb ((sa + 1) % 9) 8 X.2.2.2)), S.2) from hw4]
    simp only [obind]
    exact g1
  · have hpk : pKeep X b = (X.1, X.2.1, X.2.2.1 ++ [(X.1, b)], X.2.2.2 + nI b) := by
      unfold pKeep
      cases hx : X.2.2.1 with
      | nil => rfl
      | cons q ws =>
        simp only
        rw [if_neg (fun e => h8 (by rw [hx]; simp; exact e))]
    have hM2 := hM.set (sa' := sa) (wt' := X.2.2.1.length + 1) (lg' := X.2.2.2) hsa (by omega)
    have hS2 : ∀ a, a ≠ kb → (va_up S.1 kb (some (kO kb sa (X.2.2.1.length + 1) X.2.2.2)), S.2).1 a = S.1 a := fun a ha => up_ne ha rfl
    obtain ⟨S', g1, g2, g3⟩ := zk_tail (S := (va_up S.1 kb (some (kO kb sa (X.2.2.1.length + 1) X.2.2.2)), S.2)) X (b := b) hM2 hN (hPf hS2 hP hN.1) (fun i hi => hPf hS2 (hR i hi) (hN.2.1 i hi)) hB
    refine ⟨S', ?_, by rw [hpk]; exact g2, ⟨g3.1, fun a h0 h1 => (g3.2 a h0 h1).trans (hS2 a (by omega))⟩⟩
    simp only [f_K_keepNow, hM.rd5, obind]
    rw [if_neg (show ¬ nI X.2.2.1.length = 8 from fun e => h8 ((nI_eqi (b := 8) (by omega) (by decide)).mp e)), nI_s]
    have hw5 := wr5 (z := S.2) (v := X.2.2.1.length + 1) (kO_at hM)
    rw [show wrV S (some kb) 0 5 (.int (nI (X.2.2.1.length + 1))) = some (va_up S.1 kb (some (kO kb sa (X.2.2.1.length + 1) X.2.2.2)), S.2) from hw5]
    simp only [obind]
    exact g1
end KR
