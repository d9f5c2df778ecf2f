def mO (mb wt : Nat) (lg : Int32) : mc_E := .inr (4, [.ref (mb + 1), .ref (mb + 8), .ref (mb + 15), .ref (mb + 22), .int (nI wt), .int lg, .ref (mb + 23), .ref (mb + 24)])
def rM (S : mc_S) (mb : Nat) (sg : Nat → Nat) (wt : Nat) (lg : Int32) (D0 D1 D2 : rD) (b0 b1 b2 : Int32) (Dw : Nat → rD) (bw : Nat → Int32) : Prop :=
  S.1 mb = some (mO mb wt lg) ∧ (∃ f : Nat → Option Nat, S.1 (mb + 22) = some (.inl (5, 8, .inr (.inr (.inr (.inr f))))) ∧ ∀ k, k < 8 → f k = some (mb + 25 + 7 * sg k)) ∧ (∀ k, k < 8 → sg k < 8) ∧ (∀ k j, k < 8 → j < 8 → sg k = sg j → k = j) ∧ (∃ f : Nat → Int32, S.1 (mb + 23) = some (.inl (2, 100, .inl f))) ∧ (∃ f : Nat → Int32, S.1 (mb + 24) = some (.inl (0, 100, .inl f))) ∧ rSt S (mb + 1) D0 b0 ∧ rSt S (mb + 8) D1 b1 ∧ rSt S (mb + 15) D2 b2 ∧ (∀ k, k < 8 → rSt S (mb + 25 + 7 * sg k) (Dw k) (bw k)) ∧ wt ≤ 8
def rX (S : mc_S) (mb : Nat) (X : pX) : Prop := ∃ (sg : Nat → Nat) (D0 D1 D2 : rD) (b0 b1 b2 : Int32) (Dw : Nat → rD) (bw : Nat → Int32), rM S mb sg X.2.2.1.length X.2.2.2 D0 D1 D2 b0 b1 b2 Dw bw ∧ rPS D0 X.1 ∧ rPS D1 (pKept X) ∧ rPS D2 X.2.1 ∧ ∀ i q, X.2.2.1[i]? = some q → rPS (Dw i) q.1 ∧ bw i = nI q.2
def mfr (S S' : mc_S) (mb : Nat) : Prop := S'.2 = S.2 ∧ ∀ a, (a < mb ∨ mb + 81 ≤ a) → S'.1 a = S.1 a
theorem mfr.rf {S : mc_S} {mb : Nat} : mfr S S mb := ⟨rfl, fun _ _ => rfl⟩
theorem mfr.tr {S S1 S2 : mc_S} {mb : Nat} (a : mfr S S1 mb) (b : mfr S1 S2 mb) : mfr S S2 mb := ⟨b.1.trans a.1, fun x h => (b.2 x h).trans (a.2 x h)⟩
section RM
variable {S : mc_S} {mb : Nat} {sg : Nat → Nat} {wt : Nat} {lg : Int32} {D0 D1 D2 : rD} {b0 b1 b2 : Int32} {Dw : Nat → rD} {bw : Nat → Int32} {X : pX} {P : pS}
theorem rM.rd0 (h : rM S mb sg wt lg D0 D1 D2 b0 b1 b2 Dw bw) : rdR S (some mb) 4 0 = some (some (mb + 1)) := rdR_at h.1 rfl
theorem rM.rd1 (h : rM S mb sg wt lg D0 D1 D2 b0 b1 b2 Dw bw) : rdR S (some mb) 4 1 = some (some (mb + 8)) := rdR_at h.1 rfl
theorem rM.rd2 (h : rM S mb sg wt lg D0 D1 D2 b0 b1 b2 Dw bw) : rdR S (some mb) 4 2 = some (some (mb + 15)) := rdR_at h.1 rfl
theorem rM.rd3 (h : rM S mb sg wt lg D0 D1 D2 b0 b1 b2 Dw bw) : rdR S (some mb) 4 3 = some (some (mb + 22)) := rdR_at h.1 rfl
theorem rM.rd4 (h : rM S mb sg wt lg D0 D1 D2 b0 b1 b2 Dw bw) : rdI S (some mb) 4 4 = some (nI wt) := rdI_at h.1 rfl
theorem rM.rd5 (h : rM S mb sg wt lg D0 D1 D2 b0 b1 b2 Dw bw) : rdI S (some mb) 4 5 = some lg := rdI_at h.1 rfl
theorem rM.rd6 (h : rM S mb sg wt lg D0 D1 D2 b0 b1 b2 Dw bw) : rdR S (some mb) 4 6 = some (some (mb + 23)) := rdR_at h.1 rfl
theorem rM.rd7 (h : rM S mb sg wt lg D0 D1 D2 b0 b1 b2 Dw bw) : rdR S (some mb) 4 7 = some (some (mb + 24)) := rdR_at h.1 rfl
theorem rM.rc (h : rM S mb sg wt lg D0 D1 D2 b0 b1 b2 Dw bw) : rcv S (some mb) 4 = some mb := rcv_at h.1
theorem rM.now (h : rM S mb sg wt lg D0 D1 D2 b0 b1 b2 Dw bw) : rSt S (mb + 1) D0 b0 := h.2.2.2.2.2.2.1
theorem rM.kept (h : rM S mb sg wt lg D0 D1 D2 b0 b1 b2 Dw bw) : rSt S (mb + 8) D1 b1 := h.2.2.2.2.2.2.2.1
theorem rM.safe (h : rM S mb sg wt lg D0 D1 D2 b0 b1 b2 Dw bw) : rSt S (mb + 15) D2 b2 := h.2.2.2.2.2.2.2.2.1
theorem rM.wait (h : rM S mb sg wt lg D0 D1 D2 b0 b1 b2 Dw bw) {k : Nat} (hk : k < 8) : rSt S (mb + 25 + 7 * sg k) (Dw k) (bw k) := h.2.2.2.2.2.2.2.2.2.1 k hk
theorem rM.ldw (h : rM S mb sg wt lg D0 D1 D2 b0 b1 b2 Dw bw) {k : Nat} (hk : k < 8) : ldR S (some (mb + 22)) 5 (nI k) = some (some (mb + 25 + 7 * sg k)) := by
  obtain ⟨f, h1, h2⟩ := h.2.1
  rw [ldR_at h1 hk (by decide), h2 k hk]
theorem rM.setNow (h : rM S mb sg wt lg D0 D1 D2 b0 b1 b2 Dw bw) {S' : mc_S} {D : rD} {b : Int32} (hf : tfr S S' (mb + 1)) (hs : rSt S' (mb + 1) D b) : rM S' mb sg wt lg D D1 D2 b b1 b2 Dw bw ∧ mfr S S' mb := by
  obtain ⟨h0, ⟨f1, h1, g1⟩, h2, h3, ⟨f4, h4⟩, ⟨f5, h5⟩, h6, h7, h8, h9, hw⟩ := h
  exact ⟨⟨(hf.2 _ (by omega)).trans h0, ⟨f1, (hf.2 _ (by omega)).trans h1, g1⟩, h2, h3, ⟨f4, (hf.2 _ (by omega)).trans h4⟩, ⟨f5, (hf.2 _ (by omega)).trans h5⟩, hs, h7.frame (fun a _ _ => hf.2 a (by omega)), h8.frame (fun a _ _ => hf.2 a (by omega)), fun k hk => (h9 k hk).frame (fun a _ _ => hf.2 a (by omega)), hw⟩, hf.1, fun a ha => hf.2 a (by omega)⟩
theorem rM.setKept (h : rM S mb sg wt lg D0 D1 D2 b0 b1 b2 Dw bw) {S' : mc_S} {D : rD} {b : Int32} (hf : tfr S S' (mb + 8)) (hs : rSt S' (mb + 8) D b) : rM S' mb sg wt lg D0 D D2 b0 b b2 Dw bw ∧ mfr S S' mb := by
  obtain ⟨h0, ⟨f1, h1, g1⟩, h2, h3, ⟨f4, h4⟩, ⟨f5, h5⟩, h6, h7, h8, h9, hw⟩ := h
  exact ⟨⟨(hf.2 _ (by omega)).trans h0, ⟨f1, (hf.2 _ (by omega)).trans h1, g1⟩, h2, h3, ⟨f4, (hf.2 _ (by omega)).trans h4⟩, ⟨f5, (hf.2 _ (by omega)).trans h5⟩, h6.frame (fun a _ _ => hf.2 a (by omega)), hs, h8.frame (fun a _ _ => hf.2 a (by omega)), fun k hk => (h9 k hk).frame (fun a _ _ => hf.2 a (by omega)), hw⟩, hf.1, fun a ha => hf.2 a (by omega)⟩
theorem rM.setSafe (h : rM S mb sg wt lg D0 D1 D2 b0 b1 b2 Dw bw) {S' : mc_S} {D : rD} {b : Int32} (hf : tfr S S' (mb + 15)) (hs : rSt S' (mb + 15) D b) : rM S' mb sg wt lg D0 D1 D b0 b1 b Dw bw ∧ mfr S S' mb := by
  obtain ⟨h0, ⟨f1, h1, g1⟩, h2, h3, ⟨f4, h4⟩, ⟨f5, h5⟩, h6, h7, h8, h9, hw⟩ := h
  exact ⟨⟨(hf.2 _ (by omega)).trans h0, ⟨f1, (hf.2 _ (by omega)).trans h1, g1⟩, h2, h3, ⟨f4, (hf.2 _ (by omega)).trans h4⟩, ⟨f5, (hf.2 _ (by omega)).trans h5⟩, h6.frame (fun a _ _ => hf.2 a (by omega)), h7.frame (fun a _ _ => hf.2 a (by omega)), hs, fun k hk => (h9 k hk).frame (fun a _ _ => hf.2 a (by omega)), hw⟩, hf.1, fun a ha => hf.2 a (by omega)⟩
theorem rM.setWait (h : rM S mb sg wt lg D0 D1 D2 b0 b1 b2 Dw bw) {S' : mc_S} {D : rD} {b : Int32} {j : Nat} (hj : j < 8) (hf : tfr S S' (mb + 25 + 7 * sg j)) (hs : rSt S' (mb + 25 + 7 * sg j) D b) : rM S' mb sg wt lg D0 D1 D2 b0 b1 b2 (va_up Dw j D) (va_up bw j b) ∧ mfr S S' mb := by
  obtain ⟨h0, ⟨f1, h1, g1⟩, h2, h3, ⟨f4, h4⟩, ⟨f5, h5⟩, h6, h7, h8, h9, hw⟩ := h
  have hsj := h2 j hj
  refine ⟨⟨(hf.2 _ (by omega)).trans h0, ⟨f1, (hf.2 _ (by omega)).trans h1, g1⟩, h2, h3, ⟨f4, (hf.2 _ (by omega)).trans h4⟩, ⟨f5, (hf.2 _ (by omega)).trans h5⟩, h6.frame (fun a _ _ => hf.2 a (by omega)), h7.frame (fun a _ _ => hf.2 a (by omega)), h8.frame (fun a _ _ => hf.2 a (by omega)), fun k hk => ?_, hw⟩, hf.1, fun a ha => hf.2 a (by omega)⟩
  by_cases hkj : k = j
  · subst hkj
    rw [va_up_self, va_up_self]
    exact hs
  · rw [va_up_ne _ _ hkj, va_up_ne _ _ hkj]
    have hne : sg k ≠ sg j := fun e => hkj (h3 k j hk hj e)
    exact (h9 k hk).frame (fun a _ _ => hf.2 a (by omega))
theorem rM.setObj (h : rM S mb sg wt lg D0 D1 D2 b0 b1 b2 Dw bw) {wt' : Nat} {lg' : Int32} (hw' : wt' ≤ 8) : rM (va_up S.1 mb (some (mO mb wt' lg')), S.2) mb sg wt' lg' D0 D1 D2 b0 b1 b2 Dw bw ∧ mfr S (va_up S.1 mb (some (mO mb wt' lg')), S.2) mb := by
  have hup : ∀ a, a ≠ mb → (va_up S.1 mb (some (mO mb wt' lg')), S.2).1 a = S.1 a := fun a ha => up_ne ha rfl
  obtain ⟨h0, ⟨f1, h1, g1⟩, h2, h3, ⟨f4, h4⟩, ⟨f5, h5⟩, h6, h7, h8, h9, hw⟩ := h
  exact ⟨⟨up_eq, ⟨f1, (hup _ (by omega)).trans h1, g1⟩, h2, h3, ⟨f4, (hup _ (by omega)).trans h4⟩, ⟨f5, (hup _ (by omega)).trans h5⟩, h6.frame (fun a _ _ => hup a (by omega)), h7.frame (fun a _ _ => hup a (by omega)), h8.frame (fun a _ _ => hup a (by omega)), fun k hk => (h9 k hk).frame (fun a _ _ => hup a (by omega)), hw'⟩, rfl, fun a ha => hup a (by omega)⟩
theorem mwr4 {M : mc_M} {z wt : Nat} {lg : Int32} {v : Nat} (h : M mb = some (mO mb wt lg)) : wrV (M, z) (some mb) 4 4 (.int (nI v)) = some (va_up M mb (some (mO mb v lg)), z) := by rw [wr_p h (by simp)]; rfl
theorem mwr5 {M : mc_M} {z wt : Nat} {lg v : Int32} (h : M mb = some (mO mb wt lg)) : wrV (M, z) (some mb) 4 5 (.int v) = some (va_up M mb (some (mO mb wt v)), z) := by rw [wr_p h (by simp)]; rfl
theorem zm_in (a l h : Int64) : f_M_in a l h S = some (if ¬ a < l ∧ ¬ h < a then 1 else 0, S) := by
  unfold f_M_in
  by_cases h0 : a < l
  · rw [if_pos (lc_lt.mpr h0), if_neg (fun q => q.1 h0)]
  · rw [if_neg (fun q => h0 (lc_lt.mp q))]
    by_cases h1 : h < a
    · rw [if_pos (lc_gt.mpr h1), if_neg (fun q => q.2 h1)]
    · rw [if_neg (fun q => h1 (lc_gt.mp q)), if_pos ⟨h0, h1⟩]
theorem in99 (o : Int32) : (¬ o.toInt64 < 0 ∧ ¬ 99 < o.toInt64) ↔ (¬ o < 0 ∧ o < 100) := by
  have e0 : o.toInt64 < 0 ↔ o < 0 := by
    rw [show (0 : Int64) = (0 : Int32).toInt64 from by decide]
    exact Int32.toInt64_lt
  have e1 : 99 < o.toInt64 ↔ 99 < o := by
    rw [show (99 : Int64) = (99 : Int32).toInt64 from by decide]
    exact Int32.toInt64_lt
  rw [e0, e1, Int32.not_lt (a := 99), Int32.le_iff_toInt_le, Int32.lt_iff_toInt_lt (x := o) (y := 100)]
  rw [show (99 : Int32).toInt = 99 from by decide, show (100 : Int32).toInt = 100 from by decide]
  constructor
  · intro ⟨h0, h1⟩; exact ⟨h0, by omega⟩
  · intro ⟨h0, h1⟩; exact ⟨h0, by omega⟩
theorem zm_in99 (o : Int32) : f_M_in o.toInt64 0 99 S = some (if ¬ o < 0 ∧ o < 100 then 1 else 0, S) := by
  rw [zm_in]
  by_cases h : ¬ o < 0 ∧ o < 100
  · rw [if_pos h, if_pos ((in99 o).mpr h)]
  · rw [if_neg h, if_neg (fun q => h ((in99 o).mp q))]
theorem zm_is (h : rM S mb sg wt lg D0 D1 D2 b0 b1 b2 Dw bw) (hP : rPS D0 P) (hw : pWf P) (o f : Int32) (hf : f = 1 ∨ f = 2) : f_M_is mb o f S = some (if (pFind P o f).isSome then 1 else 0, S) := by
  have hf0 : ¬ (0 : Int32) = f := by rcases hf with e | e <;> rw [e] <;> decide
  unfold f_M_is pFind
  rw [zm_in99]
  simp only [obind]
  by_cases hr : ¬ o < 0 ∧ o < 100
  · have hr' := hr
    obtain ⟨h0, h1⟩ := hr
    rw [if_pos hr', if_pos hr', if_neg (by decide)]
    have ho := nI_lt100 h0 h1
    have lk := h.now.ldK ho
    rw [nI_at h0] at lk
    simp only [h.rd0, h.now.rd0, obind, lk]
    have hx := hP.1 _ ho
    cases hp : P.1 o.toNatClampNeg with
    | none =>
      rw [hp] at hx
      rw [show D0.1 o.toNatClampNeg = 0 from hx, if_neg hf0]
      rfl
    | some q =>
      rw [hp] at hx
      rw [hx.1]
      simp only
      by_cases hq : q.1 = f
      · rw [if_pos hq]; simp [hq]
      · rw [if_neg hq]; simp [hq]
  · rw [if_neg hr, if_neg hr, if_pos rfl]
    rfl
theorem zm_there (h : rM S mb sg wt lg D0 D1 D2 b0 b1 b2 Dw bw) (hP : rPS D0 P) (hw : pWf P) (o : Int32) : ∃ r : Int32, f_M_isThere mb o S = some (r, S) ∧ (r = 1 ∧ pHas P o ∨ r = 0 ∧ ¬ pHas P o) := by
  unfold f_M_isThere
  rw [zm_in99]
  simp only [obind]
  by_cases hr : ¬ o < 0 ∧ o < 100
  · have hr' := hr
    obtain ⟨h0, h1⟩ := hr
    rw [if_pos hr', if_neg (by decide)]
    have ho := nI_lt100 h0 h1
    have lk := h.now.ldK ho
    rw [nI_at h0] at lk
    simp only [h.rd0, h.now.rd0, obind, lk]
    have hx := hP.1 _ ho
    cases hp : P.1 o.toNatClampNeg with
    | none =>
      rw [hp] at hx
      rw [if_pos (show D0.1 o.toNatClampNeg = 0 from hx)]
      exact ⟨0, rfl, Or.inr ⟨rfl, fun q => q.2.2 hp⟩⟩
    | some q =>
      rw [hp] at hx
      have hl := hw.len ho hp
      rw [if_neg (by rw [hx.1]; rcases hl.2.2.1 with e | e <;> rw [e] <;> decide)]
      exact ⟨1, rfl, Or.inl ⟨rfl, h0, h1, fun e => by rw [hp] at e; cases e⟩⟩
  · rw [if_neg hr, if_pos rfl]
    exact ⟨0, rfl, Or.inr ⟨rfl, fun q => hr ⟨q.1, q.2.1⟩⟩⟩
theorem zm_isValue (h : rM S mb sg wt lg D0 D1 D2 b0 b1 b2 Dw bw) (hP : rPS D0 P) (hw : pWf P) (sort v : Int32) : f_M_isValue mb sort v S = some (if (pVal P sort v).isSome then 1 else 0, S) := by
  unfold f_M_isValue pVal
  by_cases h0 : sort = 0
  · rw [if_pos h0, if_pos h0]; rfl
  · rw [if_neg h0, if_neg h0]
    by_cases h1 : sort = 1
    · rw [if_pos h1, if_pos h1]; rfl
    · rw [if_neg h1, if_neg h1]
      by_cases h2 : sort = 2
      · rw [if_pos h2, if_pos h2]
        obtain ⟨r, e, hr⟩ := zm_there h hP hw v
        simp only [h.rc, obind, e]
        rcases hr with ⟨rfl, h3⟩ | ⟨rfl, h3⟩
        · rw [if_neg (by decide), if_pos h3]; rfl
        · rw [if_pos rfl, if_neg h3]; rfl
      · rw [if_neg h2, if_neg h2]; rfl
theorem i_ne (v : Int32) : ¬ v.toInt64 = pNIL := by
  intro h
  have h1 := congrArg Int64.toInt h
  rw [Int32.toInt_toInt64] at h1
  have h2 := v.toInt_lt
  have h3 : (pNIL : Int64).toInt = 1099511627776 := by decide
  rw [h3] at h1
  omega
theorem q_ne : ∀ o, o < 100 → ¬ pNIL + 1 + (nI o).toInt64 = pNIL := by decide +kernel
theorem pVal_nil {sort v : Int32} {x : Int64} (h : pVal P sort v = some x) : (sort = 0 ↔ x = pNIL) ∧ ∀ S' : mc_S, f_M_value sort v S' = some (x, S') := by
  unfold pVal at h
  unfold f_M_value
  by_cases h0 : sort = 0
  · rw [if_pos h0] at h; cases h
    exact ⟨⟨fun _ => rfl, fun _ => h0⟩, fun S' => by rw [if_pos h0]; rfl⟩
  · rw [if_neg h0] at h
    by_cases h1 : sort = 1
    · rw [if_pos h1] at h; cases h
      exact ⟨⟨fun e => absurd e h0, fun e => absurd e (i_ne v)⟩, fun S' => by rw [if_neg h0, if_pos h1]⟩
    · rw [if_neg h1] at h
      by_cases h2 : sort = 2
      · rw [if_pos h2] at h
        by_cases h3 : pHas P v
        · rw [if_pos h3] at h
          cases h
          refine ⟨⟨fun e => absurd e h0, fun e => ?_⟩, fun S' => by rw [if_neg h0, if_neg h1, pN1]⟩
          have := q_ne _ (nI_lt100 h3.1 h3.2.1)
          rw [nI_at h3.1] at this
          exact absurd e this
        · rw [if_neg h3] at h; cases h
      · rw [if_neg h2] at h; cases h
theorem pFind_eq {o f : Int32} {es : List pe} (h : pFind P o f = some es) : ∃ n, n < 100 ∧ o = nI n ∧ P.1 n = some (f, es) := by
  unfold pFind at h
  by_cases hr : ¬ o < 0 ∧ o < 100
  · rw [if_pos hr] at h
    refine ⟨o.toNatClampNeg, nI_lt100 hr.1 hr.2, (nI_at hr.1).symm, ?_⟩
    cases hp : P.1 o.toNatClampNeg with
    | none => rw [hp] at h; cases h
    | some q =>
      rw [hp] at h
      simp only at h
      by_cases hq : q.1 = f
      · rw [if_pos hq] at h
        cases h
        rw [← hq]
      · rw [if_neg hq] at h; cases h
  · rw [if_neg hr] at h; cases h
theorem rPS.upd {D D' : rD} (h : rPS D P) (hw : pWf P) {n : Nat} {f : Int32} {es : List pe} (hn : n < 100) (hK : ∀ k, k < 100 → k ≠ n → D'.1 k = D.1 k) (hZ : ∀ k, k < 100 → k ≠ n → D'.2.1 k = D.2.1 k) (hN : ∀ k, k < 800 → (k < 8 * n ∨ 8 * n + 8 ≤ k) → D'.2.2.1 k = D.2.2.1 k) (hL : ∀ k, k < 2000 → (k < 20 * n ∨ 20 * n + 20 ≤ k) → D'.2.2.2.2.1 k = D.2.2.2.2.1 k) (hR : D'.2.2.2.1 = D.2.2.2.1 ∧ D'.2.2.2.2.2 = D.2.2.2.2.2) (ho : rOb (D'.1 n) (D'.2.1 n) (fun k => D'.2.2.1 (8 * n + k)) (fun k => D'.2.2.2.2.1 (20 * n + k)) (some (f, es))) : rPS D' (va_up P.1 n (some (f, es)), P.2) := by
  refine ⟨fun o ho' => ?_, ?_⟩
  · show rOb _ _ _ _ (va_up P.1 n (some (f, es)) o)
    by_cases hon : o = n
    · subst hon
      rw [va_up_self]
      exact ho
    · rw [va_up_ne _ _ hon, hK o ho' hon, hZ o ho' hon]
      have hx := h.1 o ho'
      cases hp : P.1 o with
      | none => rw [hp] at hx; exact hx
      | some q =>
        rw [hp] at hx
        obtain ⟨h1, h2, h3⟩ := hx
        have hl := hw.len ho' hp
        refine ⟨h1, h2, fun k z hk => ?_⟩
        have hk1 : k < q.2.length := (List.getElem?_eq_some_iff.mp hk).1
        obtain ⟨g1, g2⟩ := h3 k z hk
        refine ⟨?_, fun e => ?_⟩
        · show D'.2.2.2.2.1 (20 * o + k) = z.2
          rw [hL _ (by omega) (by omega)]
          exact g1
        · have hl8 := hl.2.1 e
          show D'.2.2.1 (8 * o + k) = z.1
          rw [hN _ (by omega) (by omega)]
          exact g2 e
  · show rRt D'.2.2.2.1 D'.2.2.2.2.2.1 D'.2.2.2.2.2.2 P.2
    rw [hR.1, hR.2]
    exact h.2
end RM
