section RP2
variable {S : mc_S} {mb : Nat} {X : pX}
theorem zm_push (h : rX S mb X) (hw : pWf X.1) (o sort v : Int32) : ∃ S', f_M_push mb o sort v S = some ((pPush X.1 o sort v).1, S') ∧ rX S' mb ((pPush X.1 o sort v).2, X.2) ∧ mfr S S' mb := by
  obtain ⟨sg, D0, D1, D2, b0, b1, b2, Dw, bw, hM, hP, h1, h2, h3⟩ := id h
  have hi := zm_is hM hP hw o 2 (Or.inr rfl)
  have hv := zm_isValue hM hP hw sort v
  unfold pPush
  rcases is_cases (P := X.1) (o := o) (f := 2) with ⟨e1, e2⟩ | ⟨es, e1, e2⟩
  · refine ⟨S, ?_, by rw [e1]; cases pVal X.1 sort v <;> exact h, mfr.rf⟩
    simp only [f_M_push, hM.rc, obind, hi]
    rw [e2, if_pos rfl, e1]
    cases pVal X.1 sort v <;> rfl
  · rw [e2] at hi
    rcases va_cases (P := X.1) (sort := sort) (v := v) with ⟨w1, w2⟩ | ⟨x, w1, w2⟩
    · refine ⟨S, ?_, by rw [w1]; exact h, mfr.rf⟩
      simp only [f_M_push, hM.rc, obind, hi, hv]
      rw [w2, if_neg (by decide), if_pos rfl, w1]
    · rw [w2] at hv
      rw [e1, w1]
      obtain ⟨hnil, hval⟩ := pVal_nil w1
      obtain ⟨n, hn, rfl, hp⟩ := pFind_eq e1
      have hx := hP.1 n hn
      rw [hp] at hx
      obtain ⟨g1, g2, g3⟩ := hx
      have hl := hw.len hn hp
      have hl20 : es.length ≤ 20 := hl.1
      have lz := hM.now.ldZ hn
      rw [show D0.2.1 n = nI es.length from g2] at lz
      simp only [pPut_nI hn]
      by_cases hf : 20 ≤ es.length
      · rw [if_pos hf]
        refine ⟨S, ?_, h, mfr.rf⟩
        simp only [f_M_push, hM.rc, hM.rd0, hM.now.rd1, obind, hi, hv, lz]
        rw [if_neg (by decide), if_neg (by decide), if_pos (show nI es.length = 20 from by rw [show es.length = 20 by omega]; rfl)]
      · rw [if_neg hf]
        obtain ⟨S1, a1, a2, a3⟩ := hM.now.stLL (k := 20 * n + es.length) (v := x) (by omega)
        obtain ⟨hM1, -⟩ := hM.setNow a3 a2
        obtain ⟨S2, c1, c2, c3⟩ := hM1.now.stZ (k := n) (v := nI (es.length + 1)) hn
        obtain ⟨hM2, -⟩ := hM1.setNow c3 c2
        have hps : rPS (D0.1, va_up D0.2.1 n (nI (es.length + 1)), D0.2.2.1, D0.2.2.2.1, va_up D0.2.2.2.2.1 (20 * n + es.length) x, D0.2.2.2.2.2) (va_up X.1.1 n (some (2, es ++ [(0, x)])), X.1.2) := by
          refine hP.upd hw hn (fun k _ _ => rfl) (fun k _ hk => va_up_ne _ _ hk) (fun k _ hk => rfl) (fun k _ hk => va_up_ne _ _ (by omega)) ⟨rfl, rfl⟩ ⟨g1, ?_, fun k z hz => ?_⟩
          · show va_up D0.2.1 n (nI (es.length + 1)) n = nI (es ++ [(0, x)]).length
            rw [va_up_self]
            simp
          · refine ⟨?_, fun e => absurd e (show ¬ (2 : Int32) = 1 by decide)⟩
            by_cases hk' : k < es.length
            · rw [List.getElem?_append_left hk'] at hz
              show va_up D0.2.2.2.2.1 (20 * n + es.length) x (20 * n + k) = z.2
              rw [va_up_ne _ _ (by omega)]
              exact (g3 k z hz).1
            · have hkl : k < (es ++ [((0 : Int32), x)]).length := (List.getElem?_eq_some_iff.mp hz).1
              have : k = es.length := by simp at hkl; omega
              subst this
              simp at hz
              subst hz
              exact va_up_self _ _ _
        obtain ⟨r1, r2⟩ := rX.now hM h1 h2 h3 (a3.tr c3) c2 hps
        refine ⟨S2, ?_, r1, r2⟩
        simp only [f_M_push, hM.rc, hM.rd0, hM.now.rd1, hM.now.rd4, obind, hi, hv, lz, hval]
        rw [if_neg (by decide), if_neg (by decide), if_neg (show ¬ nI es.length = 20 from fun e => hf (by have := (nI_eqi (b := 20) (by omega) (by decide)).mp e; omega))]
        rw [show (20 : Int32) = nI 20 from rfl, nI_mul, nI_ad, a1]
        simp only [obind, hM1.rd0, hM1.now.rd1]
        rw [hM1.now.ldZ hn]
        simp only [obind]
        rw [show D0.2.1 n = nI es.length from g2, nI_s, c1]
        simp only [obind, hM2.rd0, hM2.now.rd1]
        rw [hM2.now.ldZ hn]
        simp only [obind]
        rw [va_up_self]
theorem zm_pop (h : rX S mb X) (hw : pWf X.1) (o : Int32) : ∃ S', f_M_pop mb o S = some ((pPop X.1 o).1, S') ∧ rX S' mb ((pPop X.1 o).2, X.2) ∧ mfr S S' mb := by
  obtain ⟨sg, D0, D1, D2, b0, b1, b2, Dw, bw, hM, hP, h1, h2, h3⟩ := id h
  have hi := zm_is hM hP hw o 2 (Or.inr rfl)
  unfold pPop
  rcases is_cases (P := X.1) (o := o) (f := 2) with ⟨e1, e2⟩ | ⟨es, e1, e2⟩
  · refine ⟨S, ?_, by rw [e1]; exact h, mfr.rf⟩
    simp only [f_M_pop, hM.rc, obind, hi]
    rw [e2, if_pos rfl, e1]
    rfl
  · rw [e2] at hi
    rw [e1]
    obtain ⟨n, hn, rfl, hp⟩ := pFind_eq e1
    have hx := hP.1 n hn
    rw [hp] at hx
    obtain ⟨g1, g2, g3⟩ := hx
    have hl := hw.len hn hp
    have hl20 : es.length ≤ 20 := hl.1
    have lz := hM.now.ldZ hn
    rw [show D0.2.1 n = nI es.length from g2] at lz
    simp only [pPut_nI hn]
    cases hlast : es.getLast? with
    | none =>
      have hnil : es = [] := List.getLast?_eq_none_iff.mp hlast
      subst hnil
      refine ⟨S, ?_, h, mfr.rf⟩
      simp only [f_M_pop, hM.rc, hM.rd0, hM.now.rd1, obind, hi, lz]
      rw [if_neg (by decide), if_pos (show nI ([] : List pe).length = 0 from rfl)]
      rfl
    | some q =>
      obtain ⟨ys, hys⟩ := List.getLast?_eq_some_iff.mp hlast
      subst hys
      have hlen : (ys ++ [q]).length = ys.length + 1 := by simp
      rw [hlen] at lz hl20
      obtain ⟨S1, a1, a2, a3⟩ := hM.now.stZ (k := n) (v := nI ys.length) hn
      obtain ⟨hM1, -⟩ := hM.setNow a3 a2
      have hps : rPS (D0.1, va_up D0.2.1 n (nI ys.length), D0.2.2) (va_up X.1.1 n (some (2, ys)), X.1.2) := by
        refine hP.upd hw hn (fun k _ _ => rfl) (fun k _ hk => va_up_ne _ _ hk) (fun k _ hk => rfl) (fun k _ hk => rfl) ⟨rfl, rfl⟩ ⟨g1, va_up_self _ _ _, fun k z hz => ?_⟩
        have hk1 : k < ys.length := (List.getElem?_eq_some_iff.mp hz).1
        exact ⟨(g3 k z (by rw [List.getElem?_append_left hk1]; exact hz)).1, fun e => absurd e (show ¬ (2 : Int32) = 1 by decide)⟩
      obtain ⟨r1, r2⟩ := rX.now hM h1 h2 h3 a3 a2 hps
      refine ⟨S1, ?_, by simpa using r1, r2⟩
      simp only [f_M_pop, hM.rc, hM.rd0, hM.now.rd1, obind, hi, lz]
      rw [if_neg (by decide), if_neg (nI_ne0 (by omega) (by omega)), nI_p, a1]
      simp only [obind, hM1.rd0, hM1.now.rd1, hM1.now.rd4]
      rw [hM1.now.ldZ hn]
      simp only [obind]
      rw [va_up_self, show (20 : Int32) = nI 20 from rfl, nI_mul, nI_ad, hM1.now.ldLL (by omega)]
      have := (g3 ys.length q (by simp)).1
      simp only [obind]
      rw [show D0.2.2.2.2.1 (20 * n + ys.length) = q.2 from this]
theorem zm_inK {k : Int32} {n : Nat} (hn : n < 2 ^ 31) : f_M_in k.toInt64 0 (nI n - 1).toInt64 S = some (@ite _ (pIn k n) (Classical.propDecidable _) 1 0, S) := by
  rw [zm_in]
  have e0 : k.toInt64 < 0 ↔ k < 0 := by
    rw [show (0 : Int64) = (0 : Int32).toInt64 from by decide]
    exact Int32.toInt64_lt
  have e1 : (nI n - 1).toInt64 < k.toInt64 ↔ nI n - 1 < k := Int32.toInt64_lt
  have hiff : (¬ k.toInt64 < 0 ∧ ¬ (nI n - 1).toInt64 < k.toInt64) ↔ pIn k n := by
    rw [e0, e1]
    unfold pIn
    constructor
    · intro ⟨q0, q1⟩
      refine ⟨q0, ?_⟩
      rw [← nI_at q0] at q1
      cases n with
      | zero =>
        exfalso
        apply q1
        rw [show nI 0 - 1 = -1 from by decide, Int32.lt_iff_toInt_lt, nI_toInt (Int32.toNatClampNeg_lt k), show (-1 : Int32).toInt = -1 from by decide]
        omega
      | succ n =>
        rw [nI_p] at q1
        rcases Nat.lt_or_ge k.toNatClampNeg (n + 1) with q | q
        · exact q
        · exact absurd ((nI_lti (by omega) (Int32.toNatClampNeg_lt k)).mpr (by omega)) q1
    · intro ⟨q0, q1⟩
      refine ⟨q0, fun q2 => ?_⟩
      rw [← nI_at q0] at q2
      cases n with
      | zero => omega
      | succ n =>
        rw [nI_p] at q2
        have := (nI_lti (by omega) (Int32.toNatClampNeg_lt k)).mp q2
        omega
  by_cases h : pIn k n
  · rw [if_pos h, if_pos (hiff.mpr h)]
  · rw [if_neg h, if_neg (fun q => h (hiff.mp q))]
theorem zm_put (h : rX S mb X) (hw : pWf X.1) (o k sort v : Int32) : ∃ S', f_M_put mb o k sort v S = some ((pPutAt X.1 o k sort v).1, S') ∧ rX S' mb ((pPutAt X.1 o k sort v).2, X.2) ∧ mfr S S' mb := by
  obtain ⟨sg, D0, D1, D2, b0, b1, b2, Dw, bw, hM, hP, h1, h2, h3⟩ := id h
  have hi := zm_is hM hP hw o 2 (Or.inr rfl)
  have hv := zm_isValue hM hP hw sort v
  unfold pPutAt
  rcases is_cases (P := X.1) (o := o) (f := 2) with ⟨e1, e2⟩ | ⟨es, e1, e2⟩
  · refine ⟨S, ?_, by rw [e1]; cases pVal X.1 sort v <;> exact h, mfr.rf⟩
    simp only [f_M_put, hM.rc, obind, hi]
    rw [e2, if_pos rfl, e1]
    cases pVal X.1 sort v <;> rfl
  · rw [e2] at hi
    rw [e1]
    obtain ⟨n, hn, rfl, hp⟩ := pFind_eq e1
    have hx := hP.1 n hn
    rw [hp] at hx
    obtain ⟨g1, g2, g3⟩ := hx
    have hl := hw.len hn hp
    have hl20 : es.length ≤ 20 := hl.1
    have lz := hM.now.ldZ hn
    rw [show D0.2.1 n = nI es.length from g2] at lz
    have hin := zm_inK (S := S) (k := k) (n := es.length) (by omega)
    by_cases hk : pIn k es.length
    · rw [if_pos hk] at hin
      rcases va_cases (P := X.1) (sort := sort) (v := v) with ⟨w1, w2⟩ | ⟨x, w1, w2⟩
      · refine ⟨S, ?_, by rw [w1]; exact h, mfr.rf⟩
        simp only [f_M_put, hM.rc, hM.rd0, hM.now.rd1, obind, hi, hv, lz, hin]
        rw [w2, if_neg (by decide), if_neg (by decide), if_pos rfl, w1]
      · rw [w2] at hv
        rw [w1]
        obtain ⟨hnil, hval⟩ := pVal_nil w1
        simp only [pPut_nI hn]
        rw [if_pos hk]
        have hk2 := hk.2
        obtain ⟨S1, a1, a2, a3⟩ := hM.now.stLL (k := 20 * n + k.toNatClampNeg) (v := x) (by omega)
        have hps : rPS (D0.1, D0.2.1, D0.2.2.1, D0.2.2.2.1, va_up D0.2.2.2.2.1 (20 * n + k.toNatClampNeg) x, D0.2.2.2.2.2) (va_up X.1.1 n (some (2, es.set k.toNatClampNeg (0, x))), X.1.2) := by
          refine hP.upd hw hn (fun k _ _ => rfl) (fun k _ hk => rfl) (fun k _ hk => rfl) (fun k _ hk => va_up_ne _ _ (by omega)) ⟨rfl, rfl⟩ ⟨g1, ?_, fun j z hz => ⟨?_, fun e => absurd e (show ¬ (2 : Int32) = 1 by decide)⟩⟩
          · show D0.2.1 n = nI (es.set k.toNatClampNeg (0, x)).length
            rw [List.length_set]
            exact g2
          · rw [List.getElem?_set] at hz
            by_cases hjk : k.toNatClampNeg = j
            · rw [if_pos hjk, if_pos hk2] at hz
              subst hjk
              cases hz
              exact va_up_self _ _ _
            · rw [if_neg hjk] at hz
              show va_up D0.2.2.2.2.1 (20 * n + k.toNatClampNeg) x (20 * n + j) = z.2
              rw [va_up_ne _ _ (by omega)]
              exact (g3 j z hz).1
        obtain ⟨r1, r2⟩ := rX.now hM h1 h2 h3 a3 a2 hps
        refine ⟨S1, ?_, r1, r2⟩
        simp only [f_M_put, hM.rc, hM.rd0, hM.now.rd1, hM.now.rd4, obind, hi, hv, lz, hin, hval]
        rw [if_neg (by decide), if_neg (by decide), if_neg (by decide)]
        have hka := nI_at hk.1
        rw [show (20 : Int32) * nI n + k = nI (20 * n + k.toNatClampNeg) from by rw [← nI_ad, hka, ← nI_mul]; rfl, a1]
        rfl
    · rw [if_neg hk] at hin
      refine ⟨S, ?_, ?_, mfr.rf⟩
      · simp only [f_M_put, hM.rc, hM.rd0, hM.now.rd1, obind, hi, lz, hin]
        rw [if_neg (by decide), if_pos trivial]
        cases pVal X.1 sort v with
        | none => rfl
        | some x => simp only; rw [if_neg hk]
      · cases pVal X.1 sort v with
        | none => exact h
        | some x => simp only; rw [if_neg hk]; exact h
theorem zm_item (h : rX S mb X) (hw : pWf X.1) (o k : Int32) : f_M_item mb o k S = some (pItem X.1 o k, S) := by
  obtain ⟨sg, D0, D1, D2, b0, b1, b2, Dw, bw, hM, hP, h1, h2, h3⟩ := h
  have hi := zm_is hM hP hw o 2 (Or.inr rfl)
  unfold pItem
  simp only [f_M_item, hM.rc, obind, hi]
  rcases is_cases (P := X.1) (o := o) (f := 2) with ⟨e1, e2⟩ | ⟨es, e1, e2⟩
  · rw [e2, if_pos rfl, e1]; rfl
  · rw [e2, if_neg (by decide), e1]
    obtain ⟨n, hn, rfl, hp⟩ := pFind_eq e1
    have hx := hP.1 n hn
    rw [hp] at hx
    obtain ⟨g1, g2, g3⟩ := hx
    have hl := hw.len hn hp
    have hl20 : es.length ≤ 20 := hl.1
    have lz := hM.now.ldZ hn
    rw [show D0.2.1 n = nI es.length from g2] at lz
    have hin := zm_inK (S := S) (k := k) (n := es.length) (by omega)
    simp only [hM.rd0, hM.now.rd1, hM.now.rd4, obind, lz, hin]
    by_cases hk : pIn k es.length
    · rw [if_pos hk, if_neg (by decide), if_pos hk]
      have hk2 : k.toNatClampNeg < es.length := hk.2
      have hka := nI_at hk.1
      rw [show (20 : Int32) * nI n + k = nI (20 * n + k.toNatClampNeg) from by rw [← nI_ad, hka, ← nI_mul]; rfl, hM.now.ldLL (by omega)]
      have := (g3 _ es[k.toNatClampNeg] (List.getElem?_eq_getElem hk2)).1
      simp only [obind, List.getD_eq_getElem?_getD, List.getElem?_eq_getElem hk2, Option.getD_some]
      rw [show D0.2.2.2.2.1 (20 * n + k.toNatClampNeg) = _ from this]
    · rw [if_neg hk, if_pos rfl, if_neg hk]
      rfl
theorem zm_kind (h : rX S mb X) (hw : pWf X.1) (o : Int32) : f_M_kind mb o S = some (pKind X.1 o, S) := by
  obtain ⟨sg, D0, D1, D2, b0, b1, b2, Dw, bw, hM, hP, h1, h2, h3⟩ := h
  unfold f_M_kind pKind
  rw [zm_in99]
  simp only [obind]
  by_cases hr : ¬ o < 0 ∧ o < 100
  · have hr' := hr
    obtain ⟨h0, h1⟩ := hr
    rw [if_pos hr', if_pos hr', if_neg (by decide)]
    have ho := nI_lt100 h0 h1
    have lk := hM.now.ldK ho
    rw [nI_at h0] at lk
    simp only [hM.rd0, hM.now.rd0, obind, lk]
    have hx := hP.1 _ ho
    cases hp : X.1.1 o.toNatClampNeg with
    | none => rw [hp] at hx; rw [show D0.1 o.toNatClampNeg = 0 from hx]
    | some q => rw [hp] at hx; rw [hx.1]
  · rw [if_neg hr, if_neg hr, if_pos rfl]
theorem zm_size (h : rX S mb X) (hw : pWf X.1) (o : Int32) : f_M_size mb o S = some (pSize X.1 o, S) := by
  obtain ⟨sg, D0, D1, D2, b0, b1, b2, Dw, bw, hM, hP, h1, h2, h3⟩ := h
  obtain ⟨r, e, hr⟩ := zm_there hM hP hw o
  unfold f_M_size pSize
  simp only [hM.rc, obind, e]
  rcases hr with ⟨rfl, q0, q1, q2⟩ | ⟨rfl, hno⟩
  · rw [if_neg (by decide), if_pos ⟨q0, q1⟩]
    have ho := nI_lt100 q0 q1
    have lz := hM.now.ldZ ho
    rw [nI_at q0] at lz
    simp only [hM.rd0, hM.now.rd1, obind, lz]
    have hx := hP.1 _ ho
    cases hp : X.1.1 o.toNatClampNeg with
    | none => exact absurd hp q2
    | some q => rw [hp] at hx; rw [hx.2.1]
  · rw [if_pos rfl]
    by_cases hr : ¬ o < 0 ∧ o < 100
    · rw [if_pos hr]
      cases hp : X.1.1 o.toNatClampNeg with
      | none => rfl
      | some q => exact absurd ⟨hr.1, hr.2, fun e => by rw [hp] at e; cases e⟩ hno
    · rw [if_neg hr]
theorem zm_make_g (h : rX S mb X) (hw : pWf X.1) (row : Int32) : ∀ (d k n : Nat), k + d = 100 → d < n → ∃ S', g_M_make mb n row (nI k) S = some (if pFree X.1 d k < 100 then nI (pFree X.1 d k) else -3, S') ∧ rX S' mb (if pFree X.1 d k < 100 then ((va_up X.1.1 (pFree X.1 d k) (some (if row = 0 then 1 else 2, [])), X.1.2), X.2) else X) ∧ mfr S S' mb := by
  obtain ⟨sg, D0, D1, D2, b0, b1, b2, Dw, bw, hM, hP, h1, h2, h3⟩ := id h
  intro d
  induction d with
  | zero =>
    intro k n hk hn
    obtain ⟨n, rfl⟩ : ∃ q, n = q + 1 := ⟨n - 1, by omega⟩
    obtain rfl : k = 100 := by omega
    refine ⟨S, ?_, by rw [if_neg (by show ¬ 100 < 100; omega)]; exact h, mfr.rf⟩
    rw [if_neg (by show ¬ 100 < 100; omega)]
    show q_M_make_0 mb (g_M_make mb n) row (nI 100) S = _
    simp only [q_M_make_0]
    rw [if_pos (show (100 : Int32) ≤ nI 100 from by decide)]
  | succ d ih =>
    intro k n hk hn
    obtain ⟨n, rfl⟩ : ∃ q, n = q + 1 := ⟨n - 1, by omega⟩
    have hk1 : k < 100 := by omega
    have hx := hP.1 k hk1
    have lk := hM.now.ldK hk1
    have hcond : ¬ (100 : Int32) ≤ nI k := fun q => by have := (nI_lei (a := 100) (by decide) (by omega)).mp q; omega
    by_cases hq : X.1.1 k = none
    · have hfree : pFree X.1 (d + 1) k = k := by show (if X.1.1 k = none then k else _) = k; rw [if_pos hq]
      rw [hfree, if_pos hk1, if_pos hk1]
      rw [hq] at hx
      obtain ⟨S1, a1, a2, a3⟩ := hM.now.stK (k := k) (v := if row = 0 then 1 else 2) hk1
      obtain ⟨hM1, -⟩ := hM.setNow a3 a2
      obtain ⟨S2, c1, c2, c3⟩ := hM1.now.stZ (k := k) (v := 0) hk1
      have hps : rPS (va_up D0.1 k (if row = 0 then 1 else 2), va_up D0.2.1 k 0, D0.2.2) (va_up X.1.1 k (some (if row = 0 then 1 else 2, [])), X.1.2) := by
        refine hP.upd hw hk1 (fun j _ hj => va_up_ne _ _ hj) (fun j _ hj => va_up_ne _ _ hj) (fun j _ _ => rfl) (fun j _ _ => rfl) ⟨rfl, rfl⟩ ⟨va_up_self _ _ _, va_up_self _ _ _, fun j z hz => by simp at hz⟩
      obtain ⟨r1, r2⟩ := rX.now hM h1 h2 h3 (a3.tr c3) c2 hps
      refine ⟨S2, ?_, r1, r2⟩
      show q_M_make_0 mb (g_M_make mb n) row (nI k) S = _
      simp only [q_M_make_0, hM.rd0, hM.now.rd0, obind, lk]
      rw [if_neg hcond, if_pos (show D0.1 k = 0 from hx)]
      by_cases hr : row = 0
      · rw [if_pos hr] at a1 ⊢
        rw [a1]
        simp only [obind, hM1.rd0, hM1.now.rd1, c1]
      · rw [if_neg hr] at a1 ⊢
        rw [a1]
        simp only [obind, hM1.rd0, hM1.now.rd1, c1]
    · have hfree : pFree X.1 (d + 1) k = pFree X.1 d (k + 1) := by show (if X.1.1 k = none then k else _) = _; rw [if_neg hq]
      rw [hfree]
      obtain ⟨S', g1, g2, g3⟩ := ih (k + 1) n (by omega) (by omega)
      refine ⟨S', ?_, g2, g3⟩
      show q_M_make_0 mb (g_M_make mb n) row (nI k) S = _
      simp only [q_M_make_0, hM.rd0, hM.now.rd0, obind, lk]
      cases hp : X.1.1 k with
      | none => exact absurd hp hq
      | some q =>
        rw [hp] at hx
        have hl := hw.len hk1 hp
        rw [if_neg hcond, if_neg (by rw [hx.1]; rcases hl.2.2.1 with e | e <;> rw [e] <;> decide), nI_s]
        exact g1
theorem zm_make (h : rX S mb X) (hw : pWf X.1) (row : Int32) : ∃ S', f_M_make mb row S = some ((pMake X.1 row).1, S') ∧ rX S' mb ((pMake X.1 row).2, X.2) ∧ mfr S S' mb := by
  obtain ⟨S', g1, g2, g3⟩ := zm_make_g h hw row 100 0 5000 (by omega) (by omega)
  refine ⟨S', ?_, ?_, g3⟩
  · unfold f_M_make pMake
    rw [show (0 : Int32) = nI 0 from rfl, g1]
    split <;> rfl
  · unfold pMake
    split at g2
    · rename_i hq
      rw [if_pos hq]
      exact g2
    · rename_i hq
      rw [if_neg hq]
      exact g2
theorem zm_count_g {t : Nat} {D : rD} {b : Int32} {P : pS} (h : rSt S t D b) (hP : rPS D P) (hw : pWf P) (x1 : Int32) : ∀ (d k n c : Nat), k + d = 100 → d < n → g_M_count mb n x1 (nI c) (some (t + 1)) (nI 100) (nI k) S = some (nI (c + ((List.range 100).drop k).countP (fun o => (P.1 o).isSome)), S) := by
  intro d
  induction d with
  | zero =>
    intro k n c hk hn
    obtain ⟨n, rfl⟩ : ∃ q, n = q + 1 := ⟨n - 1, by omega⟩
    obtain rfl : k = 100 := by omega
    show q_M_count_0 mb (g_M_count mb n) x1 (nI c) (some (t + 1)) (nI 100) (nI 100) S = _
    simp only [q_M_count_0]
    rw [if_pos (by decide), List.drop_eq_nil_of_le (by simp)]
    rfl
  | succ d ih =>
    intro k n c hk hn
    obtain ⟨n, rfl⟩ : ∃ q, n = q + 1 := ⟨n - 1, by omega⟩
    have hk1 : k < 100 := by omega
    have hk2 : k < (List.range 100).length := by simp; omega
    have hd1 : (List.range 100).drop k = k :: (List.range 100).drop (k + 1) := by
      rw [List.drop_eq_getElem_cons hk2]
      simp
    have hx := hP.1 k hk1
    show q_M_count_0 mb (g_M_count mb n) x1 (nI c) (some (t + 1)) (nI 100) (nI k) S = _
    simp only [q_M_count_0, h.ldK hk1, obind]
    rw [if_neg (fun q => by have := (nI_lei (by decide) (by omega)).mp q; omega), hd1, List.countP_cons]
    cases hp : P.1 k with
    | none =>
      rw [hp] at hx
      rw [if_pos (show D.1 k = 0 from hx), nI_s, ih (k + 1) n c (by omega) (by omega), if_neg (by simp)]
      rfl
    | some q =>
      rw [hp] at hx
      have hl := hw.len hk1 hp
      rw [if_neg (by rw [hx.1]; rcases hl.2.2.1 with e | e <;> rw [e] <;> decide), nI_s, nI_s, ih (k + 1) n (c + 1) (by omega) (by omega), if_pos (by simp)]
      congr 3
      omega
theorem zm_count0 {sg : Nat → Nat} {wt : Nat} {lg : Int32} {D0 D1 D2 : rD} {b0 b1 b2 : Int32} {Dw : Nat → rD} {bw : Nat → Int32} (hM : rM S mb sg wt lg D0 D1 D2 b0 b1 b2 Dw bw) {r : Int32 × mc_S} (w : Int32) (hg : g_M_count mb 5000 w (nI 0) (some (mb + 1 + 1)) (nI 100) (nI 0) S = some r) : ((rdR S (some mb) 4 0).bind fun v1 => (rdR S v1 5 0).bind fun v2 => (alen S v2 0).bind fun v3 => g_M_count mb 5000 w 0 v2 v3 0 S) = some r := by
  rw [hM.rd0, obind, hM.now.rd0, obind, alen_at hM.now.2.1, obind]
  exact hg
theorem zm_count (h : rX S mb X) (hw : pWf X.1) (w : Int32) : f_M_count mb w S = some (pCount X w, S) := by
  obtain ⟨sg, D0, D1, D2, b0, b1, b2, Dw, bw, hM, hP, h1, h2, h3⟩ := h
  have hc := zm_count0 hM w (zm_count_g (mb := mb) hM.now hP hw w 100 0 5000 0 (by omega) (by omega))
  rw [List.drop_zero, Nat.zero_add] at hc
  obtain ⟨rs, p1, p2, p3⟩ := hP.2
  unfold f_M_count pCount
  by_cases h0 : w = 0
  · rw [if_pos h0, if_pos h0, hc]
    rfl
  · rw [if_neg h0, if_neg h0]
    simp only [hM.rd0, hM.rd4, hM.rd5, hM.now.rd6, obind]
    by_cases h1 : w = 1
    · rw [if_pos h1, if_pos h1, p2, p1.length_eq]
    · rw [if_neg h1, if_neg h1]
      by_cases h2 : w = 2
      · rw [if_pos h2, if_pos h2]
      · rw [if_neg h2, if_neg h2]
        by_cases h3 : w = 3
        · rw [if_pos h3, if_pos h3]
        · rw [if_neg h3, if_neg h3]
end RP2
