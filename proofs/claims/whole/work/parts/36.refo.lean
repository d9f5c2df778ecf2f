section RO
variable {S : mc_S} {mb : Nat} {X : pX}
theorem rX.now {sg : Nat → Nat} {D0 D1 D2 : rD} {b0 b1 b2 : Int32} {Dw : Nat → rD} {bw : Nat → Int32} {S' : mc_S} {D : rD} {P' : pS} (hM : rM S mb sg X.2.2.1.length X.2.2.2 D0 D1 D2 b0 b1 b2 Dw bw) (h1 : rPS D1 (pKept X)) (h2 : rPS D2 X.2.1) (h3 : ∀ i q, X.2.2.1[i]? = some q → rPS (Dw i) q.1 ∧ bw i = nI q.2) (hf : tfr S S' (mb + 1)) (hs : rSt S' (mb + 1) D b0) (hp : rPS D P') : rX S' mb (P', X.2) ∧ mfr S S' mb := by
  obtain ⟨g1, g2⟩ := hM.setNow hf hs
  exact ⟨⟨sg, D, D1, D2, b0, b1, b2, Dw, bw, g1, hp, h1, h2, h3⟩, g2⟩
theorem is_cases {P : pS} {o f : Int32} : (pFind P o f = none ∧ (if (pFind P o f).isSome then (1 : Int32) else 0) = 0) ∨ ∃ es, pFind P o f = some es ∧ (if (pFind P o f).isSome then (1 : Int32) else 0) = 1 := by
  cases h : pFind P o f with
  | none => exact Or.inl ⟨rfl, rfl⟩
  | some es => exact Or.inr ⟨es, rfl, rfl⟩
theorem va_cases {P : pS} {sort v : Int32} : (pVal P sort v = none ∧ (if (pVal P sort v).isSome then (1 : Int32) else 0) = 0) ∨ ∃ x, pVal P sort v = some x ∧ (if (pVal P sort v).isSome then (1 : Int32) else 0) = 1 := by
  cases h : pVal P sort v with
  | none => exact Or.inl ⟨rfl, rfl⟩
  | some es => exact Or.inr ⟨es, rfl, rfl⟩
theorem ixR_pos {l : List pe} {nm : Int32} (h : pIdx l nm < l.length) : ixR l nm = nI (pIdx l nm) := by unfold ixR; rw [if_pos h]
theorem ixR_abs {l : List pe} {nm : Int32} (h : ¬ pIdx l nm < l.length) : ixR l nm = -1 := by unfold ixR; rw [if_neg h]
theorem zm_get (h : rX S mb X) (hw : pWf X.1) (o nm : Int32) : f_M_get mb o nm S = some (pGet X.1 o nm, S) := by
  obtain ⟨sg, D0, D1, D2, b0, b1, b2, Dw, bw, hM, hP, h1, h2, h3⟩ := h
  have hi := zm_is hM hP hw o 1 (Or.inl rfl)
  unfold pGet
  simp only [f_M_get, hM.rc, obind, hi]
  rcases is_cases (P := X.1) (o := o) (f := 1) with ⟨e1, e2⟩ | ⟨es, e1, e2⟩
  · rw [e2, if_pos rfl, e1]; rfl
  · rw [e2, if_neg (by decide), e1]
    obtain ⟨n, hn, rfl, hp⟩ := pFind_eq e1
    have hx := hP.1 n hn
    rw [hp] at hx
    obtain ⟨g1, g2, g3⟩ := hx
    have hl := hw.len hn hp
    have hl8 : es.length ≤ 8 := hl.2.1 rfl
    simp only [hM.rd0, hM.now.rc, obind, zn_findField hM.now hn hl8 g2 (fun k z hk => (g3 k z hk).2 rfl)]
    by_cases hk : pIdx es nm < es.length
    · rw [ixR_pos hk, if_pos (nI_pos' (by omega))]
      simp only [hM.now.rd4, obind]
      rw [show (20 : Int32) = nI 20 from rfl, nI_mul, nI_ad, hM.now.ldLL (by omega)]
      have := (g3 _ es[pIdx es nm] (List.getElem?_eq_getElem hk)).1
      simp only [obind, pLook, List.getElem?_eq_getElem hk]
      rw [show D0.2.2.2.2.1 (20 * n + pIdx es nm) = _ from this]
    · rw [ixR_abs hk, if_neg (by decide)]
      simp only [pLook, List.getElem?_eq_none (Nat.le_of_not_lt hk)]
      rfl
theorem zm_set_g {sg : Nat → Nat} {wt : Nat} {lg : Int32} {D1 D2 : rD} {b0 b1 b2 : Int32} {Dw : Nat → rD} {bw : Nat → Int32} (x2 x3 x4 x5 : Int32) {n m : Nat} (hn : n < 100) (hm : m + 1 ≤ 8) : ∀ (d k fu : Nat) (S : mc_S) (D : rD), k + d = m → d < fu → D.2.1 n = nI m → rM S mb sg wt lg D D1 D2 b0 b1 b2 Dw bw → ∃ (S' : mc_S) (N' : Nat → Int32) (L' : Nat → Int64), g_M_set mb fu (nI n) x2 x3 x4 x5 (nI (8 * n)) (nI (20 * n)) (nI k) S = some (nI m, S') ∧ rSt S' (mb + 1) (D.1, D.2.1, N', D.2.2.2.1, L', D.2.2.2.2.2) b0 ∧ tfr S S' (mb + 1) ∧ (∀ j, N' j = if 8 * n + k ≤ j ∧ j < 8 * n + m then D.2.2.1 (j + 1) else D.2.2.1 j) ∧ ∀ j, L' j = if 20 * n + k ≤ j ∧ j < 20 * n + m then D.2.2.2.2.1 (j + 1) else D.2.2.2.2.1 j := by
  intro d
  induction d with
  | zero =>
    intro k fu S D hk hfu hz hM
    obtain ⟨fu, rfl⟩ : ∃ q, fu = q + 1 := ⟨fu - 1, by omega⟩
    have lz := hM.now.ldZ hn
    rw [hz] at lz
    refine ⟨S, D.2.2.1, D.2.2.2.2.1, ?_, hM.now, ⟨rfl, fun _ _ => rfl⟩, fun j => by rw [if_neg (by omega)], fun j => by rw [if_neg (by omega)]⟩
    show q_M_set_0 mb (g_M_set mb fu) (nI n) x2 x3 x4 x5 (nI (8 * n)) (nI (20 * n)) (nI k) S = _
    simp only [q_M_set_0, hM.rd0, hM.now.rd1, obind, lz]
    rw [if_pos ((nI_lei (by omega) (by omega)).mpr (by omega))]
  | succ d ih =>
    intro k fu S D hk hfu hz hM
    obtain ⟨fu, rfl⟩ : ∃ q, fu = q + 1 := ⟨fu - 1, by omega⟩
    have lz := hM.now.ldZ hn
    rw [hz] at lz
    obtain ⟨S1, a1, a2, a3⟩ := hM.now.stN (k := 8 * n + k) (v := D.2.2.1 (8 * n + k + 1)) (by omega)
    obtain ⟨hM1, -⟩ := hM.setNow a3 a2
    obtain ⟨S2, c1, c2, c3⟩ := hM1.now.stLL (k := 20 * n + k) (v := D.2.2.2.2.1 (20 * n + k + 1)) (by omega)
    obtain ⟨hM2, -⟩ := hM1.setNow c3 c2
    obtain ⟨S', N', L', g1, g2, g3, g4, g5⟩ := ih (k + 1) fu S2 (D.1, D.2.1, va_up D.2.2.1 (8 * n + k) (D.2.2.1 (8 * n + k + 1)), D.2.2.2.1, va_up D.2.2.2.2.1 (20 * n + k) (D.2.2.2.2.1 (20 * n + k + 1)), D.2.2.2.2.2) (by omega) (by omega) hz hM2
    refine ⟨S', N', L', ?_, g2, a3.tr (c3.tr g3), fun j => ?_, fun j => ?_⟩
    · show q_M_set_0 mb (g_M_set mb fu) (nI n) x2 x3 x4 x5 (nI (8 * n)) (nI (20 * n)) (nI k) S = _
      simp only [q_M_set_0, hM.rd0, hM.now.rd1, hM.now.rd2, obind, lz]
      rw [if_neg (fun q => by have := (nI_lei (by omega) (by omega)).mp q; omega)]
      rw [nI_ad, nI_ad, nI_s, nI_s, nI_s, hM.now.ldN (by omega)]
      simp only [obind]
      rw [a1]
      simp only [obind, hM1.rd0, hM1.now.rd4]
      rw [hM1.now.ldLL (by omega)]
      simp only [obind]
      rw [c1]
      simp only [obind]
      exact g1
    · rw [g4 j]
      show (if 8 * n + (k + 1) ≤ j ∧ j < 8 * n + m then va_up D.2.2.1 (8 * n + k) (D.2.2.1 (8 * n + k + 1)) (j + 1) else va_up D.2.2.1 (8 * n + k) (D.2.2.1 (8 * n + k + 1)) j) = _
      by_cases h1 : 8 * n + (k + 1) ≤ j ∧ j < 8 * n + m
      · rw [if_pos h1, if_pos (by omega), va_up_ne _ _ (by omega)]
      · rw [if_neg h1]
        by_cases h2 : j = 8 * n + k
        · subst h2
          rw [va_up_self, if_pos (by omega)]
        · rw [va_up_ne _ _ h2, if_neg (by omega)]
    · rw [g5 j]
      show (if 20 * n + (k + 1) ≤ j ∧ j < 20 * n + m then va_up D.2.2.2.2.1 (20 * n + k) (D.2.2.2.2.1 (20 * n + k + 1)) (j + 1) else va_up D.2.2.2.2.1 (20 * n + k) (D.2.2.2.2.1 (20 * n + k + 1)) j) = _
      by_cases h1 : 20 * n + (k + 1) ≤ j ∧ j < 20 * n + m
      · rw [if_pos h1, if_pos (by omega), va_up_ne _ _ (by omega)]
      · rw [if_neg h1]
        by_cases h2 : j = 20 * n + k
        · subst h2
          rw [va_up_self, if_pos (by omega)]
        · rw [va_up_ne _ _ h2, if_neg (by omega)]
theorem pPut_nI {P : pS} {n : Nat} {f : Int32} {es : List pe} (hn : n < 100) : pPut P (nI n) f es = (va_up P.1 n (some (f, es)), P.2) := by
  unfold pPut
  rw [nI_clamp (by omega)]
theorem zm_set (h : rX S mb X) (hw : pWf X.1) (o nm sort v : Int32) : ∃ S', f_M_set mb o nm sort v S = some ((pSet X.1 o nm sort v).1, S') ∧ rX S' mb ((pSet X.1 o nm sort v).2, X.2) ∧ mfr S S' mb := by
  obtain ⟨sg, D0, D1, D2, b0, b1, b2, Dw, bw, hM, hP, h1, h2, h3⟩ := id h
  have hi := zm_is hM hP hw o 1 (Or.inl rfl)
  have hv := zm_isValue hM hP hw sort v
  unfold pSet
  rcases is_cases (P := X.1) (o := o) (f := 1) with ⟨e1, e2⟩ | ⟨es, e1, e2⟩
  · refine ⟨S, ?_, by rw [e1]; cases pVal X.1 sort v <;> exact h, mfr.rf⟩
    simp only [f_M_set, hM.rc, obind, hi]
    rw [e2, if_pos rfl, e1]
    cases pVal X.1 sort v <;> rfl
  · rw [e2] at hi
    rcases va_cases (P := X.1) (sort := sort) (v := v) with ⟨w1, w2⟩ | ⟨x, w1, w2⟩
    · refine ⟨S, ?_, by rw [w1]; exact h, mfr.rf⟩
      simp only [f_M_set, hM.rc, obind, hi, hv]
      rw [w2, if_neg (by decide), if_pos rfl, w1]
    · rw [w2] at hv
      rw [e1, w1]
      obtain ⟨hnil, hval⟩ := pVal_nil w1
      obtain ⟨n, hn, rfl, hp⟩ := pFind_eq e1
      have hx := hP.1 n hn
      rw [hp] at hx
      obtain ⟨g1, g2, g3⟩ := hx
      have hl := hw.len hn hp
      have hl8 : es.length ≤ 8 := hl.2.1 rfl
      have hff := zn_findField hM.now hn hl8 g2 (fun k z hk => (g3 k z hk).2 rfl) nm
      have lz := hM.now.ldZ hn
      rw [show D0.2.1 n = nI es.length from g2] at lz
      have hle := pIdx_le es nm
      simp only [pPut_nI hn]
      unfold pAsg
      have pre : f_M_set mb (nI n) nm sort v S = (if sort = 0 then (if 0 ≤ ixR es nm then ((stI S (some (mb + 1 + 2)) 0 (nI n) (nI es.length - 1)).bind fun S38 => g_M_set mb 5000 (nI n) nm sort v (ixR es nm) (nI (8 * n)) (nI (20 * n)) (ixR es nm) S38) else (some (nI es.length, S))) else (if 0 ≤ ixR es nm then ((id (stL S (some (mb + 1 + 5)) 1 (nI (20 * n) + ixR es nm) x)).bind fun S11 => (rdR S11 (some mb) 4 0).bind fun v12 => (rdR S11 v12 5 1).bind fun v13 => (ldI S11 v13 0 (nI n)).bind fun v14 => some (v14, S11)) else (if nI es.length = 8 then (some (-3, S)) else ((stI S (some (mb + 1 + 2)) 0 (nI n) (nI es.length + 1)).bind fun S24 => (rdR S24 (some mb) 4 0).bind fun v25 => (rdR S24 v25 5 2).bind fun v26 => (stI S24 v26 0 (nI (8 * n) + nI es.length) nm).bind fun S27 => (rdR S27 (some mb) 4 0).bind fun v28 => (rdR S27 v28 5 4).bind fun v29 => (f_M_value sort v S27).bind fun o30 => (stL o30.2 v29 1 (nI (20 * n) + nI es.length) o30.1).bind fun S31 => (rdR S31 (some mb) 4 0).bind fun v32 => (rdR S31 v32 5 1).bind fun v33 => (ldI S31 v33 0 (nI n)).bind fun v34 => some (v34, S31))))) := by
        simp only [f_M_set, hM.rc, hM.rd0, hM.now.rc, hM.now.rd1, hM.now.rd4, obind, hi, hv, hff, lz, hval, show (8 : Int32) * nI n = nI (8 * n) from nI_mul 8 n, show (20 : Int32) * nI n = nI (20 * n) from nI_mul 20 n]
        rfl
      rw [pre]
      by_cases hs0 : sort = 0
      · rw [if_pos hs0, if_pos (hnil.mp hs0)]
        by_cases hk : pIdx es nm < es.length
        · rw [ixR_pos hk, if_pos (nI_pos' (by omega))]
          obtain ⟨m, hm⟩ : ∃ m, es.length = m + 1 := ⟨es.length - 1, by omega⟩
          rw [hm, nI_p]
          obtain ⟨S1, a1, a2, a3⟩ := hM.now.stZ (k := n) (v := nI m) hn
          obtain ⟨hM1, -⟩ := hM.setNow a3 a2
          obtain ⟨S2, N', L', c1, c2, c3, c4, c5⟩ := zm_set_g nm sort v (nI (pIdx es nm)) hn (show m + 1 ≤ 8 by omega) (m - pIdx es nm) (pIdx es nm) 5000 S1 _ (by omega) (by omega) (va_up_self _ _ _) hM1
          have hel : (es.eraseIdx (pIdx es nm)).length = m := by rw [List.length_eraseIdx_of_lt hk]; omega
          have hps : rPS (D0.1, va_up D0.2.1 n (nI m), N', D0.2.2.2.1, L', D0.2.2.2.2.2) (va_up X.1.1 n (some (1, es.eraseIdx (pIdx es nm))), X.1.2) := by
            refine hP.upd hw hn (fun k _ _ => rfl) (fun k _ hk => va_up_ne _ _ hk) (fun k _ hk => ?_) (fun k _ hk => ?_) ⟨rfl, rfl⟩ ⟨g1, ?_, fun k z hz => ?_⟩
            · show N' k = D0.2.2.1 k
              rw [c4 k, if_neg (by omega)]
            · show L' k = D0.2.2.2.2.1 k
              rw [c5 k, if_neg (by omega)]
            · show va_up D0.2.1 n (nI m) n = nI (es.eraseIdx (pIdx es nm)).length
              rw [va_up_self, hel]
            · rw [List.getElem?_eraseIdx] at hz
              have hkl : k < m := by
                apply Nat.lt_of_not_le
                intro hle2
                by_cases q : k < pIdx es nm
                · omega
                · rw [if_neg q, List.getElem?_eq_none (by omega)] at hz
                  cases hz
              refine ⟨?_, fun _ => ?_⟩
              · show L' (20 * n + k) = z.2
                rw [c5]
                by_cases q : k < pIdx es nm
                · rw [if_pos q] at hz
                  rw [if_neg (by omega)]
                  exact (g3 k z hz).1
                · rw [if_neg q] at hz
                  rw [if_pos (by omega)]
                  exact (g3 (k + 1) z hz).1
              · show N' (8 * n + k) = z.1
                rw [c4]
                by_cases q : k < pIdx es nm
                · rw [if_pos q] at hz
                  rw [if_neg (by omega)]
                  exact (g3 k z hz).2 rfl
                · rw [if_neg q] at hz
                  rw [if_pos (by omega)]
                  exact (g3 (k + 1) z hz).2 rfl
          obtain ⟨r1, r2⟩ := rX.now hM h1 h2 h3 (a3.tr c3) c2 hps
          refine ⟨S2, ?_, r1, r2⟩
          rw [a1]
          simp only [obind]
          rw [c1, hel]
        · rw [ixR_abs hk, if_neg (by decide)]
          have her : es.eraseIdx (pIdx es nm) = es := List.eraseIdx_of_length_le (by omega)
          rw [her]
          refine ⟨S, rfl, ?_, mfr.rf⟩
          have : ((va_up X.1.1 n (some (1, es)), X.1.2), X.2) = X := by rw [← hp, upd_same]
          rw [this]
          exact h
      · rw [if_neg hs0, if_neg (fun e => hs0 (hnil.mpr e))]
        by_cases hk : pIdx es nm < es.length
        · rw [ixR_pos hk, if_pos (nI_pos' (by omega)), if_neg (by omega), nI_ad]
          obtain ⟨S1, a1, a2, a3⟩ := hM.now.stLL (k := 20 * n + pIdx es nm) (v := x) (by omega)
          obtain ⟨hM1, -⟩ := hM.setNow a3 a2
          have hps : rPS (D0.1, D0.2.1, D0.2.2.1, D0.2.2.2.1, va_up D0.2.2.2.2.1 (20 * n + pIdx es nm) x, D0.2.2.2.2.2) (va_up X.1.1 n (some (1, es.set (pIdx es nm) (nm, x))), X.1.2) := by
            refine hP.upd hw hn (fun k _ _ => rfl) (fun k _ hk => rfl) (fun k _ hk => rfl) (fun k _ hk => va_up_ne _ _ (by omega)) ⟨rfl, rfl⟩ ⟨g1, ?_, fun k z hz => ?_⟩
            · show D0.2.1 n = nI (es.set (pIdx es nm) (nm, x)).length
              rw [List.length_set]
              exact g2
            · rw [List.getElem?_set] at hz
              by_cases hjk : pIdx es nm = k
              · rw [if_pos hjk, if_pos hk] at hz
                subst hjk
                cases hz
                refine ⟨va_up_self _ _ _, fun _ => ?_⟩
                show D0.2.2.1 (8 * n + pIdx es nm) = nm
                have := (g3 _ es[pIdx es nm] (List.getElem?_eq_getElem hk)).2 rfl
                exact Eq.trans this (pIdx_at hk)
              · rw [if_neg hjk] at hz
                refine ⟨?_, fun e => (g3 k z hz).2 e⟩
                show va_up D0.2.2.2.2.1 (20 * n + pIdx es nm) x (20 * n + k) = z.2
                rw [va_up_ne _ _ (by omega)]
                exact (g3 k z hz).1
          obtain ⟨r1, r2⟩ := rX.now hM h1 h2 h3 a3 a2 hps
          refine ⟨S1, ?_, r1, r2⟩
          rw [show (id (stL S (some (mb + 1 + 5)) 1 (nI (20 * n + pIdx es nm)) x)) = some S1 from a1]
          simp only [obind, hM1.rd0, hM1.now.rd1]
          have lz1 := hM1.now.ldZ hn
          rw [lz1]
          simp only [obind]
          rw [show D0.2.1 n = nI es.length from g2]
        · have hk2 : pIdx es nm = es.length := by omega
          rw [ixR_abs hk, if_neg (by decide), if_pos hk2]
          by_cases hf : 8 ≤ es.length
          · rw [if_pos (show nI es.length = 8 from by rw [show es.length = 8 by omega]; rfl), if_pos hf]
            refine ⟨S, rfl, ?_, mfr.rf⟩
            have : ((va_up X.1.1 n (some (1, es)), X.1.2), X.2) = X := by rw [← hp, upd_same]
            rw [this]
            exact h
          · rw [if_neg (show ¬ nI es.length = 8 from fun e => hf (by have := (nI_eqi (b := 8) (by omega) (by decide)).mp e; omega)), if_neg hf, nI_s, nI_ad, nI_ad]
            obtain ⟨S1, a1, a2, a3⟩ := hM.now.stZ (k := n) (v := nI (es.length + 1)) hn
            obtain ⟨hM1, -⟩ := hM.setNow a3 a2
            obtain ⟨S2, c1, c2, c3⟩ := hM1.now.stN (k := 8 * n + es.length) (v := nm) (by omega)
            obtain ⟨hM2, -⟩ := hM1.setNow c3 c2
            obtain ⟨S3, d1, d2, d3⟩ := hM2.now.stLL (k := 20 * n + es.length) (v := x) (by omega)
            obtain ⟨hM3, -⟩ := hM2.setNow d3 d2
            have hps : rPS (D0.1, va_up D0.2.1 n (nI (es.length + 1)), va_up D0.2.2.1 (8 * n + es.length) nm, D0.2.2.2.1, va_up D0.2.2.2.2.1 (20 * n + es.length) x, D0.2.2.2.2.2) (va_up X.1.1 n (some (1, es ++ [(nm, x)])), X.1.2) := by
              refine hP.upd hw hn (fun k _ _ => rfl) (fun k _ hk => va_up_ne _ _ hk) (fun k _ hk => va_up_ne _ _ (by omega)) (fun k _ hk => va_up_ne _ _ (by omega)) ⟨rfl, rfl⟩ ⟨g1, ?_, fun k z hz => ?_⟩
              · show va_up D0.2.1 n (nI (es.length + 1)) n = nI (es ++ [(nm, x)]).length
                rw [va_up_self]
                simp
              · by_cases hk' : k < es.length
                · rw [List.getElem?_append_left hk'] at hz
                  refine ⟨?_, fun e => ?_⟩
                  · show va_up D0.2.2.2.2.1 (20 * n + es.length) x (20 * n + k) = z.2
                    rw [va_up_ne _ _ (by omega)]
                    exact (g3 k z hz).1
                  · show va_up D0.2.2.1 (8 * n + es.length) nm (8 * n + k) = z.1
                    rw [va_up_ne _ _ (by omega)]
                    exact (g3 k z hz).2 e
                · have hkl : k < (es ++ [(nm, x)]).length := (List.getElem?_eq_some_iff.mp hz).1
                  have : k = es.length := by simp at hkl; omega
                  subst this
                  simp at hz
                  subst hz
                  exact ⟨va_up_self _ _ _, fun _ => va_up_self _ _ _⟩
            obtain ⟨r1, r2⟩ := rX.now hM h1 h2 h3 (a3.tr (c3.tr d3)) d2 hps
            refine ⟨S3, ?_, r1, r2⟩
            rw [a1]
            simp only [obind, hM1.rd0, hM1.now.rd2, c1, hM2.rd0, hM2.now.rd4, hval, d1, hM3.rd0, hM3.now.rd1]
            have lz3 := hM3.now.ldZ hn
            rw [lz3]
            simp only [obind]
            rw [va_up_self]
end RO
