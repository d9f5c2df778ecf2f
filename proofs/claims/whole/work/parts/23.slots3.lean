theorem pN : (1099511627776 : Int64) = pNIL := rfl
theorem pN1 : (1099511627777 : Int64) = pNIL + 1 := by decide
theorem pIdx_at {es : List pe} {nm : Int32} (hk : pIdx es nm < es.length) : es[pIdx es nm].1 = nm := by
  have := List.findIdx_getElem (w := (show es.findIdx (fun q => q.1 == nm) < es.length from hk))
  exact eq_of_beq this
section SN
variable {h cap : Nat} {form : Int32}
theorem zs_rm_g {m : Nat} (x : Int32) (hm : m + 1 ≤ cap) (hc : cap ≤ 20) : ∀ (d a n : Nat) (S : mc_S) (nf : Nat → Int32) (vf : Nat → Int64), a + d = m → d < n → S.1 h = some (.inr (1, [.int form, .ref (h + 1), .ref (h + 2), .int (nI m)])) → S.1 (h + 1) = some (.inl (0, cap, .inl nf)) → S.1 (h + 2) = some (.inl (1, cap, .inr (.inl vf))) → ∃ (S' : mc_S) (nf' : Nat → Int32) (vf' : Nat → Int64), g_S_removeAt h n x (nI a) S = some S' ∧ S'.1 h = S.1 h ∧ S'.1 (h + 1) = some (.inl (0, cap, .inl nf')) ∧ S'.1 (h + 2) = some (.inl (1, cap, .inr (.inl vf'))) ∧ (∀ j, nf' j = if a ≤ j ∧ j < m then nf (j + 1) else nf j) ∧ (∀ j, vf' j = if a ≤ j ∧ j < m then vf (j + 1) else vf j) ∧ sfr S S' h := by
  intro d
  induction d with
  | zero =>
    intro a n S nf vf ha hn0 hM hn hv
    obtain ⟨n, rfl⟩ : ∃ q, n = q + 1 := ⟨n - 1, by omega⟩
    refine ⟨S, nf, vf, ?_, rfl, hn, hv, fun j => by rw [if_neg (by omega)], fun j => by rw [if_neg (by omega)], rfl, fun _ _ _ _ => rfl⟩
    show q_S_removeAt_0 h (g_S_removeAt h n) x (nI a) S = _
    simp only [q_S_removeAt_0, rdI_at (k := 3) hM (show _ = some (Value.int (nI m)) from rfl), obind]
    rw [if_pos ((nI_lei (by omega) (by omega)).mpr (by omega))]
  | succ d ih =>
    intro a n S nf vf ha hn0 hM hn hv
    obtain ⟨n, rfl⟩ : ∃ q, n = q + 1 := ⟨n - 1, by omega⟩
    obtain ⟨S', nf', vf', e1, e2, e3, e4, e5, e6, e7, e8⟩ := ih (a + 1) n (va_up (va_up S.1 (h + 1) (some (.inl (0, cap, .inl (va_up nf a (nf (a + 1))))))) (h + 2) (some (.inl (1, cap, .inr (.inl (va_up vf a (vf (a + 1))))))), S.2) (va_up nf a (nf (a + 1))) (va_up vf a (vf (a + 1))) (by omega) (by omega) (up_ne (by omega) (up_ne (by omega) hM)) (up_ne (by omega) up_eq) up_eq
    refine ⟨S', nf', vf', ?_, e2.trans (up_ne (by omega) (up_ne (by omega) rfl)), e3, e4, fun j => ?_, fun j => ?_, e7, fun b h0 h1 h2 => (e8 b h0 h1 h2).trans (up_ne h2 (up_ne h1 rfl))⟩
    · show q_S_removeAt_0 h (g_S_removeAt h n) x (nI a) S = _
      simp only [q_S_removeAt_0, rdI_at (k := 3) hM (show _ = some (Value.int (nI m)) from rfl), obind]
      rw [if_neg (fun q => by have := (nI_lei (by omega) (by omega)).mp q; omega)]
      simp only [rdR_at (k := 1) hM (show _ = some (Value.ref (h + 1)) from rfl), obind, nI_s]
      rw [ldI_at hn (by omega) (by omega)]
      simp only [obind]
      rw [stI_at hn (by omega) (by omega)]
      simp only [obind]
      rw [rdR_p (k := 2) (up_ne (by omega) hM) rfl]
      simp only [obind]
      rw [ldL_p (up_ne (by omega) hv) (by omega) (by omega)]
      simp only [obind]
      rw [stL_p (up_ne (by omega) hv) (by omega) (by omega)]
      simp only [obind]
      exact e1
    · rw [e5 j]
      by_cases h1 : a + 1 ≤ j ∧ j < m
      · rw [if_pos h1, if_pos (by omega), va_up_ne _ _ (by omega)]
      · rw [if_neg h1]
        by_cases h2 : j = a
        · subst h2
          rw [va_up_self, if_pos (by omega)]
        · rw [va_up_ne _ _ h2, if_neg (by omega)]
    · rw [e6 j]
      by_cases h1 : a + 1 ≤ j ∧ j < m
      · rw [if_pos h1, if_pos (by omega), va_up_ne _ _ (by omega)]
      · rw [if_neg h1]
        by_cases h2 : j = a
        · subst h2
          rw [va_up_self, if_pos (by omega)]
        · rw [va_up_ne _ _ h2, if_neg (by omega)]
variable {S : mc_S} {es : List pe}
theorem zs_removeAt (hs : slP S h form cap es) {k : Nat} (hk : k ≤ es.length) : ∃ S', f_S_removeAt h (nI k) S = some S' ∧ slP S' h form cap (es.eraseIdx k) ∧ sfr S S' h := by
  have hlen := hs.len
  have r3 := hs.rd3
  have hh := zs_holds hs (nI k)
  have rc := hs.rc
  by_cases hk1 : k < es.length
  · rw [if_pos ⟨nI_pos (by omega), (nI_lti (by omega) hlen).mpr hk1⟩] at hh
    obtain ⟨hl, hc, hM, nf, vf, hn, hv, he⟩ := id hs
    obtain ⟨m, hm⟩ : ∃ m, es.length = m + 1 := ⟨es.length - 1, by omega⟩
    obtain ⟨S', nf', vf', e1, e2, e3, e4, e5, e6, e7, e8⟩ := zs_rm_g (h := h) (form := form) (cap := cap) (m := m) (nI k) (by omega) hc (m - k) k 5000 (va_up S.1 h (some (.inr (1, [.int form, .ref (h + 1), .ref (h + 2), .int (nI m)]))), S.2) nf vf (by omega) (by omega) up_eq (up_ne (by omega) hn) (up_ne (by omega) hv)
    have hel : (es.eraseIdx k).length = m := by rw [List.length_eraseIdx_of_lt hk1]; omega
    refine ⟨S', ?_, ⟨by omega, hc, ?_, nf', vf', e3, e4, fun j q hj => ?_⟩, e7, fun b h0 h1 h2 => (e8 b h0 h1 h2).trans (up_ne h0 rfl)⟩
    · simp only [f_S_removeAt, rc, obind, hh, r3]
      rw [if_neg (by decide), wr_at hM (by simp)]
      simp only [obind, List.set_cons_succ, List.set_cons_zero, hm, nI_p]
      exact e1
    · rw [e2, hel]
      exact up_eq
    · rw [List.getElem?_eraseIdx] at hj
      rw [e5 j, e6 j]
      have hjl : j < (es.eraseIdx k).length := by
        apply Nat.lt_of_not_le
        intro hle
        have hz := hj
        by_cases h1 : j < k
        · omega
        · rw [if_neg h1, List.getElem?_eq_none (by omega)] at hz
          cases hz
      by_cases h1 : j < k
      · rw [if_pos h1] at hj
        rw [if_neg (by omega), if_neg (by omega)]
        exact he j q hj
      · rw [if_neg h1] at hj
        rw [if_pos (by omega), if_pos (by omega)]
        exact he (j + 1) q hj
  · rw [if_neg (fun q => hk1 ((nI_lti (by omega) hlen).mp q.2))] at hh
    refine ⟨S, ?_, ?_, rfl, fun _ _ _ _ => rfl⟩
    · simp only [f_S_removeAt, rc, obind, hh]
      rfl
    · rw [List.eraseIdx_of_length_le (by omega)]
      exact hs
theorem zs_assign (hs : slP S h form cap es) (nm : Int32) (v : Int64) : ∃ S', f_S_assign h nm v S = some ((pAsg es cap nm v).1, S') ∧ slP S' h form cap (pAsg es cap nm v).2 ∧ sfr S S' h := by
  have hlen := hs.len
  have r3 := hs.rd3
  have rc := hs.rc
  have hp := zs_placeOf hs nm
  have hle := pIdx_le es nm
  unfold pAsg
  by_cases hv0 : v = pNIL
  · rw [if_pos hv0]
    obtain ⟨S', e1, e2, e3⟩ := zs_removeAt hs hle
    refine ⟨S', ?_, e2, e3⟩
    simp only [f_S_assign, pN, rc, obind, hp]
    rw [if_pos (lc_eq.mpr hv0)]
    simp only [e1, obind, e2.rd3]
  · rw [if_neg hv0]
    by_cases hi : pIdx es nm = es.length
    · rw [if_pos hi]
      by_cases hf : cap ≤ es.length
      · rw [if_pos hf]
        refine ⟨S, ?_, hs, rfl, fun _ _ _ _ => rfl⟩
        simp only [f_S_assign, pN, rc, obind, hp, r3]
        rw [if_neg (fun q => hv0 (lc_eq.mp q)), if_pos (by rw [hi]), zs_append0 hs (by omega)]
        rfl
      · rw [if_neg hf]
        obtain ⟨S', e1, e2, e3⟩ := zs_append1 hs (by omega) nm v
        refine ⟨S', ?_, e2, e3⟩
        simp only [f_S_assign, pN, rc, obind, hp, r3]
        rw [if_neg (fun q => hv0 (lc_eq.mp q)), if_pos (by rw [hi]), e1]
        rfl
    · rw [if_neg hi]
      have r2 := hs.rd2
      obtain ⟨hl, hc, hM, nf, vf, hn, hv, he⟩ := id hs
      have hk : pIdx es nm < es.length := by omega
      refine ⟨(va_up S.1 (h + 2) (some (.inl (1, cap, .inr (.inl (va_up vf (pIdx es nm) v))))), S.2), ?_, ⟨by simp; omega, hc, by rw [List.length_set]; exact up_ne (by omega) hM, nf, va_up vf (pIdx es nm) v, up_ne (by omega) hn, up_eq, fun j q hj => ?_⟩, rfl, fun a _ _ h2 => up_ne h2 rfl⟩
      · simp only [f_S_assign, pN, rc, obind, hp, r3, r2]
        rw [if_neg (fun q => hv0 (lc_eq.mp q)), if_neg (fun q => hi ((nI_eqi (by omega) hlen).mp q)), stL_at hv (by omega) (by omega)]
        simp only [obind]
        rw [rdI_p (up_ne (by omega) hM) rfl]
        rfl
      · rw [List.getElem?_set] at hj
        by_cases hjk : pIdx es nm = j
        · rw [if_pos hjk, if_pos (by omega)] at hj
          subst hjk
          cases hj
          have hq := he _ es[pIdx es nm] (List.getElem?_eq_getElem hk)
          have hnm := pIdx_at hk
          rw [hq] at hnm
          have hnm' : nf (pIdx es nm) = nm := hnm
          rw [va_up_self, hnm']
        · rw [if_neg hjk] at hj
          rw [va_up_ne _ _ (Ne.symm hjk)]
          exact he j q hj
end SN
