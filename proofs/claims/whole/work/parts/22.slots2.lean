theorem lc_eq {x y : Int64} : lg_cmp x y = 0 ↔ x = y := by
  unfold lg_cmp
  by_cases h1 : x > y
  · rw [if_pos h1]
    constructor
    · intro h; exact absurd h (by decide)
    · intro h; subst h; exact absurd h1 (Int64.lt_irrefl)
  · rw [if_neg h1]
    by_cases h2 : x = y
    · rw [if_pos h2]; exact ⟨fun _ => h2, fun _ => rfl⟩
    · rw [if_neg h2]
      constructor
      · intro h; exact absurd h (by decide)
      · intro h; exact absurd h h2
theorem lc_lt {x y : Int64} : lg_cmp x y < 0 ↔ x < y := by
  unfold lg_cmp
  by_cases h1 : x > y
  · rw [if_pos h1]
    constructor
    · intro h; exact absurd h (by decide)
    · intro h; exact absurd (Int64.lt_trans h h1) Int64.lt_irrefl
  · rw [if_neg h1]
    by_cases h2 : x = y
    · rw [if_pos h2]
      constructor
      · intro h; exact absurd h (by decide)
      · intro h; rw [h2] at h; exact absurd h Int64.lt_irrefl
    · rw [if_neg h2]
      constructor
      · intro _
        rcases Int64.le_iff_lt_or_eq.mp (Int64.not_lt.mp h1) with h | h
        · exact h
        · exact absurd h h2
      · intro _; decide
theorem lc_gt {x y : Int64} : 0 < lg_cmp x y ↔ y < x := by
  unfold lg_cmp
  by_cases h1 : x > y
  · rw [if_pos h1]
    exact ⟨fun _ => h1, fun _ => by decide⟩
  · rw [if_neg h1]
    by_cases h2 : x = y
    · rw [if_pos h2]
      exact ⟨fun h => absurd h (by decide), fun h => absurd h h1⟩
    · rw [if_neg h2]
      exact ⟨fun h => absurd h (by decide), fun h => absurd h h1⟩
theorem lc_ge {x y : Int64} : 0 ≤ lg_cmp x y ↔ y ≤ x := by
  rw [← Int32.not_lt, lc_lt, Int64.not_lt]
theorem lc_le {x y : Int64} : lg_cmp x y ≤ 0 ↔ x ≤ y := by
  rw [← Int32.not_lt, lc_gt, Int64.not_lt]
section SM
variable {S : mc_S} {h cap : Nat} {form : Int32} {es : List pe}
theorem slP.frame (hs : slP S h form cap es) {S' : mc_S} (h0 : S'.1 h = S.1 h) (h1 : S'.1 (h + 1) = S.1 (h + 1)) (h2 : S'.1 (h + 2) = S.1 (h + 2)) : slP S' h form cap es := by
  obtain ⟨hl, hc, hM, nf, vf, hn, hv, he⟩ := hs
  exact ⟨hl, hc, h0.trans hM, nf, vf, h1.trans hn, h2.trans hv, he⟩
theorem zs_takeLast0 (hs : slP S h form cap []) : f_S_takeLast h S = some (-pNIL, S) := by
  simp only [f_S_takeLast, hs.rd3, obind]
  rw [if_pos (show nI ([] : List pe).length = 0 from rfl)]
  rfl
theorem zs_takeLast {q0 : pe} (hs : slP S h form cap (es ++ [q0])) : ∃ S', f_S_takeLast h S = some (q0.2, S') ∧ slP S' h form cap es ∧ sfr S S' h := by
  have hlen := hs.len
  have r3 := hs.rd3
  obtain ⟨hl, hc, hM, nf, vf, hn, hv, he⟩ := hs
  have hln : (es ++ [q0]).length = es.length + 1 := by simp
  rw [hln] at hlen hl hM r3
  refine ⟨(va_up S.1 h (some (.inr (1, [.int form, .ref (h + 1), .ref (h + 2), .int (nI es.length)]))), S.2), ?_, ⟨by omega, hc, up_eq, nf, vf, up_ne (by omega) hn, up_ne (by omega) hv, ?_⟩, rfl, fun a h0 _ _ => va_up_ne _ _ h0⟩
  · simp only [f_S_takeLast, r3, obind]
    rw [if_neg (nI_ne0 (by omega) hlen), nI_p]
    rw [wr_at hM (by simp)]
    simp only [obind, List.set_cons_succ, List.set_cons_zero]
    rw [rdR_p up_eq rfl]
    simp only [obind]
    rw [rdI_p up_eq rfl]
    simp only [obind]
    rw [ldL_p (up_ne (by omega) hv) (by omega) (by omega)]
    have hq := he es.length q0 (by simp)
    simp only [obind]
    rw [hq]
  · intro k q hk
    have hk' : k < es.length := (List.getElem?_eq_some_iff.mp hk).1
    exact he k q (by rw [List.getElem?_append_left hk']; exact hk)
theorem zs_append1 (hs : slP S h form cap es) (hf : es.length < cap) (nm : Int32) (v : Int64) : ∃ S', f_S_append h nm v S = some (nI (es.length + 1), S') ∧ slP S' h form cap (es ++ [(nm, v)]) ∧ sfr S S' h := by
  have hlen := hs.len
  have r3 := hs.rd3
  have r2 := hs.rd2
  have r1 := hs.rd1
  obtain ⟨hl, hc, hM, nf, vf, hn, hv, he⟩ := hs
  refine ⟨(va_up (va_up (va_up S.1 (h + 1) (some (.inl (0, cap, .inl (va_up nf es.length nm))))) (h + 2) (some (.inl (1, cap, .inr (.inl (va_up vf es.length v)))))) h (some (.inr (1, [.int form, .ref (h + 1), .ref (h + 2), .int (nI (es.length + 1))]))), S.2), ?_, ⟨by simp; omega, hc, by rw [List.length_append]; exact up_eq, va_up nf es.length nm, va_up vf es.length v, up_ne (by omega) (up_ne (by omega) up_eq), up_ne (by omega) up_eq, ?_⟩, rfl, fun a h0 h1 h2 => up_ne h0 (up_ne h2 (up_ne h1 rfl))⟩
  · simp only [f_S_append, r3, r2, r1, obind, alen_at hv]
    rw [if_pos ((nI_lti hlen (by omega)).mpr hf)]
    rw [stI_at hn hf (by omega)]
    simp only [obind]
    rw [rdR_p (up_ne (by omega) hM) rfl]
    simp only [obind]
    rw [rdI_p (up_ne (by omega) hM) rfl]
    simp only [obind]
    rw [stL_p (up_ne (by omega) hv) hf (by omega)]
    simp only [obind]
    rw [rdI_p (up_ne (by omega) (up_ne (by omega) hM)) rfl]
    simp only [obind]
    rw [wr_p (up_ne (by omega) (up_ne (by omega) hM)) (by simp)]
    simp only [obind, List.set_cons_succ, List.set_cons_zero, nI_s]
    rw [rdI_p up_eq rfl]
    rfl
  · intro k q hk
    by_cases hk' : k < es.length
    · rw [List.getElem?_append_left hk'] at hk
      rw [va_up_ne _ _ (by omega), va_up_ne _ _ (by omega)]
      exact he k q hk
    · have hkl : k < (es ++ [(nm, v)]).length := (List.getElem?_eq_some_iff.mp hk).1
      have : k = es.length := by simp at hkl; omega
      subst this
      simp at hk
      rw [va_up_self, va_up_self, hk]
theorem zs_append0 (hs : slP S h form cap es) (hf : ¬ es.length < cap) (nm : Int32) (v : Int64) : f_S_append h nm v S = some (-3, S) := by
  have hlen := hs.len
  have r3 := hs.rd3
  have r2 := hs.rd2
  obtain ⟨hl, hc, hM, nf, vf, hn, hv, he⟩ := hs
  simp only [f_S_append, r3, r2, obind, alen_at hv]
  rw [if_neg (fun q => hf ((nI_lti hlen (by omega)).mp q))]
end SM
