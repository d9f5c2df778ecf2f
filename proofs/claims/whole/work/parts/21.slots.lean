def slP (S : mc_S) (h : Nat) (form : Int32) (cap : Nat) (es : List pe) : Prop := es.length ≤ cap ∧ cap ≤ 20 ∧ S.1 h = some (.inr (1, [.int form, .ref (h + 1), .ref (h + 2), .int (nI es.length)])) ∧ ∃ (nf : Nat → Int32) (vf : Nat → Int64), S.1 (h + 1) = some (.inl (0, cap, .inl nf)) ∧ S.1 (h + 2) = some (.inl (1, cap, .inr (.inl vf))) ∧ ∀ (k : Nat) (q : pe), es[k]? = some q → q = (nf k, vf k)
def sfr (S S' : mc_S) (h : Nat) : Prop := S'.2 = S.2 ∧ ∀ a : Nat, a ≠ h → a ≠ h + 1 → a ≠ h + 2 → S'.1 a = S.1 a
section SL
variable {S : mc_S} {h cap : Nat} {form : Int32} {es : List pe}
theorem slP.rd0 (hs : slP S h form cap es) : rdI S (some h) 1 0 = some form := rdI_at hs.2.2.1 rfl
theorem slP.rd1 (hs : slP S h form cap es) : rdR S (some h) 1 1 = some (some (h + 1)) := rdR_at hs.2.2.1 rfl
theorem slP.rd2 (hs : slP S h form cap es) : rdR S (some h) 1 2 = some (some (h + 2)) := rdR_at hs.2.2.1 rfl
theorem slP.rd3 (hs : slP S h form cap es) : rdI S (some h) 1 3 = some (nI es.length) := rdI_at hs.2.2.1 rfl
theorem slP.rc (hs : slP S h form cap es) : rcv S (some h) 1 = some h := rcv_at hs.2.2.1
theorem slP.len (hs : slP S h form cap es) : es.length < 2 ^ 31 := by have := hs.1; have := hs.2.1; omega
theorem zs_holds (hs : slP S h form cap es) (k : Int32) : f_S_holds h k S = some (if ¬ k < 0 ∧ k < nI es.length then 1 else 0, S) := by
  simp only [f_S_holds, hs.rd3, obind]
  by_cases h0 : k < 0
  · rw [if_pos h0, if_neg (fun q => q.1 h0)]
  · rw [if_neg h0]
    by_cases h1 : nI es.length ≤ k
    · rw [if_pos h1, if_neg (fun q => Int32.not_lt.mpr h1 q.2)]
    · rw [if_neg h1, if_pos ⟨h0, Int32.not_le.mp h1⟩]
theorem zs_placeOf_g (hs : slP S h form cap es) (nm : Int32) : ∀ (d k n : Nat), k + d = es.length → d < n → g_S_placeOf h n nm (nI k) S = some (nI (k + (es.drop k).findIdx (fun q => q.1 == nm)), S) := by
  have hlen := hs.len
  have r3 := hs.rd3
  have r1 := hs.rd1
  obtain ⟨hl, hc, hM, nf, vf, hn, hv, he⟩ := hs
  intro d
  induction d with
  | zero =>
    intro k n hk hn0
    obtain ⟨n, rfl⟩ : ∃ m, n = m + 1 := ⟨n - 1, by omega⟩
    show q_S_placeOf_0 h (g_S_placeOf h n) nm (nI k) S = _
    simp only [q_S_placeOf_0, r3, obind]
    rw [if_pos ((nI_lei hlen (by omega)).mpr (by omega))]
    rw [List.drop_eq_nil_of_le (by omega)]
    rfl
  | succ d ih =>
    intro k n hk hn0
    obtain ⟨n, rfl⟩ : ∃ m, n = m + 1 := ⟨n - 1, by omega⟩
    show q_S_placeOf_0 h (g_S_placeOf h n) nm (nI k) S = _
    have hk' : k < es.length := by omega
    simp only [q_S_placeOf_0, r3, r1, obind]
    rw [if_neg (fun q => by have := (nI_lei hlen (by omega)).mp q; omega)]
    rw [ldI_at hn (by omega) (by omega)]
    simp only [obind]
    have hq := he k es[k] (List.getElem?_eq_getElem hk')
    have hd : es.drop k = es[k] :: es.drop (k + 1) := List.drop_eq_getElem_cons hk'
    rw [hd, List.findIdx_cons, hq]
    by_cases hcc : nf k = nm
    · rw [if_pos hcc]
      simp [hcc]
    · rw [if_neg hcc, nI_s, ih (k + 1) n (by omega) (by omega)]
      have : ((nf k == nm) = false) := by simp [hcc]
      simp only [this]
      congr 3
      simp only [cond_false]
      omega
theorem zs_placeOf (hs : slP S h form cap es) (nm : Int32) : f_S_placeOf h nm S = some (nI (pIdx es nm), S) := by
  have := zs_placeOf_g hs nm es.length 0 5000 (by omega) (by have := hs.1; have := hs.2.1; omega)
  unfold f_S_placeOf
  rw [show (0 : Int32) = nI 0 from rfl, this]
  simp [pIdx]
theorem pIdx_le (es : List pe) (nm : Int32) : pIdx es nm ≤ es.length := List.findIdx_le_length
theorem zs_named (hs : slP S h form cap es) (nm : Int32) : f_S_named h nm S = some (pLook es nm, S) := by
  have hlen := hs.len
  have hle := pIdx_le es nm
  simp only [f_S_named, hs.rc, obind, zs_placeOf hs, hs.rd3, hs.rd2]
  obtain ⟨hl, hc, hM, nf, vf, hn, hv, he⟩ := hs
  by_cases hk : pIdx es nm < es.length
  · rw [if_neg (fun q => by have := (nI_lei hlen (by omega)).mp q; omega), ldL_at hv (by omega) (by omega)]
    have hq := he _ es[pIdx es nm] (List.getElem?_eq_getElem hk)
    simp only [obind, pLook, List.getElem?_eq_getElem hk]
    rw [hq]
  · rw [if_pos ((nI_lei hlen (by omega)).mpr (by omega))]
    simp only [pLook, List.getElem?_eq_none (Nat.le_of_not_lt hk)]
    rfl
end SL
