theorem pLook_mem {l : List pe} (hn : (l.map (fun q => q.1)).Nodup) {z : pe} (hz : z ∈ l) : pLook l z.1 = z.2 := by
  have hlt : pIdx l z.1 < l.length := List.findIdx_lt_length_of_exists ⟨z, hz, by simp⟩
  have h1 := pIdx_at hlt
  unfold pLook
  rw [List.getElem?_eq_getElem hlt]
  show l[pIdx l z.1].2 = z.2
  obtain ⟨j, hj, e⟩ := List.getElem_of_mem hz
  have : pIdx l z.1 = j := by
    have h2 : (l.map (fun q => q.1))[pIdx l z.1]'(by simpa using hlt) = (l.map (fun q => q.1))[j]'(by simpa using hj) := by
      rw [List.getElem_map, List.getElem_map, h1, e]
    have hpw := List.pairwise_iff_getElem.mp hn
    rcases Nat.lt_trichotomy (pIdx l z.1) j with hlt2 | heq | hgt
    · exact absurd h2 (hpw _ _ (by simpa using hlt) (by simpa using hj) hlt2)
    · exact heq
    · exact absurd h2.symm (hpw _ _ (by simpa using hj) (by simpa using hlt) hgt)
  subst this
  rw [e]
theorem pLook_not {l : List pe} {nm : Int32} (h : ∀ z ∈ l, ¬ z.1 = nm) : pLook l nm = pNIL ∧ pIdx l nm = l.length := by
  have hlt : pIdx l nm = l.length := by
    apply List.findIdx_eq_length.mpr
    intro z hz
    simpa using h z hz
  refine ⟨?_, hlt⟩
  unfold pLook
  rw [List.getElem?_eq_none (by omega)]
theorem pLook_perm {l r : List pe} (hp : r.Perm l) (hn : (l.map (fun q => q.1)).Nodup) (nm : Int32) : pLook r nm = pLook l nm := by
  by_cases h : ∃ z ∈ l, z.1 = nm
  · obtain ⟨z, hz, rfl⟩ := h
    rw [pLook_mem hn hz, pLook_mem ((hp.map (fun q => q.1)).nodup_iff.mpr hn) (hp.mem_iff.mpr hz)]
  · rw [(pLook_not (fun z hz e => h ⟨z, hz, e⟩)).1, (pLook_not (fun z hz e => h ⟨z, hp.mem_iff.mp hz, e⟩)).1]
def ixR (l : List pe) (nm : Int32) : Int32 := if pIdx l nm < l.length then nI (pIdx l nm) else -1
section NF
variable {S : mc_S} {t : Nat} {D : rD} {b : Int32} {P : pS}
theorem zn_fr_g (h : rSt S t D b) {rs : List pe} (hl : rs.length ≤ 12) (hnr : D.2.2.2.2.2.2 = nI rs.length) (hr : ∀ k z, rs[k]? = some z → D.2.2.2.1 k = z.1 ∧ D.2.2.2.2.2.1 k = z.2) (nm : Int32) : ∀ (d k n : Nat), k + d = rs.length → d < n → g_N_findRoot t n nm (nI k) S = some (if k + (rs.drop k).findIdx (fun q => q.1 == nm) < rs.length then nI (k + (rs.drop k).findIdx (fun q => q.1 == nm)) else -1, S) := by
  have r6 := h.rd6
  rw [hnr] at r6
  intro d
  induction d with
  | zero =>
    intro k n hk hn0
    obtain ⟨n, rfl⟩ : ∃ m, n = m + 1 := ⟨n - 1, by omega⟩
    show q_N_findRoot_0 t (g_N_findRoot t n) nm (nI k) S = _
    simp only [q_N_findRoot_0, r6, obind]
    rw [if_pos ((nI_lei (by omega) (by omega)).mpr (by omega)), List.drop_eq_nil_of_le (by omega), if_neg (by simp; omega)]
  | succ d ih =>
    intro k n hk hn0
    obtain ⟨n, rfl⟩ : ∃ m, n = m + 1 := ⟨n - 1, by omega⟩
    show q_N_findRoot_0 t (g_N_findRoot t n) nm (nI k) S = _
    have hk' : k < rs.length := by omega
    have hq := (hr k rs[k] (List.getElem?_eq_getElem hk')).1
    have hd : rs.drop k = rs[k] :: rs.drop (k + 1) := List.drop_eq_getElem_cons hk'
    simp only [q_N_findRoot_0, r6, h.rd3, obind]
    rw [if_neg (fun q => by have := (nI_lei (by omega) (by omega)).mp q; omega), h.ldRR (by omega)]
    simp only [obind]
    rw [hd, List.findIdx_cons, hq]
    by_cases hcc : rs[k].1 = nm
    · rw [if_pos hcc]
      simp [hcc, hk']
    · rw [if_neg hcc, nI_s, ih (k + 1) n (by omega) (by omega)]
      have : ((rs[k].1 == nm) = false) := by simp [hcc]
      simp only [this, cond_false]
      rw [show k + 1 + (rs.drop (k + 1)).findIdx (fun q => q.1 == nm) = k + ((rs.drop (k + 1)).findIdx (fun q => q.1 == nm) + 1) by omega]
theorem zn_findRoot (h : rSt S t D b) {rs : List pe} (hl : rs.length ≤ 12) (hnr : D.2.2.2.2.2.2 = nI rs.length) (hr : ∀ k z, rs[k]? = some z → D.2.2.2.1 k = z.1 ∧ D.2.2.2.2.2.1 k = z.2) (nm : Int32) : f_N_findRoot t nm S = some (ixR rs nm, S) := by
  have := zn_fr_g h hl hnr hr nm rs.length 0 5000 (by omega) (by omega)
  rw [List.drop_zero] at this
  simp only [Nat.zero_add] at this
  unfold f_N_findRoot
  rw [show (0 : Int32) = nI 0 from rfl, this]
  rfl
theorem zn_ff_g (h : rSt S t D b) {o : Nat} (ho : o < 100) {es : List pe} (hl : es.length ≤ 8) (hz : D.2.1 o = nI es.length) (hr : ∀ k z, es[k]? = some z → D.2.2.1 (8 * o + k) = z.1) (nm : Int32) : ∀ (d k n : Nat), k + d = es.length → d < n → g_N_findField t n (nI o) nm (nI k) S = some (if k + (es.drop k).findIdx (fun q => q.1 == nm) < es.length then nI (k + (es.drop k).findIdx (fun q => q.1 == nm)) else -1, S) := by
  have lz := h.ldZ ho
  rw [hz] at lz
  intro d
  induction d with
  | zero =>
    intro k n hk hn0
    obtain ⟨n, rfl⟩ : ∃ m, n = m + 1 := ⟨n - 1, by omega⟩
    show q_N_findField_0 t (g_N_findField t n) (nI o) nm (nI k) S = _
    simp only [q_N_findField_0, h.rd1, obind, lz]
    rw [if_pos ((nI_lei (by omega) (by omega)).mpr (by omega)), List.drop_eq_nil_of_le (by omega), if_neg (by simp; omega)]
  | succ d ih =>
    intro k n hk hn0
    obtain ⟨n, rfl⟩ : ∃ m, n = m + 1 := ⟨n - 1, by omega⟩
    show q_N_findField_0 t (g_N_findField t n) (nI o) nm (nI k) S = _
    have hk' : k < es.length := by omega
    have hq := hr k es[k] (List.getElem?_eq_getElem hk')
    have hd : es.drop k = es[k] :: es.drop (k + 1) := List.drop_eq_getElem_cons hk'
    simp only [q_N_findField_0, h.rd1, h.rd2, obind, lz]
    rw [if_neg (fun q => by have := (nI_lei (by omega) (by omega)).mp q; omega), show (8 : Int32) = nI 8 from rfl, nI_mul, nI_ad, h.ldN (by omega)]
    simp only [obind]
    rw [hd, List.findIdx_cons, hq]
    by_cases hcc : es[k].1 = nm
    · rw [if_pos hcc]
      simp [hcc, hk']
    · rw [if_neg hcc, nI_s, ih (k + 1) n (by omega) (by omega)]
      have : ((es[k].1 == nm) = false) := by simp [hcc]
      simp only [this, cond_false]
      rw [show k + 1 + (es.drop (k + 1)).findIdx (fun q => q.1 == nm) = k + ((es.drop (k + 1)).findIdx (fun q => q.1 == nm) + 1) by omega]
theorem zn_findField (h : rSt S t D b) {o : Nat} (ho : o < 100) {es : List pe} (hl : es.length ≤ 8) (hz : D.2.1 o = nI es.length) (hr : ∀ k z, es[k]? = some z → D.2.2.1 (8 * o + k) = z.1) (nm : Int32) : f_N_findField t (nI o) nm S = some (ixR es nm, S) := by
  have := zn_ff_g h ho hl hz hr nm es.length 0 5000 (by omega) (by omega)
  rw [List.drop_zero] at this
  simp only [Nat.zero_add] at this
  unfold f_N_findField
  rw [show (0 : Int32) = nI 0 from rfl, this]
  rfl
variable {t' : Nat} {D' : rD} {b' : Int32} {P' : pS}
theorem zn_is_g (h : rSt S t D b) (h' : rSt S t' D' b') {o : Nat} (ho : o < 100) {f : Int32} {es es' : List pe} (hf : f = 1 ∧ es.length ≤ 8 ∨ f = 2 ∧ es.length ≤ 20 ∧ (∀ z ∈ es, z.1 = 0) ∧ ∀ z ∈ es', z.1 = 0) (hl : es'.length = es.length) (hK : D.1 o = f) (hz : D.2.1 o = nI es.length) (hr : ∀ k z, es[k]? = some z → D.2.2.2.2.1 (20 * o + k) = z.2 ∧ (f = 1 → D.2.2.1 (8 * o + k) = z.1)) (hr' : ∀ k z, es'[k]? = some z → D'.2.2.2.2.1 (20 * o + k) = z.2 ∧ (f = 1 → D'.2.2.1 (8 * o + k) = z.1)) : ∀ (d k n : Nat), k + d = es.length → d < n → g_N_isSame t n (nI o) (some t') (nI k) S = some (if es.drop k = es'.drop k then 1 else 0, S) := by
  have lz := h.ldZ ho
  rw [hz] at lz
  have lk := h.ldK ho
  rw [hK] at lk
  have hlen : es.length ≤ 20 := by rcases hf with q | q <;> omega
  intro d
  induction d with
  | zero =>
    intro k n hk hn0
    obtain ⟨n, rfl⟩ : ∃ m, n = m + 1 := ⟨n - 1, by omega⟩
    show q_N_isSame_0 t (g_N_isSame t n) (nI o) (some t') (nI k) S = _
    simp only [q_N_isSame_0, h.rd1, obind, lz]
    rw [if_pos ((nI_lei (by omega) (by omega)).mpr (by omega)), List.drop_eq_nil_of_le (by omega), List.drop_eq_nil_of_le (by omega), if_pos rfl]
  | succ d ih =>
    intro k n hk hn0
    obtain ⟨n, rfl⟩ : ∃ m, n = m + 1 := ⟨n - 1, by omega⟩
    show q_N_isSame_0 t (g_N_isSame t n) (nI o) (some t') (nI k) S = _
    have hk1 : k < es.length := by omega
    have hk2 : k < es'.length := by omega
    obtain ⟨e1, e1n⟩ := hr k es[k] (List.getElem?_eq_getElem hk1)
    obtain ⟨e2, e2n⟩ := hr' k es'[k] (List.getElem?_eq_getElem hk2)
    have hd1 : es.drop k = es[k] :: es.drop (k + 1) := List.drop_eq_getElem_cons hk1
    have hd2 : es'.drop k = es'[k] :: es'.drop (k + 1) := List.drop_eq_getElem_cons hk2
    simp only [q_N_isSame_0, h.rd1, h.rd0, h.rd2, h.rd4, h'.rd4, h'.rd2, obind, lz, lk]
    rw [if_neg (fun q => by have := (nI_lei (by omega) (by omega)).mp q; omega)]
    simp only [show (8 : Int32) = nI 8 from rfl, show (20 : Int32) = nI 20 from rfl, nI_mul, nI_ad]
    rw [h.ldLL (by omega)]
    simp only [obind]
    rw [h'.ldLL (by omega)]
    simp only [obind]
    rw [e1, e2, hd1, hd2]
    by_cases c2 : es[k].2 = es'[k].2
    · rw [if_pos (lc_eq.mpr c2)]
      rcases hf with ⟨hf1, hf2⟩ | ⟨hf1, hf2, hf3, hf4⟩
      · rw [if_pos hf1, h.ldN (by omega)]
        simp only [obind]
        rw [h'.ldN (by omega)]
        simp only [obind]
        rw [e1n hf1, e2n hf1]
        by_cases c1 : es[k].1 = es'[k].1
        · rw [if_pos c1, nI_s, ih (k + 1) n (by omega) (by omega)]
          have hee : es[k] = es'[k] := Prod.ext c1 c2
          by_cases c3 : es.drop (k + 1) = es'.drop (k + 1)
          · rw [if_pos c3, if_pos (by rw [c3, hee])]
          · rw [if_neg c3, if_neg (fun q => c3 (List.cons.inj q).2)]
        · rw [if_neg c1, if_neg (fun q => c1 (by rw [(List.cons.inj q).1]))]
      · rw [if_neg (by rw [hf1]; decide), nI_s, ih (k + 1) n (by omega) (by omega)]
        have hee : es[k] = es'[k] := Prod.ext ((hf3 _ (List.getElem_mem hk1)).trans (hf4 _ (List.getElem_mem hk2)).symm) c2
        by_cases c3 : es.drop (k + 1) = es'.drop (k + 1)
        · rw [if_pos c3, if_pos (by rw [c3, hee])]
        · rw [if_neg c3, if_neg (fun q => c3 (List.cons.inj q).2)]
    · rw [if_neg (fun q => c2 (lc_eq.mp q)), if_neg (fun q => c2 (by rw [(List.cons.inj q).1]))]
theorem zn_isSame (h : rSt S t D b) (h' : rSt S t' D' b') (hP : rPS D P) (hP' : rPS D' P') (hw : pWf P) (hw' : pWf P') {o : Nat} (ho : o < 100) {q : Int32 × List pe} (hq : P.1 o = some q) : ∃ r : Int32, f_N_isSame t (nI o) (some t') S = some (r, S) ∧ (r = 1 ∧ P.1 o = P'.1 o ∨ r = 0 ∧ ¬ P.1 o = P'.1 o) := by
  have hx := hP.1 o ho
  rw [hq] at hx
  obtain ⟨h1, h2, h3⟩ := hx
  have hl := hw.len ho hq
  have hx' := hP'.1 o ho
  have lk := h.ldK ho
  have lk' := h'.ldK ho
  have lz := h.ldZ ho
  have lz' := h'.ldZ ho
  rw [h1] at lk
  rw [h2] at lz
  cases hq' : P'.1 o with
  | none =>
    rw [hq'] at hx'
    rw [show D'.1 o = 0 from hx'] at lk'
    refine ⟨0, ?_, Or.inr ⟨rfl, fun e => by rw [hq] at e; cases e⟩⟩
    simp only [f_N_isSame, h.rd0, h'.rd0, obind, lk, lk']
    rw [if_neg (by rcases hl.2.2.1 with e | e <;> rw [e] <;> decide)]
  | some q' =>
    rw [hq'] at hx'
    obtain ⟨h1', h2', h3'⟩ := hx'
    have hl' := hw'.len ho hq'
    rw [h1'] at lk'
    rw [h2'] at lz'
    rw [hq]
    simp only [f_N_isSame, h.rd0, h'.rd0, h.rd1, h'.rd1, obind, lk, lk', lz, lz']
    by_cases c1 : q.1 = q'.1
    · rw [if_pos c1]
      by_cases c2 : q.2.length = q'.2.length
      · rw [if_pos (by rw [c2])]
        have := zn_is_g h h' ho (f := q.1) (es := q.2) (es' := q'.2) (by
          rcases hl.2.2.1 with e | e
          · exact Or.inl ⟨e, hl.2.1 e⟩
          · exact Or.inr ⟨e, hl.1, hl.2.2.2 e, hl'.2.2.2 (c1 ▸ e)⟩) c2.symm h1 h2 h3 (by rw [c1]; exact h3') q.2.length 0 5000 (by omega) (by omega)
        rw [show (0 : Int32) = nI 0 from rfl, this]
        simp only [List.drop_zero]
        by_cases c3 : q.2 = q'.2
        · exact ⟨1, by rw [if_pos c3], Or.inl ⟨rfl, by rw [Prod.ext c1 c3]⟩⟩
        · exact ⟨0, by rw [if_neg c3], Or.inr ⟨rfl, fun e => c3 (by rw [Option.some.inj e])⟩⟩
      · rw [if_neg (fun e => c2 ((nI_eqi (by omega) (by omega)).mp e))]
        exact ⟨0, rfl, Or.inr ⟨rfl, fun e => c2 (by rw [Option.some.inj e])⟩⟩
    · rw [if_neg c1]
      exact ⟨0, rfl, Or.inr ⟨rfl, fun e => c1 (by rw [Option.some.inj e])⟩⟩
theorem ixR_neg {l : List pe} {nm : Int32} (hl : l.length ≤ 12) : ixR l nm < 0 ↔ ∀ z ∈ l, ¬ z.1 = nm := by
  unfold ixR
  by_cases h : pIdx l nm < l.length
  · rw [if_pos h]
    constructor
    · intro q; exact absurd q (nI_pos (by omega))
    · intro q
      have := pIdx_at h
      exact absurd this (q _ (List.getElem_mem h))
  · rw [if_neg h]
    constructor
    · intro _ z hz e
      apply h
      exact List.findIdx_lt_length_of_exists ⟨z, hz, by simp [e]⟩
    · intro _; decide
theorem zn_bb2 (h : rSt S t D b) (h' : rSt S t' D' b') {rs rs' : List pe} (hl : rs.length ≤ 12) (hl' : rs'.length ≤ 12) (hnr : D.2.2.2.2.2.2 = nI rs.length) (hnr' : D'.2.2.2.2.2.2 = nI rs'.length) (hr : ∀ k z, rs[k]? = some z → D.2.2.2.1 k = z.1 ∧ D.2.2.2.2.2.1 k = z.2) (hr' : ∀ k z, rs'[k]? = some z → D'.2.2.2.1 k = z.1 ∧ D'.2.2.2.2.2.1 k = z.2) (hv : ∀ z ∈ rs, ¬ z.2 = pNIL) (hnd : (rs.map (fun q => q.1)).Nodup) : ∀ (d k n c : Nat), k + d = rs'.length → d < n → g_N_bytesBehind t n 2 (some t') (nI c) (nI k) S = some (nI (c + 6 * (rs'.drop k).countP (fun q => pLook rs q.1 == pNIL)), S) := by
  have r6 := h'.rd6
  rw [hnr'] at r6
  intro d
  induction d with
  | zero =>
    intro k n c hk hn0
    obtain ⟨n, rfl⟩ : ∃ q, n = q + 1 := ⟨n - 1, by omega⟩
    show q_N_bytesBehind_2 t (g_N_bytesBehind t n) (some t') (nI c) (nI k) S = _
    simp only [q_N_bytesBehind_2, r6, obind]
    rw [if_pos ((nI_lei (by omega) (by omega)).mpr (by omega)), List.drop_eq_nil_of_le (by omega)]
    rfl
  | succ d ih =>
    intro k n c hk hn0
    obtain ⟨n, rfl⟩ : ∃ q, n = q + 1 := ⟨n - 1, by omega⟩
    show q_N_bytesBehind_2 t (g_N_bytesBehind t n) (some t') (nI c) (nI k) S = _
    have hk2 : k < rs'.length := by omega
    have e2 := (hr' k rs'[k] (List.getElem?_eq_getElem hk2)).1
    have hd2 : rs'.drop k = rs'[k] :: rs'.drop (k + 1) := List.drop_eq_getElem_cons hk2
    simp only [q_N_bytesBehind_2, r6, h'.rd3, obind]
    rw [if_neg (fun q => by have := (nI_lei (by omega) (by omega)).mp q; omega), h'.ldRR (by omega)]
    simp only [obind, h.rc]
    rw [zn_findRoot h hl hnr hr]
    simp only [obind]
    rw [e2, hd2, List.countP_cons]
    by_cases c1 : ∃ z ∈ rs, z.1 = rs'[k].1
    · obtain ⟨z, hz, hze⟩ := c1
      have hlk : ¬ pLook rs rs'[k].1 = pNIL := by rw [← hze, pLook_mem hnd hz]; exact hv z hz
      rw [if_pos (Int32.not_lt.mp (fun q => (ixR_neg hl).mp q z hz hze)), nI_s, ih (k + 1) n c (by omega) (by omega), if_neg (by simp [hlk])]
      rfl
    · have hlk : pLook rs rs'[k].1 = pNIL := (pLook_not (fun z hz e => c1 ⟨z, hz, e⟩)).1
      rw [if_neg (Int32.not_le.mpr ((ixR_neg hl).mpr (fun z hz e => c1 ⟨z, hz, e⟩))), nI_s, show (6 : Int32) = nI 6 from rfl, nI_ad, ih (k + 1) n (c + 6) (by omega) (by omega), if_pos (by simp [hlk])]
      congr 3
      omega
theorem zn_bb1 (h : rSt S t D b) (h' : rSt S t' D' b') {rs rs' : List pe} (hl : rs.length ≤ 12) (hl' : rs'.length ≤ 12) (hnr : D.2.2.2.2.2.2 = nI rs.length) (hnr' : D'.2.2.2.2.2.2 = nI rs'.length) (hr : ∀ k z, rs[k]? = some z → D.2.2.2.1 k = z.1 ∧ D.2.2.2.2.2.1 k = z.2) (hr' : ∀ k z, rs'[k]? = some z → D'.2.2.2.1 k = z.1 ∧ D'.2.2.2.2.2.1 k = z.2) (hv : ∀ z ∈ rs, ¬ z.2 = pNIL) (hnd : (rs.map (fun q => q.1)).Nodup) : ∀ (d k n c : Nat), k + d = rs.length → d + 20 < n → g_N_bytesBehind t n 1 (some t') (nI c) (nI k) S = some (nI (c + 6 * (rs.drop k).countP (fun q => pLook rs' q.1 != q.2) + 6 * rs'.countP (fun q => pLook rs q.1 == pNIL)), S) := by
  have r6 := h.rd6
  rw [hnr] at r6
  have hb2 := zn_bb2 h h' hl hl' hnr hnr' hr hr' hv hnd
  intro d
  induction d with
  | zero =>
    intro k n c hk hn0
    obtain ⟨n, rfl⟩ : ∃ q, n = q + 1 := ⟨n - 1, by omega⟩
    show q_N_bytesBehind_1 t (g_N_bytesBehind t n) (some t') (nI c) (nI k) S = _
    simp only [q_N_bytesBehind_1, r6, obind]
    rw [if_pos ((nI_lei (by omega) (by omega)).mpr (by omega)), show (0 : Int32) = nI 0 from rfl, hb2 rs'.length 0 n c (by omega) (by omega), show rs.drop k = [] from List.drop_eq_nil_of_le (by omega)]
    simp
  | succ d ih =>
    intro k n c hk hn0
    obtain ⟨n, rfl⟩ : ∃ q, n = q + 1 := ⟨n - 1, by omega⟩
    show q_N_bytesBehind_1 t (g_N_bytesBehind t n) (some t') (nI c) (nI k) S = _
    have hk1 : k < rs.length := by omega
    obtain ⟨e1, e1v⟩ := hr k rs[k] (List.getElem?_eq_getElem hk1)
    have hd1 : rs.drop k = rs[k] :: rs.drop (k + 1) := List.drop_eq_getElem_cons hk1
    simp only [q_N_bytesBehind_1, r6, h.rd3, obind]
    rw [if_neg (fun q => by have := (nI_lei (by omega) (by omega)).mp q; omega), h.ldRR (by omega)]
    simp only [obind, h'.rc]
    rw [zn_findRoot h' hl' hnr' hr']
    simp only [obind, h'.rd5, h.rd5]
    rw [e1, hd1, List.countP_cons]
    by_cases c1 : pIdx rs' rs[k].1 < rs'.length
    · have hix : ixR rs' rs[k].1 = nI (pIdx rs' rs[k].1) := by unfold ixR; rw [if_pos c1]
      have hlk : pLook rs' rs[k].1 = rs'[pIdx rs' rs[k].1].2 := by
        unfold pLook
        rw [List.getElem?_eq_getElem c1]
      have hvv := (hr' _ rs'[pIdx rs' rs[k].1] (List.getElem?_eq_getElem c1)).2
      rw [hix, if_neg (nI_pos (by omega)), h'.ldV (by omega)]
      simp only [obind]
      rw [h.ldV (by omega)]
      simp only [obind]
      rw [hvv, e1v, ← hlk]
      by_cases c2 : pLook rs' rs[k].1 = rs[k].2
      · rw [if_pos (lc_eq.mpr c2), nI_s, ih (k + 1) n c (by omega) (by omega), if_neg (by simp [c2])]
        rfl
      · rw [if_neg (fun q => c2 (lc_eq.mp q)), nI_s, show (6 : Int32) = nI 6 from rfl, nI_ad, ih (k + 1) n (c + 6) (by omega) (by omega), if_pos (by simp [c2])]
        congr 3
        omega
    · have hno : ∀ z ∈ rs', ¬ z.1 = rs[k].1 := fun z hz e => c1 (List.findIdx_lt_length_of_exists ⟨z, hz, by simp [e]⟩)
      have hlk : ¬ pLook rs' rs[k].1 = rs[k].2 := by
        rw [(pLook_not hno).1]
        exact fun e => hv _ (List.getElem_mem hk1) e.symm
      rw [if_pos ((ixR_neg hl').mpr hno), nI_s, show (6 : Int32) = nI 6 from rfl, nI_ad, ih (k + 1) n (c + 6) (by omega) (by omega), if_pos (by simp [hlk])]
      congr 3
      omega
theorem zn_bb0 (h : rSt S t D b) (h' : rSt S t' D' b') (hP : rPS D P) (hP' : rPS D' P') (hw : pWf P) (hw' : pWf P') {m1 : Nat} (hb1 : ∀ n c : Nat, 40 < n → g_N_bytesBehind t n 1 (some t') (nI c) (nI 0) S = some (nI (c + m1), S)) : ∀ (d k n c : Nat), k + d = 100 → d + 42 < n → g_N_bytesBehind t n 0 (some t') (nI c) (nI k) S = some (nI (c + 16 * ((List.range 100).drop k).countP (fun o => @decide (¬ P.1 o = none ∧ ¬ P.1 o = P'.1 o) (Classical.propDecidable _)) + m1), S) := by
  intro d
  induction d with
  | zero =>
    intro k n c hk hn
    obtain ⟨n, rfl⟩ : ∃ q, n = q + 1 := ⟨n - 1, by omega⟩
    obtain rfl : k = 100 := by omega
    show q_N_bytesBehind_0 t (g_N_bytesBehind t n) (some t') (nI c) (nI 100) S = _
    simp only [q_N_bytesBehind_0]
    rw [if_pos (show (100 : Int32) ≤ nI 100 from by decide), show (0 : Int32) = nI 0 from rfl, hb1 n c (by omega), List.drop_eq_nil_of_le (by simp)]
    rfl
  | succ d ih =>
    intro k n c hk hn
    obtain ⟨n, rfl⟩ : ∃ q, n = q + 1 := ⟨n - 1, by omega⟩
    have hk1 : k < 100 := by omega
    have hk2 : k < (List.range 100).length := by simp; omega
    have hd1 : (List.range 100).drop k = k :: (List.range 100).drop (k + 1) := by
      rw [List.drop_eq_getElem_cons hk2]
      simp
    have hcond : ¬ (100 : Int32) ≤ nI k := fun q => by have := (nI_lei (a := 100) (by decide) (by omega)).mp q; omega
    show q_N_bytesBehind_0 t (g_N_bytesBehind t n) (some t') (nI c) (nI k) S = _
    have lk := h.ldK hk1
    have hx := hP.1 k hk1
    simp only [q_N_bytesBehind_0, h.rd0, obind, lk, h.rc]
    rw [if_neg hcond, hd1, List.countP_cons]
    cases hq : P.1 k with
    | none =>
      rw [hq] at hx
      rw [if_pos (show D.1 k = 0 from hx), nI_s, ih (k + 1) n c (by omega) (by omega), if_neg (by simp)]
      rfl
    | some q =>
      rw [hq] at hx
      have hl := hw.len hk1 hq
      rw [if_neg (by rw [hx.1]; rcases hl.2.2.1 with e | e <;> rw [e] <;> decide)]
      obtain ⟨r, e, hr⟩ := zn_isSame h h' hP hP' hw hw' hk1 hq
      rw [e]
      simp only [obind]
      rcases hr with ⟨rfl, heq⟩ | ⟨rfl, heq⟩
      · rw [if_neg (by decide), nI_s, ih (k + 1) n c (by omega) (by omega), if_neg (by rw [hq] at heq; simp [heq])]
        rfl
      · rw [if_pos rfl, nI_s, show (16 : Int32) = nI 16 from rfl, nI_ad, ih (k + 1) n (c + 16) (by omega) (by omega), if_pos (by rw [hq] at heq; simp [heq])]
        congr 3
        omega
theorem zn_bb (h : rSt S t D b) (h' : rSt S t' D' b') (hP : rPS D P) (hP' : rPS D' P') (hw : pWf P) (hw' : pWf P') : f_N_bytesBehind t (some t') S = some (nI (pByt P P'), S) := by
  obtain ⟨rs, p1, p2, p3⟩ := hP.2
  obtain ⟨rs', p1', p2', p3'⟩ := hP'.2
  have hl : rs.length ≤ 12 := by rw [p1.length_eq]; exact hw.2.1
  have hl' : rs'.length ≤ 12 := by rw [p1'.length_eq]; exact hw'.2.1
  have hnd : (rs.map (fun q => q.1)).Nodup := (p1.map _).nodup_iff.mpr hw.2.2.1
  have hv : ∀ z ∈ rs, ¬ z.2 = pNIL := fun z hz => (hw.2.2.2 z (p1.mem_iff.mp hz)).2
  have hb1 := zn_bb1 h h' hl hl' p2 p2' p3 p3' hv hnd
  have hb0 := zn_bb0 h h' hP hP' hw hw' (m1 := 6 * rs.countP (fun q => pLook rs' q.1 != q.2) + 6 * rs'.countP (fun q => pLook rs q.1 == pNIL)) (fun n c hn => by
    have := hb1 rs.length 0 n c (by omega) (by omega)
    rw [List.drop_zero] at this
    rw [this]
    congr 3
    omega) 100 0 5000 0 (by omega) (by omega)
  unfold f_N_bytesBehind
  rw [show (0 : Int32) = nI 0 from rfl, hb0]
  unfold pByt pDif pNmd
  rw [List.drop_zero, Nat.zero_add]
  have c1 : rs.countP (fun q => pLook rs' q.1 != q.2) = P.2.countP (fun q => pLook P'.2 q.1 != q.2) := by
    rw [p1.countP_eq]
    congr 1
    funext q
    rw [pLook_perm p1' hw'.2.2.1]
  have c2 : rs'.countP (fun q => pLook rs q.1 == pNIL) = P'.2.countP (fun q => pLook P.2 q.1 == pNIL) := by
    rw [p1'.countP_eq]
    congr 1
    funext q
    rw [pLook_perm p1 hw.2.2.1]
  rw [c1, c2]
  congr 3
  omega
end NF
