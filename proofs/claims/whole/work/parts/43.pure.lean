theorem pOkV.mono {P Q : pS} {v : Int64} (h : pOkV P v) (hm : ∀ o, o < 100 → ¬ P.1 o = none → ¬ Q.1 o = none) : pOkV Q v := by
  rcases h with h | h | ⟨o, ho, h, h2⟩
  · exact Or.inl h
  · exact Or.inr (Or.inl h)
  · exact Or.inr (Or.inr ⟨o, ho, h, hm o ho h2⟩)
theorem pVal_ok {P : pS} {sort v : Int32} {x : Int64} (h : pVal P sort v = some x) : pOkV P x := by
  unfold pVal at h
  by_cases h0 : sort = 0
  · rw [if_pos h0] at h; cases h; exact Or.inl rfl
  · rw [if_neg h0] at h
    by_cases h1 : sort = 1
    · rw [if_pos h1] at h; cases h; exact Or.inr (Or.inl ⟨v, rfl⟩)
    · rw [if_neg h1] at h
      by_cases h2 : sort = 2
      · rw [if_pos h2] at h
        by_cases hh : pHas P v
        · rw [if_pos hh] at h
          cases h
          have hl := nI_lt100 hh.1 hh.2.1
          refine Or.inr (Or.inr ⟨v.toNatClampNeg, hl, ?_, hh.2.2⟩)
          rw [← i64_of (b := v.toNatClampNeg) (by omega), nI_at hh.1]
        · rw [if_neg hh] at h; cases h
      · rw [if_neg h2] at h; cases h
theorem pPut_wf {P : pS} (hw : pWf P) {o f : Int32} {es es' : List pe} (hf : pFind P o f = some es) (hs : f = 1 ∧ es'.length ≤ 8 ∨ f = 2 ∧ es'.length ≤ 20 ∧ ∀ z ∈ es', z.1 = 0) (hv : ∀ z ∈ es', pOkV P z.2) : pWf (pPut P o f es') := by
  obtain ⟨n, hn, rfl, hp⟩ := pFind_eq hf
  have hc : (nI n).toNatClampNeg = n := nI_clamp (by omega)
  have hm : ∀ o, o < 100 → ¬ P.1 o = none → ¬ (pPut P (nI n) f es').1 o = none := by
    intro x hx hpx
    show ¬ va_up P.1 (nI n).toNatClampNeg (some (f, es')) x = none
    rw [hc]
    by_cases e : x = n
    · subst e; rw [va_up_self]; exact fun q => by cases q
    · rw [va_up_ne _ _ e]; exact hpx
  refine ⟨fun x q hx hq => ?_, hw.2.1, hw.2.2.1, fun z hz => ⟨(hw.2.2.2 z hz).1.mono hm, (hw.2.2.2 z hz).2⟩⟩
  have hq : va_up P.1 (nI n).toNatClampNeg (some (f, es')) x = some q := hq
  rw [hc] at hq
  by_cases e : x = n
  · subst e
    rw [va_up_self] at hq
    cases hq
    exact ⟨hs, fun z hz => (hv z hz).mono hm⟩
  · rw [va_up_ne _ _ e] at hq
    exact ⟨(hw.1 x q hx hq).1, fun z hz => ((hw.1 x q hx hq).2 z hz).mono hm⟩
theorem pFind_wf {P : pS} (hw : pWf P) {o f : Int32} {es : List pe} (hf : pFind P o f = some es) : (f = 1 ∧ es.length ≤ 8 ∨ f = 2 ∧ es.length ≤ 20 ∧ ∀ z ∈ es, z.1 = 0) ∧ ∀ z ∈ es, pOkV P z.2 := by
  obtain ⟨n, hn, -, hp⟩ := pFind_eq hf
  exact hw.1 n _ hn hp
theorem pAsg_mem {es : List pe} {cap : Nat} {nm : Int32} {v : Int64} {z : pe} (h : z ∈ (pAsg es cap nm v).2) : z ∈ es ∨ (z = (nm, v) ∧ ¬ v = pNIL) := by
  unfold pAsg at h
  by_cases hv : v = pNIL
  · rw [if_pos hv] at h
    exact Or.inl (List.mem_of_mem_eraseIdx h)
  · rw [if_neg hv] at h
    by_cases h1 : pIdx es nm = es.length
    · rw [if_pos h1] at h
      by_cases h2 : cap ≤ es.length
      · rw [if_pos h2] at h; exact Or.inl h
      · rw [if_neg h2] at h
        rcases List.mem_append.mp h with h | h
        · exact Or.inl h
        · exact Or.inr ⟨List.mem_singleton.mp h, hv⟩
    · rw [if_neg h1] at h
      rcases List.mem_or_eq_of_mem_set h with h | h
      · exact Or.inl h
      · exact Or.inr ⟨h, hv⟩
theorem pAsg_len {es : List pe} {cap : Nat} {nm : Int32} {v : Int64} (h : es.length ≤ cap) : (pAsg es cap nm v).2.length ≤ cap := by
  unfold pAsg
  by_cases hv : v = pNIL
  · rw [if_pos hv]
    exact Nat.le_trans (List.length_eraseIdx_le _ _) h
  · rw [if_neg hv]
    by_cases h1 : pIdx es nm = es.length
    · rw [if_pos h1]
      by_cases h2 : cap ≤ es.length
      · rw [if_pos h2]; exact h
      · rw [if_neg h2]
        simp only [List.length_append, List.length_singleton]
        omega
    · rw [if_neg h1]
      simp only [List.length_set]
      exact h
theorem pAsg_nd {es : List pe} {cap : Nat} {nm : Int32} {v : Int64} (h : (es.map (fun q => q.1)).Nodup) : ((pAsg es cap nm v).2.map (fun q => q.1)).Nodup := by
  unfold pAsg
  by_cases hv : v = pNIL
  · rw [if_pos hv]
    exact List.Nodup.sublist ((List.eraseIdx_sublist _ _).map _) h
  · rw [if_neg hv]
    by_cases h1 : pIdx es nm = es.length
    · rw [if_pos h1]
      by_cases h2 : cap ≤ es.length
      · rw [if_pos h2]; exact h
      · rw [if_neg h2]
        show (List.map (fun q => q.1) (es ++ [(nm, v)])).Nodup
        rw [List.map_append]
        refine List.nodup_append.mpr ⟨h, by simp, fun a ha b hb => ?_⟩
        obtain ⟨z, hz, rfl⟩ := List.mem_map.mp ha
        have hb := List.mem_singleton.mp hb
        rw [hb]
        intro e
        have hall := List.findIdx_eq_length.mp h1 z hz
        simp [e] at hall
    · rw [if_neg h1]
      show (List.map (fun q => q.1) (es.set (pIdx es nm) (nm, v))).Nodup
      have hlt : pIdx es nm < es.length := Nat.lt_of_le_of_ne List.findIdx_le_length h1
      have he : (es[pIdx es nm]).1 = nm := by
        have := List.findIdx_getElem (xs := es) (p := fun q : pe => q.1 == nm) (w := hlt)
        exact eq_of_beq this
      have : List.map (fun q => q.1) (es.set (pIdx es nm) (nm, v)) = es.map (fun q => q.1) := by
        rw [List.map_set]
        apply List.ext_getElem
        · simp
        · intro i hi hi2
          rw [List.getElem_set]
          by_cases e : pIdx es nm = i
          · subst e
            rw [if_pos rfl, List.getElem_map, he]
          · rw [if_neg e]
      rw [this]
      exact h
theorem pSet_wf {P : pS} (hw : pWf P) (o nm sort v : Int32) : pWf (pSet P o nm sort v).2 := by
  unfold pSet
  cases hv : pVal P sort v with
  | none => exact hw
  | some x =>
    cases hf : pFind P o 1 with
    | none => exact hw
    | some es =>
      obtain ⟨s1, s2⟩ := pFind_wf hw hf
      have hl : es.length ≤ 8 := by
        rcases s1 with s1 | s1
        · exact s1.2
        · exact absurd s1.1 (by decide)
      refine pPut_wf hw hf (Or.inl ⟨rfl, pAsg_len hl⟩) (fun z hz => ?_)
      rcases pAsg_mem hz with hz | hz
      · exact s2 z hz
      · rw [hz.1]; exact pVal_ok hv
theorem pFind2 {P : pS} (hw : pWf P) {o : Int32} {es : List pe} (hf : pFind P o 2 = some es) : es.length ≤ 20 ∧ (∀ z ∈ es, z.1 = 0) ∧ ∀ z ∈ es, pOkV P z.2 := by
  obtain ⟨s1, s2⟩ := pFind_wf hw hf
  rcases s1 with s1 | s1
  · exact absurd s1.1 (by decide)
  · exact ⟨s1.2.1, s1.2.2, s2⟩
theorem pPush_wf {P : pS} (hw : pWf P) (o sort v : Int32) : pWf (pPush P o sort v).2 := by
  unfold pPush
  cases hv : pVal P sort v with
  | none => exact hw
  | some x =>
    cases hf : pFind P o 2 with
    | none => exact hw
    | some es =>
      obtain ⟨s1, s2, s3⟩ := pFind2 hw hf
      show pWf (if 20 ≤ es.length then ((-3 : Int32), P) else (nI (es.length + 1), pPut P o 2 (es ++ [(0, x)]))).2
      by_cases hl : 20 ≤ es.length
      · rw [if_pos hl]; exact hw
      · rw [if_neg hl]
        refine pPut_wf hw hf (Or.inr ⟨rfl, by simp only [List.length_append, List.length_singleton]; omega, fun z hz => ?_⟩) (fun z hz => ?_)
        · rcases List.mem_append.mp hz with hz | hz
          · exact s2 z hz
          · rw [List.mem_singleton.mp hz]
        · rcases List.mem_append.mp hz with hz | hz
          · exact s3 z hz
          · rw [List.mem_singleton.mp hz]; exact pVal_ok hv
theorem pPop_wf {P : pS} (hw : pWf P) (o : Int32) : pWf (pPop P o).2 := by
  unfold pPop
  cases hf : pFind P o 2 with
  | none => exact hw
  | some es =>
    obtain ⟨s1, s2, s3⟩ := pFind2 hw hf
    simp only
    cases hl : es.getLast? with
    | none => exact hw
    | some q =>
      exact pPut_wf hw hf (Or.inr ⟨rfl, by simp only [List.length_dropLast]; omega, fun z hz => s2 z (List.dropLast_subset _ hz)⟩) (fun z hz => s3 z (List.dropLast_subset _ hz))
theorem pPutAt_wf {P : pS} (hw : pWf P) (o k sort v : Int32) : pWf (pPutAt P o k sort v).2 := by
  unfold pPutAt
  cases hv : pVal P sort v with
  | none => exact hw
  | some x =>
    cases hf : pFind P o 2 with
    | none => exact hw
    | some es =>
      obtain ⟨s1, s2, s3⟩ := pFind2 hw hf
      simp only
      by_cases hi : pIn k es.length
      · rw [if_pos hi]
        refine pPut_wf hw hf (Or.inr ⟨rfl, by simp only [List.length_set]; omega, fun z hz => ?_⟩) (fun z hz => ?_)
        · rcases List.mem_or_eq_of_mem_set hz with hz | hz
          · exact s2 z hz
          · rw [hz]
        · rcases List.mem_or_eq_of_mem_set hz with hz | hz
          · exact s3 z hz
          · rw [hz]; exact pVal_ok hv
      · rw [if_neg hi]; exact hw
theorem pRoot_wf {P : pS} (hw : pWf P) (nm sort v : Int32) : pWf (pRoot P nm sort v).2 := by
  unfold pRoot
  cases hv : pVal P sort v with
  | none => exact hw
  | some x =>
    have hm : ∀ o, o < 100 → ¬ P.1 o = none → ¬ (P.1, (pAsg P.2 12 nm x).2).1 o = none := fun _ _ h => h
    refine ⟨fun o q ho hq => ⟨(hw.1 o q ho hq).1, fun z hz => ((hw.1 o q ho hq).2 z hz).mono hm⟩, pAsg_len hw.2.1, pAsg_nd hw.2.2.1, fun z hz => ?_⟩
    rcases pAsg_mem hz with hz | hz
    · exact ⟨(hw.2.2.2 z hz).1.mono hm, (hw.2.2.2 z hz).2⟩
    · rw [hz.1]; exact ⟨(pVal_ok hv).mono hm, hz.2⟩
theorem pMake_wf {P : pS} (hw : pWf P) (row : Int32) : pWf (pMake P row).2 := by
  unfold pMake
  by_cases hf : pFree P 100 0 < 100
  · rw [if_pos hf]
    have hm : ∀ o, o < 100 → ¬ P.1 o = none → ¬ (va_up P.1 (pFree P 100 0) (some (if row = 0 then (1 : Int32) else 2, ([] : List pe))), P.2).1 o = none := by
      intro x hx hpx
      show ¬ va_up P.1 (pFree P 100 0) _ x = none
      by_cases e : x = pFree P 100 0
      · rw [e, va_up_self]; exact fun q => by cases q
      · rw [va_up_ne _ _ e]; exact hpx
    refine ⟨fun x q hx hq => ?_, hw.2.1, hw.2.2.1, fun z hz => ⟨(hw.2.2.2 z hz).1.mono hm, (hw.2.2.2 z hz).2⟩⟩
    have hq : va_up P.1 (pFree P 100 0) (some (if row = 0 then (1 : Int32) else 2, ([] : List pe))) x = some q := hq
    by_cases e : x = pFree P 100 0
    · rw [e, va_up_self] at hq
      cases hq
      refine ⟨?_, fun z hz => by cases hz⟩
      by_cases hr : row = 0
      · exact Or.inl ⟨by rw [if_pos hr], by simp⟩
      · exact Or.inr ⟨by rw [if_neg hr], by simp, fun z hz => by cases hz⟩
    · rw [va_up_ne _ _ e] at hq
      exact ⟨(hw.1 x q hx hq).1, fun z hz => ((hw.1 x q hx hq).2 z hz).mono hm⟩
  · rw [if_neg hf]; exact hw
theorem pKeep_wf {X : pX} (hw : pWX X) {b : Nat} (hb : b ≤ 4000) : pWX (pKeep X b) := by
  obtain ⟨nw, sf, ws, lg⟩ := X
  obtain ⟨h1, h2, h3, h4⟩ := hw
  simp only at h1 h2 h3 h4
  cases ws with
  | nil => exact ⟨h1, h2, fun q hq => by rw [List.mem_singleton.mp hq]; exact ⟨h1, hb⟩, by simp [pKeep]⟩
  | cons q ws =>
    show pWX (if ws.length = 7 then (nw, q.1, ws ++ [(nw, b)], lg + nI b) else (nw, sf, q :: ws ++ [(nw, b)], lg + nI b))
    simp only [List.length_cons] at h4
    by_cases h7 : ws.length = 7
    · rw [if_pos h7]
      refine ⟨h1, (h3 q (List.mem_cons_self)).1, fun z hz => ?_, by simp only [List.length_append, List.length_singleton]; omega⟩
      rcases List.mem_append.mp hz with hz | hz
      · exact h3 z (List.mem_cons_of_mem _ hz)
      · rw [List.mem_singleton.mp hz]; exact ⟨h1, hb⟩
    · rw [if_neg h7]
      refine ⟨h1, h2, fun z hz => ?_, by simp only [List.length_append, List.length_cons, List.length_nil]; omega⟩
      rcases List.mem_append.mp hz with hz | hz
      · exact h3 z hz
      · rw [List.mem_singleton.mp hz]; exact ⟨h1, hb⟩
theorem pByt_top {P B : pS} (h1 : pWf P) (h2 : pWf B) : pByt P B ≤ 1744 := by
  unfold pByt pDif pNmd
  have a1 := List.countP_le_length (p := fun o => @decide (¬ P.1 o = none ∧ ¬ P.1 o = B.1 o) (Classical.propDecidable _)) (l := List.range 100)
  have a2 := List.countP_le_length (p := fun q : pe => pLook B.2 q.1 != q.2) (l := P.2)
  have a3 := List.countP_le_length (p := fun q : pe => pLook P.2 q.1 == pNIL) (l := B.2)
  have b1 := h1.2.1
  have b2 := h2.2.1
  rw [List.length_range] at a1
  omega
theorem pCommit_wf {X : pX} (hw : pWX X) : pWX (pCommit X).2 := pKeep_wf hw (by have := pByt_top hw.1 hw.kept; omega)
theorem pUndo_wf {X : pX} (hw : pWX X) : pWX (pUndo X).2 := ⟨hw.kept, hw.2⟩
theorem pSweep_wf {X : pX} (hw : pWX X) : pWX (pSweep X).2 := by
  unfold pSweep
  by_cases hg : 0 < pGone (pKept X)
  · rw [if_pos hg]
    exact pKeep_wf (X := (pSw (pKept X), X.2)) ⟨pSw_wf hw.kept, hw.2⟩ (by decide)
  · rw [if_neg hg]
    exact ⟨hw.kept, hw.2⟩
theorem pSync_wf {X : pX} (hw : pWX X) : pWX (pSync X).2 := ⟨hw.1, hw.kept, fun q hq => (by cases hq), by simp [pSync]⟩
theorem pCrash_wf {X : pX} (hw : pWX X) (n : Int32) : pWX (pCrash X n).2 := by
  unfold pCrash
  by_cases hn : n < 0
  · rw [if_pos hn]; exact hw
  · rw [if_neg hn]
    have hk : pWf (pKept (X.1, X.2.1, X.2.2.1.take (pLeft X.2.2.1 n.toNatClampNeg), X.2.2.2)) := pWX.kept (X := (X.1, X.2.1, X.2.2.1.take (pLeft X.2.2.1 n.toNatClampNeg), X.2.2.2)) ⟨hw.1, hw.2.1, fun q hq => hw.2.2.1 q (List.mem_of_mem_take hq), by simp only [List.length_take]; have := hw.2.2.2; omega⟩
    exact ⟨hk, hk, fun q hq => (by cases hq), by simp⟩
def pE : pS := (fun _ => none, [])
def pX0 : pX := (pE, pE, [], 0)
theorem pE_wf : pWf pE := ⟨fun o q _ hq => (by cases hq), by simp [pE], by simp [pE], fun z hz => by cases hz⟩
theorem pX0_wf : pWX pX0 := ⟨pE_wf, pE_wf, fun q hq => (by cases hq), by simp [pX0]⟩
theorem mfr.c {S S' : mc_S} {kb : Nat} {X : pX} (h : cX S kb X) (hf : mfr S S' (kb + 29)) : cX S' kb X := by
  obtain ⟨no, nr, ro, rr, sa, rb, hM, hN, hP, hR, hB⟩ := h
  have lo : ∀ a, a < kb + 29 → S'.1 a = S.1 a := fun a ha => hf.2 a (Or.inl ha)
  have hi : ∀ a, kb + 110 ≤ a → S'.1 a = S.1 a := fun a ha => hf.2 a (Or.inr (by omega))
  have ok : ∀ b, cOk kb S.2 b → S'.1 b = S.1 b ∧ S'.1 (b + 1) = S.1 (b + 1) ∧ S'.1 (b + 2) = S.1 (b + 2) := by
    intro b hb
    rcases hb.1 with e | e
    · subst e; exact ⟨lo _ (by omega), lo _ (by omega), lo _ (by omega)⟩
    · exact ⟨hi _ (by omega), hi _ (by omega), hi _ (by omega)⟩
  obtain ⟨m1, ⟨f1, m2, m2'⟩, ⟨f2, m3, m3'⟩, ⟨rf, qf, n, m4⟩, m5, m6, m7, m8, m9⟩ := hM
  refine ⟨no, nr, ro, rr, sa, rb, ⟨(lo _ (by omega)).trans m1, ⟨f1, (lo _ (by omega)).trans m2, m2'⟩, ⟨f2, (lo _ (by omega)).trans m3, m3'⟩, ⟨rf, qf, n, (lo _ (by omega)).trans m4.1, (lo _ (by omega)).trans m4.2.1, (lo _ (by omega)).trans m4.2.2⟩, m5.frame (lo _ (by omega)) (lo _ (by omega)), fun j hj => (m6 j hj).frame (lo _ (by omega)) (lo _ (by omega)), m7, m8, by rw [hf.1]; exact m9⟩, by rw [hf.1]; exact hN, hP.frame (fun b hb => ok b (hN.1 b hb)), fun i h => (hR i h).frame (fun b hb => ok b (hN.2.1 i h b hb)), hB⟩
theorem kfr.r {S S' : mc_S} {kb : Nat} {X : pX} (h : rX S (kb + 29) X) (hf : kfr S S' kb) : rX S' (kb + 29) X := by
  obtain ⟨sg, D0, D1, D2, b0, b1, b2, Dw, bw, hM, r⟩ := h
  refine ⟨sg, D0, D1, D2, b0, b1, b2, Dw, bw, ?_, r⟩
  obtain ⟨m1, ⟨f1, m2, m2'⟩, m3, m4, ⟨f5, m5⟩, ⟨f6, m6⟩, m7, m8, m9, m10, m11⟩ := hM
  have fr : ∀ a, kb + 29 ≤ a → a < kb + 110 → S'.1 a = S.1 a := hf.2
  exact ⟨(fr _ (by omega) (by omega)).trans m1, ⟨f1, (fr _ (by omega) (by omega)).trans m2, m2'⟩, m3, m4, ⟨f5, (fr _ (by omega) (by omega)).trans m5⟩, ⟨f6, (fr _ (by omega) (by omega)).trans m6⟩, m7.frame (fun a _ _ => fr _ (by omega) (by omega)), m8.frame (fun a _ _ => fr _ (by omega) (by omega)), m9.frame (fun a _ _ => fr _ (by omega) (by omega)), fun k hk => (m10 k hk).frame (fun a _ _ => fr _ (by omega) (by have := m3 k hk; omega)), m11⟩
