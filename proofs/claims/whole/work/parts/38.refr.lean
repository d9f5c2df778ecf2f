theorem permIdx {l : List pe} {i : Nat} (h : i < l.length) : l.Perm (l[i] :: l.eraseIdx i) := by
  have e1 : l = l.take i ++ l[i] :: l.drop (i + 1) := by
    rw [← List.drop_eq_getElem_cons h, List.take_append_drop]
  have e2 : l.eraseIdx i = l.take i ++ l.drop (i + 1) := List.eraseIdx_eq_take_drop_succ l i
  rw [e2]
  have e3 : (l.take i ++ l[i] :: l.drop (i + 1)).Perm (l[i] :: (l.take i ++ l.drop (i + 1))) := List.perm_middle
  rw [← e1] at e3
  exact e3
theorem permSet {l : List pe} {i : Nat} (h : i < l.length) (y : pe) : (l.set i y).Perm (y :: l.eraseIdx i) := by
  have e1 : l.set i y = l.take i ++ y :: l.drop (i + 1) := by rw [List.set_eq_take_append_cons_drop, if_pos h]
  have e2 : l.eraseIdx i = l.take i ++ l.drop (i + 1) := List.eraseIdx_eq_take_drop_succ l i
  rw [e1, e2]
  exact List.perm_middle
theorem permEr {r l : List pe} (hp : r.Perm l) (hn : (l.map (fun q => q.1)).Nodup) {nm : Int32} (hk : pIdx r nm < r.length) : pIdx l nm < l.length ∧ (r.eraseIdx (pIdx r nm)).Perm (l.eraseIdx (pIdx l nm)) := by
  have h1 := pIdx_at hk
  have hm : r[pIdx r nm] ∈ l := hp.mem_iff.mp (List.getElem_mem hk)
  have hlt : pIdx l nm < l.length := List.findIdx_lt_length_of_exists ⟨_, hm, by simp [h1]⟩
  refine ⟨hlt, ?_⟩
  have h2 := pIdx_at hlt
  have hz : r[pIdx r nm] = l[pIdx l nm] := by
    have q1 := pLook_mem hn hm
    have q2 := pLook_mem hn (List.getElem_mem hlt)
    rw [h1] at q1
    rw [h2] at q2
    exact Prod.ext (h1.trans h2.symm) (q1.symm.trans q2)
  have a := (permIdx hk).symm.trans (hp.trans (permIdx hlt))
  rw [hz] at a
  exact a.cons_inv
theorem permSw {r : List pe} {k m : Nat} (hl : r.length = m + 1) (hk : k < r.length) : ((r.set k (r[m]'(by omega))).take m).Perm (r.eraseIdx k) := by
  have hL : (r.set k (r[m]'(by omega))).length = m + 1 := by rw [List.length_set]; exact hl
  have hm : m < (r.set k (r[m]'(by omega))).length := by omega
  have e1 : (r.set k (r[m]'(by omega)))[m] = r[m]'(by omega) := by
    rw [List.getElem_set]
    split <;> rfl
  have e2 : (r.set k (r[m]'(by omega))).eraseIdx m = (r.set k (r[m]'(by omega))).take m := by
    rw [List.eraseIdx_eq_take_drop_succ, List.drop_eq_nil_of_le (by omega), List.append_nil]
  have a := permIdx hm
  rw [e1, e2] at a
  exact (a.symm.trans (permSet hk _)).cons_inv
section RR2
variable {S : mc_S} {mb : Nat} {X : pX}
theorem zm_rooted (h : rX S mb X) (hw : pWf X.1) (nm : Int32) : f_M_rooted mb nm S = some (pLook X.1.2 nm, S) := by
  obtain ⟨sg, D0, D1, D2, b0, b1, b2, Dw, bw, hM, hP, h1, h2, h3⟩ := h
  obtain ⟨rs, p1, p2, p3⟩ := hP.2
  have hl : rs.length ≤ 12 := by rw [p1.length_eq]; exact hw.2.1
  rw [← pLook_perm p1 hw.2.2.1]
  unfold f_M_rooted
  simp only [hM.rd0, hM.now.rc, obind, zn_findRoot hM.now hl p2 p3]
  by_cases hk : pIdx rs nm < rs.length
  · rw [ixR_pos hk, if_pos (nI_pos' (by omega))]
    simp only [hM.now.rd5, obind]
    rw [hM.now.ldV (by omega)]
    have := (p3 _ rs[pIdx rs nm] (List.getElem?_eq_getElem hk)).2
    simp only [obind, pLook, List.getElem?_eq_getElem hk]
    rw [this]
  · rw [ixR_abs hk, if_neg (by decide)]
    simp only [pLook, List.getElem?_eq_none (Nat.le_of_not_lt hk)]
    rfl
theorem rPS.upR {D D' : rD} {P : pS} (h : rPS D P) (hK : D'.1 = D.1 ∧ D'.2.1 = D.2.1 ∧ D'.2.2.1 = D.2.2.1 ∧ D'.2.2.2.2.1 = D.2.2.2.2.1) {rt : List pe} (hr : rRt D'.2.2.2.1 D'.2.2.2.2.2.1 D'.2.2.2.2.2.2 rt) : rPS D' (P.1, rt) := by
  refine ⟨fun o ho => ?_, hr⟩
  have := h.1 o ho
  rw [hK.1, hK.2.1, hK.2.2.1, hK.2.2.2]
  exact this
theorem zm_root (h : rX S mb X) (hw : pWf X.1) (nm sort v : Int32) : ∃ S', f_M_root mb nm sort v S = some ((pRoot X.1 nm sort v).1, S') ∧ rX S' mb ((pRoot X.1 nm sort v).2, X.2) ∧ mfr S S' mb := by
  obtain ⟨sg, D0, D1, D2, b0, b1, b2, Dw, bw, hM, hP, h1, h2, h3⟩ := id h
  have hv := zm_isValue hM hP hw sort v
  unfold pRoot
  rcases va_cases (P := X.1) (sort := sort) (v := v) with ⟨w1, w2⟩ | ⟨x, w1, w2⟩
  · refine ⟨S, ?_, by rw [w1]; exact h, mfr.rf⟩
    simp only [f_M_root, hM.rc, obind, hv]
    rw [w2, if_pos rfl, w1]
  · rw [w2] at hv
    rw [w1]
    obtain ⟨hnil, hval⟩ := pVal_nil w1
    obtain ⟨rs, p1, p2, p3⟩ := hP.2
    have hl : rs.length ≤ 12 := by rw [p1.length_eq]; exact hw.2.1
    have hfr := zn_findRoot hM.now hl p2 p3 nm
    have r6 := hM.now.rd6
    rw [p2] at r6
    have hlen := p1.length_eq
    simp only
    unfold pAsg
    by_cases hk : pIdx rs nm < rs.length
    · obtain ⟨hk', hper⟩ := permEr p1 hw.2.2.1 hk
      by_cases hs0 : sort = 0
      · rw [if_pos (hnil.mp hs0)]
        obtain ⟨m, hm⟩ : ∃ m, rs.length = m + 1 := ⟨rs.length - 1, by omega⟩
        have hmr : m < rs.length := by omega
        obtain ⟨S1, a1, a2, a3⟩ := hM.now.wr6 (v := nI m)
        obtain ⟨hM1, -⟩ := hM.setNow a3 a2
        obtain ⟨S2, c1, c2, c3⟩ := hM1.now.stRR (k := pIdx rs nm) (v := rs[m].1) (by omega)
        obtain ⟨hM2, -⟩ := hM1.setNow c3 c2
        obtain ⟨S3, d1, d2, d3⟩ := hM2.now.stV (k := pIdx rs nm) (v := rs[m].2) (by omega)
        obtain ⟨hM3, -⟩ := hM2.setNow d3 d2
        have hq := p3 m rs[m] (List.getElem?_eq_getElem hmr)
        have hel : (X.1.2.eraseIdx (pIdx X.1.2 nm)).length = m := by rw [List.length_eraseIdx_of_lt hk']; omega
        have hps : rPS (D0.1, D0.2.1, D0.2.2.1, va_up D0.2.2.2.1 (pIdx rs nm) rs[m].1, D0.2.2.2.2.1, va_up D0.2.2.2.2.2.1 (pIdx rs nm) rs[m].2, nI m) (X.1.1, X.1.2.eraseIdx (pIdx X.1.2 nm)) := by
          refine hP.upR (D' := (D0.1, D0.2.1, D0.2.2.1, va_up D0.2.2.2.1 (pIdx rs nm) rs[m].1, D0.2.2.2.2.1, va_up D0.2.2.2.2.2.1 (pIdx rs nm) rs[m].2, nI m)) ⟨rfl, rfl, rfl, rfl⟩ ⟨(rs.set (pIdx rs nm) rs[m]).take m, (permSw hm hk).trans hper, ?_, fun j z hj => ?_⟩
          · show nI m = nI _
            congr 1
            simp
            omega
          · have hjm : j < m := by
              have := (List.getElem?_eq_some_iff.mp hj).1
              simp at this
              omega
            rw [List.getElem?_take, if_pos hjm, List.getElem?_set] at hj
            by_cases hjk : pIdx rs nm = j
            · rw [if_pos hjk, if_pos hk] at hj
              subst hjk
              cases hj
              exact ⟨va_up_self _ _ _, va_up_self _ _ _⟩
            · rw [if_neg hjk] at hj
              show va_up D0.2.2.2.1 (pIdx rs nm) rs[m].1 j = z.1 ∧ va_up D0.2.2.2.2.2.1 (pIdx rs nm) rs[m].2 j = z.2
              rw [va_up_ne _ _ (Ne.symm hjk), va_up_ne _ _ (Ne.symm hjk)]
              exact p3 j z hj
        obtain ⟨r1, r2⟩ := rX.now hM h1 h2 h3 (a3.tr (c3.tr d3)) d2 hps
        refine ⟨S3, ?_, r1, r2⟩
        simp only [f_M_root, hM.rc, hM.rd0, hM.now.rc, obind, hv, hfr, r6]
        rw [if_neg (by decide), if_pos hs0, ixR_pos hk, if_pos (nI_pos' (by omega)), hm, nI_p, a1]
        simp only [obind, hM1.rd0, hM1.now.rd3, hM1.now.rd6]
        rw [hM1.now.ldRR (by omega)]
        simp only [obind]
        rw [hq.1, c1]
        simp only [obind, hM2.rd0, hM2.now.rd5, hM2.now.rd6]
        rw [hM2.now.ldV (by omega)]
        simp only [obind]
        rw [hq.2, d1]
        simp only [obind, hM3.rd0, hM3.now.rd6]
        rw [hel]
      · rw [if_neg (fun e => hs0 (hnil.mpr e)), if_neg (by omega)]
        obtain ⟨S1, a1, a2, a3⟩ := hM.now.stV (k := pIdx rs nm) (v := x) (by omega)
        obtain ⟨hM1, -⟩ := hM.setNow a3 a2
        have hps : rPS (D0.1, D0.2.1, D0.2.2.1, D0.2.2.2.1, D0.2.2.2.2.1, va_up D0.2.2.2.2.2.1 (pIdx rs nm) x, D0.2.2.2.2.2.2) (X.1.1, X.1.2.set (pIdx X.1.2 nm) (nm, x)) := by
          refine hP.upR (D' := (D0.1, D0.2.1, D0.2.2.1, D0.2.2.2.1, D0.2.2.2.2.1, va_up D0.2.2.2.2.2.1 (pIdx rs nm) x, D0.2.2.2.2.2.2)) ⟨rfl, rfl, rfl, rfl⟩ ⟨rs.set (pIdx rs nm) (nm, x), (permSet hk _).trans ((hper.cons _).trans (permSet hk' _).symm), ?_, fun j z hj => ?_⟩
          · rw [List.length_set]
            exact p2
          · rw [List.getElem?_set] at hj
            by_cases hjk : pIdx rs nm = j
            · rw [if_pos hjk, if_pos hk] at hj
              subst hjk
              cases hj
              exact ⟨(p3 _ rs[pIdx rs nm] (List.getElem?_eq_getElem hk)).1.trans (pIdx_at hk), va_up_self _ _ _⟩
            · rw [if_neg hjk] at hj
              refine ⟨(p3 j z hj).1, ?_⟩
              show va_up D0.2.2.2.2.2.1 (pIdx rs nm) x j = z.2
              rw [va_up_ne _ _ (Ne.symm hjk)]
              exact (p3 j z hj).2
        obtain ⟨r1, r2⟩ := rX.now hM h1 h2 h3 a3 a2 hps
        refine ⟨S1, ?_, r1, r2⟩
        simp only [f_M_root, hM.rc, hM.rd0, hM.now.rc, hM.now.rd5, obind, hv, hfr, hval]
        rw [if_neg (by decide), if_neg hs0, ixR_pos hk, if_pos (nI_pos' (by omega)), a1]
        simp only [obind, hM1.rd0, hM1.now.rd6]
        rw [p2, hlen]
    · have hno : ∀ z ∈ rs, ¬ z.1 = nm := fun z hz e => hk (List.findIdx_lt_length_of_exists ⟨z, hz, by simp [e]⟩)
      have hk' : pIdx X.1.2 nm = X.1.2.length := (pLook_not (fun z hz => hno z (p1.mem_iff.mpr hz))).2
      by_cases hs0 : sort = 0
      · rw [if_pos (hnil.mp hs0)]
        have her : X.1.2.eraseIdx (pIdx X.1.2 nm) = X.1.2 := List.eraseIdx_of_length_le (by omega)
        rw [her]
        refine ⟨S, ?_, h, mfr.rf⟩
        simp only [f_M_root, hM.rc, hM.rd0, hM.now.rc, obind, hv, hfr, r6]
        rw [if_neg (by decide), if_pos hs0, ixR_abs hk, if_neg (by decide), hlen]
      · rw [if_neg (fun e => hs0 (hnil.mpr e)), if_pos hk']
        by_cases hf : 12 ≤ X.1.2.length
        · rw [if_pos hf]
          refine ⟨S, ?_, h, mfr.rf⟩
          simp only [f_M_root, hM.rc, hM.rd0, hM.now.rc, obind, hv, hfr, r6]
          rw [if_neg (by decide), if_neg hs0, ixR_abs hk, if_neg (by decide), if_pos (show nI rs.length = 12 from by rw [show rs.length = 12 by omega]; rfl)]
        · rw [if_neg hf]
          obtain ⟨S1, a1, a2, a3⟩ := hM.now.wr6 (v := nI (rs.length + 1))
          obtain ⟨hM1, -⟩ := hM.setNow a3 a2
          obtain ⟨S2, c1, c2, c3⟩ := hM1.now.stRR (k := rs.length) (v := nm) (by omega)
          obtain ⟨hM2, -⟩ := hM1.setNow c3 c2
          obtain ⟨S3, d1, d2, d3⟩ := hM2.now.stV (k := rs.length) (v := x) (by omega)
          obtain ⟨hM3, -⟩ := hM2.setNow d3 d2
          have hps : rPS (D0.1, D0.2.1, D0.2.2.1, va_up D0.2.2.2.1 rs.length nm, D0.2.2.2.2.1, va_up D0.2.2.2.2.2.1 rs.length x, nI (rs.length + 1)) (X.1.1, X.1.2 ++ [(nm, x)]) := by
            refine hP.upR (D' := (D0.1, D0.2.1, D0.2.2.1, va_up D0.2.2.2.1 rs.length nm, D0.2.2.2.2.1, va_up D0.2.2.2.2.2.1 rs.length x, nI (rs.length + 1))) ⟨rfl, rfl, rfl, rfl⟩ ⟨rs ++ [(nm, x)], p1.append_right _, ?_, fun j z hj => ?_⟩
            · show nI (rs.length + 1) = nI (rs ++ [(nm, x)]).length
              simp
            · show va_up D0.2.2.2.1 rs.length nm j = z.1 ∧ va_up D0.2.2.2.2.2.1 rs.length x j = z.2
              by_cases hj' : j < rs.length
              · rw [List.getElem?_append_left hj'] at hj
                rw [va_up_ne _ _ (by omega), va_up_ne _ _ (by omega)]
                exact p3 j z hj
              · have hkl : j < (rs ++ [(nm, x)]).length := (List.getElem?_eq_some_iff.mp hj).1
                have : j = rs.length := by simp at hkl; omega
                subst this
                simp at hj
                subst hj
                exact ⟨va_up_self _ _ _, va_up_self _ _ _⟩
          obtain ⟨r1, r2⟩ := rX.now hM h1 h2 h3 (a3.tr (c3.tr d3)) d2 hps
          refine ⟨S3, ?_, r1, r2⟩
          simp only [f_M_root, hM.rc, hM.rd0, hM.now.rc, obind, hv, hfr, r6]
          rw [if_neg (by decide), if_neg hs0, ixR_abs hk, if_neg (by decide), if_neg (show ¬ nI rs.length = 12 from fun e => hf (by have := (nI_eqi (b := 12) (by omega) (by decide)).mp e; omega)), nI_s, a1]
          simp only [obind, hM1.rd0, hM1.now.rd3, c1, hM2.rd0, hM2.now.rd5, hval, d1, hM3.rd0, hM3.now.rd6]
          rw [hlen]
end RR2
