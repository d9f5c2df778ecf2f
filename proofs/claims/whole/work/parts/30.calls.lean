theorem cc1 : cCap 1 = 8 := by decide
theorem cc2 : cCap 2 = 20 := by decide
theorem pX_eta (X : pX) : (X.1, X.2) = X := rfl
theorem lcN {x : Int64} : lg_cmp x (-1099511627776) = 0 ↔ x = -pNIL := lc_eq
section KC
variable {S : mc_S} {kb : Nat} {X : pX}
theorem zk_set (h : cX S kb X) (o nm sort v : Int32) : ∃ S', f_K_set kb o nm sort v S = some ((pSet X.1 o nm sort v).1, S') ∧ cX S' kb ((pSet X.1 o nm sort v).2, X.2) ∧ kfr S S' kb := by
  obtain ⟨no, nr, ro, rr, sa, rb, hY⟩ := h
  have hM := hY.1
  have hv := zk_valueOf hM hY.2.2.1 sort v
  unfold pSet
  cases hpf : pFind X.1 o 1 with
  | none =>
    have ho := zk_own0 hY hpf
    refine ⟨S, ?_, ⟨no, nr, ro, rr, sa, rb, by cases pVal X.1 sort v <;> exact hY⟩, kfr.rf⟩
    simp only [f_K_set, hM.rc, obind, hv, ho]
    rw [if_pos trivial]
    cases pVal X.1 sort v <;> split <;> rfl
  | some es =>
    obtain ⟨S1, no', b, e1, hY1, e2, e3, e4, ⟨h0, h1, hx⟩, e5⟩ := zk_own1 hY hpf
    cases hpv : pVal X.1 sort v with
    | none =>
      refine ⟨S1, ?_, ⟨no', nr, ro, rr, sa, rb, hY1⟩, e5⟩
      simp only [f_K_set, hM.rc, obind, hv, e1, hpv, Option.getD_none]
      rw [if_pos (lcN.mpr rfl)]
    | some x =>
      rw [cc1] at e4
      obtain ⟨S2, g1, g2, g3⟩ := zs_assign e4 nm x
      obtain ⟨q1, q2⟩ := hY1.mut (f := 1) (nI_lt100 h0 h1) e2 e3 g3 (by rw [cc1]; exact g2)
      refine ⟨S2, ?_, ⟨no', nr, ro, rr, sa, rb, q1⟩, e5.tr q2⟩
      simp only [f_K_set, hM.rc, obind, hv, e1, hpv, Option.getD_some]
      rw [if_neg (fun q => pVal_ne hpv (lcN.mp q)), if_neg (fun q => by cases q)]
      simp only [e4.rc, obind, g1]
theorem zk_get (h : cX S kb X) (o nm : Int32) : f_K_get kb o nm S = some (pGet X.1 o nm, S) := by
  obtain ⟨no, nr, ro, rr, sa, rb, hY⟩ := h
  have hM := hY.1
  unfold pGet
  cases hpf : pFind X.1 o 1 with
  | none =>
    simp only [f_K_get, hM.rd0, hM.now.rc, obind, zt_find0 hM.now hY.2.2.1 hpf]
    rw [if_pos trivial]
    rfl
  | some es =>
    obtain ⟨-, b, hb, hs, hfd⟩ := zt_find1 hM.now hY.2.2.1 hpf
    simp only [f_K_get, hM.rd0, hM.now.rc, obind, hfd]
    rw [if_neg (fun q => by cases q)]
    simp only [hs.rc, obind, zs_named hs]
theorem zk_push (h : cX S kb X) (o sort v : Int32) : ∃ S', f_K_push kb o sort v S = some ((pPush X.1 o sort v).1, S') ∧ cX S' kb ((pPush X.1 o sort v).2, X.2) ∧ kfr S S' kb := by
  obtain ⟨no, nr, ro, rr, sa, rb, hY⟩ := h
  have hM := hY.1
  have hv := zk_valueOf hM hY.2.2.1 sort v
  unfold pPush
  cases hpf : pFind X.1 o 2 with
  | none =>
    have ho := zk_own0 hY hpf
    refine ⟨S, ?_, ⟨no, nr, ro, rr, sa, rb, by cases pVal X.1 sort v <;> exact hY⟩, kfr.rf⟩
    simp only [f_K_push, hM.rc, obind, hv, ho]
    rw [if_pos trivial]
    cases pVal X.1 sort v <;> split <;> rfl
  | some es =>
    obtain ⟨S1, no', b, e1, hY1, e2, e3, e4, ⟨h0, h1, hx⟩, e5⟩ := zk_own1 hY hpf
    cases hpv : pVal X.1 sort v with
    | none =>
      refine ⟨S1, ?_, ⟨no', nr, ro, rr, sa, rb, hY1⟩, e5⟩
      simp only [f_K_push, hM.rc, obind, hv, e1, hpv, Option.getD_none]
      rw [if_pos (lcN.mpr rfl)]
    | some x =>
      rw [cc2] at e4
      simp only
      by_cases hfl : 20 ≤ es.length
      · rw [if_pos hfl]
        refine ⟨S1, ?_, ⟨no', nr, ro, rr, sa, rb, hY1⟩, e5⟩
        simp only [f_K_push, hM.rc, obind, hv, e1, hpv, Option.getD_some]
        rw [if_neg (fun q => pVal_ne hpv (lcN.mp q)), if_neg (fun q => by cases q)]
        simp only [e4.rc, obind, zs_append0 e4 (by omega)]
      · rw [if_neg hfl]
        obtain ⟨S2, g1, g2, g3⟩ := zs_append1 e4 (by omega) 0 x
        obtain ⟨q1, q2⟩ := hY1.mut (f := 2) (nI_lt100 h0 h1) e2 e3 g3 (by rw [cc2]; exact g2)
        refine ⟨S2, ?_, ⟨no', nr, ro, rr, sa, rb, q1⟩, e5.tr q2⟩
        simp only [f_K_push, hM.rc, obind, hv, e1, hpv, Option.getD_some]
        rw [if_neg (fun q => pVal_ne hpv (lcN.mp q)), if_neg (fun q => by cases q)]
        simp only [e4.rc, obind, g1]
theorem zk_pop (h : cX S kb X) (o : Int32) : ∃ S', f_K_pop kb o S = some ((pPop X.1 o).1, S') ∧ cX S' kb ((pPop X.1 o).2, X.2) ∧ kfr S S' kb := by
  obtain ⟨no, nr, ro, rr, sa, rb, hY⟩ := h
  have hM := hY.1
  unfold pPop
  cases hpf : pFind X.1 o 2 with
  | none =>
    have ho := zk_own0 hY hpf
    refine ⟨S, ?_, ⟨no, nr, ro, rr, sa, rb, hY⟩, kfr.rf⟩
    simp only [f_K_pop, hM.rc, obind, ho]
    rw [if_pos trivial]
    rfl
  | some es =>
    obtain ⟨S1, no', b, e1, hY1, e2, e3, e4, ⟨h0, h1, hx⟩, e5⟩ := zk_own1 hY hpf
    simp only
    cases hl : es.getLast? with
    | none =>
      have hnil : es = [] := List.getLast?_eq_none_iff.mp hl
      subst hnil
      refine ⟨S1, ?_, ⟨no', nr, ro, rr, sa, rb, hY1⟩, e5⟩
      simp only [f_K_pop, hM.rc, obind, e1]
      rw [if_neg (fun q => by cases q)]
      simp only [e4.rc, obind, zs_takeLast0 e4]
    | some q =>
      obtain ⟨ys, hys⟩ := List.getLast?_eq_some_iff.mp hl
      subst hys
      obtain ⟨S2, g1, g2, g3⟩ := zs_takeLast e4
      obtain ⟨q1, q2⟩ := hY1.mut (f := 2) (nI_lt100 h0 h1) e2 e3 g3 g2
      refine ⟨S2, ?_, ⟨no', nr, ro, rr, sa, rb, by simpa [pPut] using q1⟩, e5.tr q2⟩
      simp only [f_K_pop, hM.rc, obind, e1]
      rw [if_neg (fun q => by cases q)]
      simp only [e4.rc, obind, g1]
theorem pIn_iff {k : Int32} {n : Nat} (hn : n < 2 ^ 31) : (¬ k < 0 ∧ k < nI n) ↔ pIn k n := by
  constructor
  · intro ⟨h0, h1⟩
    refine ⟨h0, ?_⟩
    rw [← nI_at h0] at h1
    exact (nI_lti (Int32.toNatClampNeg_lt k) hn).mp h1
  · intro ⟨h0, h1⟩
    refine ⟨h0, ?_⟩
    rw [← nI_at h0]
    exact (nI_lti (Int32.toNatClampNeg_lt k) hn).mpr h1
theorem zs_putAt {b cap : Nat} {form : Int32} {es : List pe} (hs : slP S b form cap es) {k : Nat} (hk : k < es.length) (x : Int64) (hn0 : ∀ z ∈ es, z.1 = 0) : ∃ S', stL S (some (b + 2)) 1 (nI k) x = some S' ∧ slP S' b form cap (es.set k (0, x)) ∧ sfr S S' b := by
  obtain ⟨hl, hc, hM, nf, vf, hn, hv, he⟩ := hs
  refine ⟨(va_up S.1 (b + 2) (some (.inl (1, cap, .inr (.inl (va_up vf k x))))), S.2), stL_at hv (by omega) (by omega), ⟨by simp; omega, hc, by rw [List.length_set]; exact up_ne (by omega) hM, nf, va_up vf k x, up_ne (by omega) hn, up_eq, fun j q hj => ?_⟩, rfl, fun a _ _ h2 => up_ne h2 rfl⟩
  rw [List.getElem?_set] at hj
  by_cases hjk : k = j
  · rw [if_pos hjk, if_pos hk] at hj
    subst hjk
    cases hj
    have hq := he _ es[k] (List.getElem?_eq_getElem hk)
    have := hn0 es[k] (List.getElem_mem hk)
    rw [hq] at this
    have : nf k = 0 := this
    rw [va_up_self, this]
  · rw [if_neg hjk] at hj
    rw [va_up_ne _ _ (Ne.symm hjk)]
    exact he j q hj
theorem zk_put (h : cX S kb X) (hw : pWf X.1) (o k sort v : Int32) : ∃ S', f_K_put kb o k sort v S = some ((pPutAt X.1 o k sort v).1, S') ∧ cX S' kb ((pPutAt X.1 o k sort v).2, X.2) ∧ kfr S S' kb := by
  obtain ⟨no, nr, ro, rr, sa, rb, hY⟩ := h
  have hM := hY.1
  have hv := zk_valueOf hM hY.2.2.1 sort v
  unfold pPutAt
  cases hpf : pFind X.1 o 2 with
  | none =>
    have ho := zk_own0 hY hpf
    refine ⟨S, ?_, ⟨no, nr, ro, rr, sa, rb, by cases pVal X.1 sort v <;> exact hY⟩, kfr.rf⟩
    simp only [f_K_put, hM.rc, obind, hv, ho]
    rw [if_pos trivial]
    cases pVal X.1 sort v <;> split <;> rfl
  | some es =>
    obtain ⟨S1, no', b, e1, hY1, e2, e3, e4, ⟨h0, h1, hx⟩, e5⟩ := zk_own1 hY hpf
    cases hpv : pVal X.1 sort v with
    | none =>
      refine ⟨S1, ?_, ⟨no', nr, ro, rr, sa, rb, hY1⟩, e5⟩
      simp only [f_K_put, hM.rc, obind, hv, e1, hpv, Option.getD_none]
      rw [if_pos (lcN.mpr rfl)]
    | some x =>
      simp only
      have hh := zs_holds e4 k
      by_cases hin : pIn k es.length
      · rw [if_pos hin]
        rw [if_pos ((pIn_iff e4.len).mpr hin)] at hh
        have hz0 : ∀ z ∈ es, z.1 = 0 := by
          rcases (hw.1 _ _ (nI_lt100 h0 h1) hx).1 with q | q
          · exact absurd (show (2 : Int32) = 1 from q.1) (by decide)
          · exact q.2.2
        obtain ⟨S2, g1, g2, g3⟩ := zs_putAt e4 hin.2 x hz0
        obtain ⟨q1, q2⟩ := hY1.mut (f := 2) (nI_lt100 h0 h1) e2 e3 g3 g2
        refine ⟨S2, ?_, ⟨no', nr, ro, rr, sa, rb, q1⟩, e5.tr q2⟩
        simp only [f_K_put, hM.rc, obind, hv, e1, hpv, Option.getD_some]
        rw [if_neg (fun q => pVal_ne hpv (lcN.mp q)), if_neg (fun q => by cases q)]
        simp only [e4.rc, obind, hh]
        rw [if_neg (by decide)]
        simp only [e4.rd2, obind]
        rw [nI_at hin.1] at g1
        rw [g1]
        rfl
      · rw [if_neg hin]
        rw [if_neg (fun q => hin ((pIn_iff e4.len).mp q))] at hh
        refine ⟨S1, ?_, ⟨no', nr, ro, rr, sa, rb, hY1⟩, e5⟩
        simp only [f_K_put, hM.rc, obind, hv, e1, hpv, Option.getD_some]
        rw [if_neg (fun q => pVal_ne hpv (lcN.mp q)), if_neg (fun q => by cases q)]
        simp only [e4.rc, obind, hh]
        rw [if_pos trivial]
theorem zk_item (h : cX S kb X) (o k : Int32) : f_K_item kb o k S = some (pItem X.1 o k, S) := by
  obtain ⟨no, nr, ro, rr, sa, rb, hY⟩ := h
  have hM := hY.1
  unfold pItem
  cases hpf : pFind X.1 o 2 with
  | none =>
    simp only [f_K_item, hM.rd0, hM.now.rc, obind, zt_find0 hM.now hY.2.2.1 hpf]
    rw [if_pos trivial]
    rfl
  | some es =>
    obtain ⟨-, b, hb, hs, hfd⟩ := zt_find1 hM.now hY.2.2.1 hpf
    have hh := zs_holds hs k
    simp only [f_K_item, hM.rd0, hM.now.rc, obind, hfd]
    rw [if_neg (fun q => by cases q)]
    simp only [hs.rc, obind]
    by_cases hin : pIn k es.length
    · rw [if_pos ((pIn_iff hs.len).mpr hin)] at hh
      rw [hh, if_pos hin]
      simp only [obind]
      rw [if_neg (by decide)]
      simp only [hs.rd2, obind]
      obtain ⟨hl, hc, hMs, nf, vf, hn, hv, he⟩ := hs
      have hld := ldL_at (k := k.toNatClampNeg) hv (by have := hin.2; omega) (by omega)
      rw [nI_at hin.1] at hld
      rw [hld]
      have hin2 : k.toNatClampNeg < es.length := hin.2
      have hq := he _ es[k.toNatClampNeg] (List.getElem?_eq_getElem hin2)
      simp only [obind, List.getD_eq_getElem?_getD, List.getElem?_eq_getElem hin2, Option.getD_some]
      rw [hq]
    · rw [if_neg (fun q => hin ((pIn_iff hs.len).mp q))] at hh
      rw [hh, if_neg hin]
      simp only [obind]
      rw [if_pos trivial]
      rfl
theorem zk_root (h : cX S kb X) (nm sort v : Int32) : ∃ S', f_K_root kb nm sort v S = some ((pRoot X.1 nm sort v).1, S') ∧ cX S' kb ((pRoot X.1 nm sort v).2, X.2) ∧ kfr S S' kb := by
  obtain ⟨no, nr, ro, rr, sa, rb, hY⟩ := h
  have hM := hY.1
  have hv := zk_valueOf hM hY.2.2.1 sort v
  unfold pRoot
  cases hpv : pVal X.1 sort v with
  | none =>
    refine ⟨S, ?_, ⟨no, nr, ro, rr, sa, rb, hY⟩, kfr.rf⟩
    simp only [f_K_root, hM.rc, obind, hv, hpv, Option.getD_none]
    rw [if_pos (lcN.mpr rfl)]
  | some x =>
    obtain ⟨S1, b, e1, hY1, e3, e4, e5⟩ := zk_ownRoots hY
    obtain ⟨S2, g1, g2, g3⟩ := zs_assign e4 nm x
    obtain ⟨q1, q2⟩ := hY1.mutR e3 g3 g2
    refine ⟨S2, ?_, ⟨no, b, ro, rr, sa, rb, q1⟩, e5.tr q2⟩
    simp only [f_K_root, hM.rc, obind, hv, hpv, Option.getD_some]
    rw [if_neg (fun q => pVal_ne hpv (lcN.mp q))]
    simp only [e1, obind, e4.rc, g1]
theorem zk_rooted (h : cX S kb X) (nm : Int32) : f_K_rooted kb nm S = some (pLook X.1.2 nm, S) := by
  obtain ⟨no, nr, ro, rr, sa, rb, hY⟩ := h
  have hM := hY.1
  have hs := hY.2.2.1.2
  simp only [f_K_rooted, hM.rd0, hM.now.rd1, obind, hs.rc, zs_named hs]
theorem zk_kind (h : cX S kb X) (o : Int32) : f_K_kind kb o S = some (pKind X.1 o, S) := by
  obtain ⟨no, nr, ro, rr, sa, rb, hY⟩ := h
  have hM := hY.1
  unfold f_K_kind pKind
  by_cases h0 : o < 0
  · rw [if_pos h0, if_neg (fun q => q.1 h0)]
  · rw [if_neg h0]
    by_cases h1 : o < 100
    · rw [if_pos h1, if_pos ⟨h0, h1⟩]
      simp only [hM.rd0, hM.now.rd0, obind, hM.now.ldx h0 h1]
      have hb := hY.2.2.1.1 _ (nI_lt100 h0 h1)
      cases hx : X.1.1 o.toNatClampNeg with
      | none =>
        rw [hx] at hb
        rw [if_pos (show no o.toNatClampNeg = none from hb)]
      | some q =>
        rw [hx] at hb
        obtain ⟨b, eb, hs⟩ := hb
        rw [eb, if_neg (fun q => by cases q)]
        simp only [hs.rd0, obind]
    · rw [if_neg h1, if_neg (fun q => h1 q.2)]
theorem zk_size (h : cX S kb X) (o : Int32) : f_K_size kb o S = some (pSize X.1 o, S) := by
  obtain ⟨no, nr, ro, rr, sa, rb, hY⟩ := h
  have hM := hY.1
  unfold f_K_size pSize
  by_cases h0 : o < 0
  · rw [if_pos h0, if_neg (fun q => q.1 h0)]
  · rw [if_neg h0]
    by_cases h1 : o < 100
    · rw [if_pos h1, if_pos ⟨h0, h1⟩]
      simp only [hM.rd0, hM.now.rd0, obind, hM.now.ldx h0 h1]
      have hb := hY.2.2.1.1 _ (nI_lt100 h0 h1)
      cases hx : X.1.1 o.toNatClampNeg with
      | none =>
        rw [hx] at hb
        rw [if_pos (show no o.toNatClampNeg = none from hb)]
      | some q =>
        rw [hx] at hb
        obtain ⟨b, eb, hs⟩ := hb
        rw [eb, if_neg (fun q => by cases q)]
        simp only [hs.rd3, obind]
    · rw [if_neg h1, if_neg (fun q => h1 q.2)]
theorem zk_count (h : cX S kb X) (w : Int32) : f_K_count kb w S = some (pCount X w, S) := by
  obtain ⟨no, nr, ro, rr, sa, rb, hY⟩ := h
  have hM := hY.1
  have hs := hY.2.2.1.2
  unfold f_K_count pCount
  simp only [hM.rd0, hM.rd5, hM.rd6, hM.now.rc, hM.now.rd1, obind, zt_there hM.now hY.2.2.1, hs.rd3]
  by_cases h0 : w = 0
  · rw [if_pos h0, if_pos h0]
  · rw [if_neg h0, if_neg h0]
    by_cases h1 : w = 1
    · rw [if_pos h1, if_pos h1]
    · rw [if_neg h1, if_neg h1]
      by_cases h2 : w = 2
      · rw [if_pos h2, if_pos h2]
      · rw [if_neg h2, if_neg h2]
        by_cases h3 : w = 3
        · rw [if_pos h3, if_pos h3]
        · rw [if_neg h3, if_neg h3]
theorem zk_make_g (h : cX S kb X) (row : Int32) : ∀ (d k n : Nat), k + d = 100 → d < n → ∃ S', g_K_make kb n row (nI k) S = some (if pFree X.1 d k < 100 then nI (pFree X.1 d k) else -3, S') ∧ cX S' kb (if pFree X.1 d k < 100 then ((va_up X.1.1 (pFree X.1 d k) (some (if row = 0 then 1 else 2, [])), X.1.2), X.2) else X) ∧ kfr S S' kb := by
  obtain ⟨no, nr, ro, rr, sa, rb, hY⟩ := id h
  have hM := hY.1
  intro d
  induction d with
  | zero =>
    intro k n hk hn
    obtain ⟨n, rfl⟩ : ∃ q, n = q + 1 := ⟨n - 1, by omega⟩
    obtain rfl : k = 100 := by omega
    refine ⟨S, ?_, by rw [if_neg (by show ¬ 100 < 100; omega)]; exact h, kfr.rf⟩
    rw [if_neg (by show ¬ 100 < 100; omega)]
    show q_K_make_0 kb (g_K_make kb n) row (nI 100) S = _
    simp only [q_K_make_0]
    rw [if_pos (show (100 : Int32) ≤ nI 100 from by decide)]
  | succ d ih =>
    intro k n hk hn
    obtain ⟨n, rfl⟩ : ∃ q, n = q + 1 := ⟨n - 1, by omega⟩
    have hk1 : k < 100 := by omega
    have hb := (hY.2.2.1.1 k hk1).none_iff
    have hcond : ¬ (100 : Int32) ≤ nI k := fun q => by have := (nI_lei (a := 100) (by decide) (by omega)).mp q; omega
    by_cases hx : X.1.1 k = none
    · have hfree : pFree X.1 (d + 1) k = k := by show (if X.1.1 k = none then k else _) = k; rw [if_pos hx]
      rw [hfree, if_pos hk1, if_pos hk1]
      have hrc : rcv (nwO 1 [.int 0, .null, .null, .int 0] S) (some S.2) 1 = some S.2 := rcv_at (show (nwO 1 [.int 0, .null, .null, .int 0] S).1 S.2 = _ from up_eq)
      by_cases hr : row = 0
      · obtain ⟨S1, e1, e2, e3, e4⟩ := zs_init S 1 (show 8 ≤ 20 by omega)
        obtain ⟨S', g1, g2, g3, g4, g5⟩ := cY.fresh hY hk1 e3 e4 (by rw [cc1]; exact e2)
        rw [if_pos hr]
        refine ⟨S', ?_, ⟨_, _, _, _, _, _, g2⟩, g5⟩
        show q_K_make_0 kb (g_K_make kb n) row (nI k) S = _
        simp only [q_K_make_0, hM.rd0, hM.now.rd0, obind, hM.now.ld hk1, hrc]
        rw [if_neg hcond, if_pos (hb.mpr hx), if_pos hr, show (8 : Int32) = nI 8 from rfl, e1]
        simp only [obind, g1]
      · obtain ⟨S1, e1, e2, e3, e4⟩ := zs_init S 2 (show 20 ≤ 20 by omega)
        obtain ⟨S', g1, g2, g3, g4, g5⟩ := cY.fresh hY hk1 e3 e4 (by rw [cc2]; exact e2)
        rw [if_neg hr]
        refine ⟨S', ?_, ⟨_, _, _, _, _, _, g2⟩, g5⟩
        show q_K_make_0 kb (g_K_make kb n) row (nI k) S = _
        simp only [q_K_make_0, hM.rd0, hM.now.rd0, obind, hM.now.ld hk1, hrc]
        rw [if_neg hcond, if_pos (hb.mpr hx), if_neg hr, show (20 : Int32) = nI 20 from rfl, e1]
        simp only [obind, g1]
    · have hfree : pFree X.1 (d + 1) k = pFree X.1 d (k + 1) := by show (if X.1.1 k = none then k else _) = _; rw [if_neg hx]
      rw [hfree]
      obtain ⟨S', g1, g2, g3⟩ := ih (k + 1) n (by omega) (by omega)
      refine ⟨S', ?_, g2, g3⟩
      show q_K_make_0 kb (g_K_make kb n) row (nI k) S = _
      simp only [q_K_make_0, hM.rd0, hM.now.rd0, obind, hM.now.ld hk1]
      rw [if_neg hcond, if_neg (fun q => hx (hb.mp q)), nI_s]
      exact g1
theorem zk_make (h : cX S kb X) (row : Int32) : ∃ S', f_K_make kb row S = some ((pMake X.1 row).1, S') ∧ cX S' kb ((pMake X.1 row).2, X.2) ∧ kfr S S' kb := by
  obtain ⟨S', g1, g2, g3⟩ := zk_make_g h row 100 0 5000 (by omega) (by omega)
  refine ⟨S', ?_, ?_, g3⟩
  · unfold f_K_make pMake
    rw [show (0 : Int32) = nI 0 from rfl, g1]
    split <;> rfl
  · unfold pMake
    split at g2
    · rename_i hq
      rw [if_pos hq]
      exact g2
    · rename_i hq
      rw [if_neg hq]
      exact g2
end KC
