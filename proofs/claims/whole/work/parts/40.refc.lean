theorem i64_of {b : Nat} (hb : b < 2 ^ 31) : (nI b).toInt64 = Int64.ofNat b := Int64.toInt_inj.mp (by rw [Int32.toInt_toInt64, nI_toInt hb, Int64.toInt_ofNat_of_lt (by omega)])
section RC
variable {S : mc_S} {mb : Nat} {sg : Nat → Nat} {lg : Int32} {D0 D1 D2 : rD} {b0 b1 b2 : Int32} {Dw : Nat → rD} {bw : Nat → Int32} {X : pX}
theorem zm_cr0 (ws : List (pS × Nat)) (hM : rM S mb sg ws.length lg D0 D1 D2 b0 b1 b2 Dw bw) (hB : ∀ i q, ws[i]? = some q → bw i = nI q.2 ∧ q.2 ≤ 4000) {n : Nat} (hn : n < 2 ^ 31) : ∀ (d l fu sum : Nat), l + d = ws.length → d + 20 < fu → sum ≤ n → ∃ (fu' : Nat) (y' : Int64), 18 < fu' ∧ g_M_crash mb fu 0 (nI n) (nI l) (Int64.ofNat sum) 0 S = g_M_crash mb fu' 1 (nI n) (nI (l + pLeft (ws.drop l) (n - sum))) y' (nI (l + pLeft (ws.drop l) (n - sum))) S := by
  have hw8 := hM.2.2.2.2.2.2.2.2.2.2
  intro d
  induction d with
  | zero =>
    intro l fu sum hl hfu hsum
    obtain ⟨fu, rfl⟩ : ∃ q, fu = q + 1 := ⟨fu - 1, by omega⟩
    refine ⟨fu, Int64.ofNat sum, by omega, ?_⟩
    show q_M_crash_0 mb (g_M_crash mb fu) (nI n) (nI l) (Int64.ofNat sum) 0 S = _
    simp only [q_M_crash_0, hM.rd4, obind]
    rw [if_pos ((nI_lei (by omega) (by omega)).mpr (by omega)), List.drop_eq_nil_of_le (by omega)]
    rfl
  | succ d ih =>
    intro l fu sum hl hfu hsum
    obtain ⟨fu, rfl⟩ : ∃ q, fu = q + 1 := ⟨fu - 1, by omega⟩
    have hl1 : l < ws.length := by omega
    have hd1 : ws.drop l = ws[l] :: ws.drop (l + 1) := List.drop_eq_getElem_cons hl1
    obtain ⟨hb1, hb2⟩ := hB l ws[l] (List.getElem?_eq_getElem hl1)
    have hwt := hM.wait (k := l) (by omega)
    have r7 := hwt.rd7
    rw [hb1] at r7
    have hsum2 : Int64.ofNat sum + (nI ws[l].2).toInt64 = Int64.ofNat (sum + ws[l].2) := by rw [i64_of (by omega), Int64.ofNat_add]
    have hcmp : (nI n).toInt64 < Int64.ofNat (sum + ws[l].2) ↔ n < sum + ws[l].2 := by
      rw [i64_of hn]
      exact Int64.ofNat_lt_iff_lt (by omega) (by omega)
    have pre : g_M_crash mb (fu + 1) 0 (nI n) (nI l) (Int64.ofNat sum) 0 S = if 0 < (lg_cmp (Int64.ofNat (sum + ws[l].2)) (nI n).toInt64) then (g_M_crash mb fu 1 (nI n) (nI l) (Int64.ofNat sum) (nI l) S) else (g_M_crash mb fu 0 (nI n) (nI (l + 1)) (Int64.ofNat (sum + ws[l].2)) 0 S) := by
      show q_M_crash_0 mb (g_M_crash mb fu) (nI n) (nI l) (Int64.ofNat sum) 0 S = _
      simp only [q_M_crash_0, hM.rd4, hM.rd3, obind]
      rw [if_neg (fun q => by have := (nI_lei (by omega) (by omega)).mp q; omega), hM.ldw (by omega)]
      simp only [obind, r7, hsum2, nI_s]
    rw [pre, hd1]
    by_cases hc : ws[l].2 ≤ n - sum
    · rw [if_neg (fun q => by have := hcmp.mp (lc_gt.mp q); omega)]
      obtain ⟨fu', y', g1, g2⟩ := ih (l + 1) fu (sum + ws[l].2) (by omega) (by omega) (by omega)
      refine ⟨fu', y', g1, ?_⟩
      rw [g2]
      have : pLeft (ws[l] :: ws.drop (l + 1)) (n - sum) = pLeft (ws.drop (l + 1)) (n - (sum + ws[l].2)) + 1 := by
        show (if ws[l].2 ≤ n - sum then pLeft (ws.drop (l + 1)) (n - sum - ws[l].2) + 1 else 0) = _
        rw [if_pos hc, Nat.sub_sub]
      rw [this]
      rw [show l + 1 + pLeft (ws.drop (l + 1)) (n - (sum + ws[l].2)) = l + (pLeft (ws.drop (l + 1)) (n - (sum + ws[l].2)) + 1) by omega]
    · rw [if_pos (lc_gt.mpr (hcmp.mpr (by omega)))]
      refine ⟨fu, Int64.ofNat sum, by omega, ?_⟩
      have : pLeft (ws[l] :: ws.drop (l + 1)) (n - sum) = 0 := by
        show (if ws[l].2 ≤ n - sum then pLeft (ws.drop (l + 1)) (n - sum - ws[l].2) + 1 else 0) = _
        rw [if_neg hc]
      rw [this]
      rfl
theorem pWX.at (hw : pWX X) (i : Nat) : pWf (pAt X i) := by
  unfold pAt
  cases i with
  | zero => exact hw.2.1
  | succ i =>
    rw [List.getElem?_cons_succ, List.getElem?_map]
    cases h : X.2.2.1[i]? with
    | none => exact hw.2.1
    | some q => exact (hw.2.2.1 q (List.mem_of_getElem? h)).1
theorem zm_cr1 (x1 : Int32) (y : Int64) {left : Nat} : ∀ (d k fu : Nat) (S : mc_S) (X : pX), k + d = X.2.2.1.length → d < fu → left ≤ X.2.2.1.length → pWX X → rX S mb X → ∃ S', g_M_crash mb fu 1 x1 (nI left) y (nI k) S = some (nI left, S') ∧ rX S' mb (pAt X left, pAt X left, [], pLost (X.2.2.1.drop k) X.2.2.2) ∧ mfr S S' mb := by
  intro d
  induction d with
  | zero =>
    intro k fu S X hk hfu hleft hw h
    obtain ⟨fu, rfl⟩ : ∃ q, fu = q + 1 := ⟨fu - 1, by omega⟩
    obtain ⟨sg, D0, D1, D2, b0, b1, b2, Dw, bw, hM, hP, h1, h2, h3⟩ := h
    have hw8 := hM.2.2.2.2.2.2.2.2.2.2

    have tail : ∀ (S : mc_S) (D2 : rD), rM S mb sg X.2.2.1.length X.2.2.2 D0 D1 D2 b0 b1 b2 Dw bw → rPS D2 (pAt X left) → ∃ S', ((rdR S (some mb) 4 0).bind fun v16 => (rdR S (some mb) 4 2).bind fun v17 => (rcv S v16 5).bind fun b18 => (f_N_copy b18 v17 S).bind fun S19 => (rdR S19 (some mb) 4 1).bind fun v20 => (rdR S19 (some mb) 4 2).bind fun v21 => (rcv S19 v20 5).bind fun b22 => (f_N_copy b22 v21 S19).bind fun S23 => (wrV S23 (some mb) 4 4 (.int 0)).bind fun S24 => some (nI left, S24)) = some (nI left, S') ∧ rX S' mb (pAt X left, pAt X left, [], X.2.2.2) ∧ mfr S S' mb := by
      intro S D2 hM hp2
      obtain ⟨S1, D, a1, a2, a3, a4⟩ := zn_copy (t := mb + 1) (t' := mb + 15) (by omega) hM.now hM.safe
      obtain ⟨hM1, f1⟩ := hM.setNow a4 a2
      obtain ⟨S2, D', c1, c2, c3, c4⟩ := zn_copy (t := mb + 8) (t' := mb + 15) (by omega) hM1.kept hM1.safe
      obtain ⟨hM2, f2⟩ := hM1.setKept c4 c2
      obtain ⟨hM3, f3⟩ := hM2.setObj (wt' := 0) (lg' := X.2.2.2) (by omega)
      refine ⟨_, ?_, ⟨sg, D, D', D2, b0, b1, b2, Dw, bw, hM3, hp2.ag (hw.at left) a3, hp2.ag (hw.at left) c3, hp2, fun i q hq => by cases hq⟩, f1.tr (f2.tr f3)⟩
      simp only [hM.rd0, hM.rd2, hM.now.rc, obind, a1, hM1.rd1, hM1.rd2, hM1.kept.rc, c1]
      rw [show (0 : Int32) = nI 0 from rfl, show wrV S2 (some mb) 4 4 (.int (nI 0)) = _ from mwr4 (z := S2.2) (v := 0) hM2.1]
      rfl
    have hlost : pLost (X.2.2.1.drop k) X.2.2.2 = X.2.2.2 := by rw [List.drop_eq_nil_of_le (by omega)]; rfl
    rw [hlost]

    by_cases hl0 : left = 0
    · subst hl0
      obtain ⟨S', g1, g2, g3⟩ := tail S D2 hM h2
      refine ⟨S', ?_, g2, g3⟩
      show q_M_crash_1 mb (g_M_crash mb fu) x1 (nI 0) y (nI k) S = _
      simp only [q_M_crash_1, hM.rd4, obind]
      rw [if_pos ((nI_lei (by omega) (by omega)).mpr (by omega)), if_pos (by decide)]
      exact g1
    · obtain ⟨l1, hl1⟩ : ∃ l1, left = l1 + 1 := ⟨left - 1, by omega⟩
      have hl2 : l1 < X.2.2.1.length := by omega
      have hq := h3 l1 X.2.2.1[l1] (List.getElem?_eq_getElem hl2)
      have hat : pAt X left = X.2.2.1[l1].1 := by
        subst hl1
        unfold pAt
        rw [List.getElem?_cons_succ, List.getElem?_map, List.getElem?_eq_getElem hl2]
        rfl
      have hsg := hM.2.2.1 l1 (by omega)
      obtain ⟨S1, D, a1, a2, a3, a4⟩ := zn_copy (t := mb + 15) (t' := mb + 25 + 7 * sg l1) (by omega) hM.safe (hM.wait (show l1 < 8 by omega))
      obtain ⟨hM1, f1⟩ := hM.setSafe a4 a2
      have hwl : pWf X.2.2.1[l1].1 := (hw.2.2.1 _ (List.getElem_mem hl2)).1
      obtain ⟨S', g1, g2, g3⟩ := tail S1 D hM1 (by rw [hat]; exact hq.1.ag hwl a3)
      refine ⟨S', ?_, g2, f1.tr g3⟩
      show q_M_crash_1 mb (g_M_crash mb fu) x1 (nI left) y (nI k) S = _
      simp only [q_M_crash_1, hM.rd4, hM.rd2, hM.rd3, obind]
      rw [if_pos ((nI_lei (by omega) (by omega)).mpr (by omega)), if_neg (nI_nle (by omega) (by omega))]
      rw [show nI left - 1 = nI l1 from by rw [hl1, nI_p], hM.ldw (show l1 < 8 by omega)]
      simp only [obind, hM.safe.rc, a1]
      exact g1
  | succ d ih =>
    intro k fu S X hk hfu hleft hw h
    obtain ⟨fu, rfl⟩ : ∃ q, fu = q + 1 := ⟨fu - 1, by omega⟩
    obtain ⟨sg, D0, D1, D2, b0, b1, b2, Dw, bw, hM, hP, h1, h2, h3⟩ := h
    have hw8 := hM.2.2.2.2.2.2.2.2.2.2
    have hk1 : k < X.2.2.1.length := by omega
    have hd1 : X.2.2.1.drop k = X.2.2.1[k] :: X.2.2.1.drop (k + 1) := List.drop_eq_getElem_cons hk1
    have hq := h3 k X.2.2.1[k] (List.getElem?_eq_getElem hk1)
    have r7 := (hM.wait (show k < 8 by omega)).rd7
    rw [hq.2] at r7
    obtain ⟨hM1, f1⟩ := hM.setObj (wt' := X.2.2.1.length) (lg' := X.2.2.2 - nI X.2.2.1[k].2) hw8
    obtain ⟨S', g1, g2, g3⟩ := ih (k + 1) fu _ (X.1, X.2.1, X.2.2.1, X.2.2.2 - nI X.2.2.1[k].2) (by show k + 1 + d = X.2.2.1.length; omega) (by omega) hleft hw ⟨sg, D0, D1, D2, b0, b1, b2, Dw, bw, hM1, hP, h1, h2, h3⟩
    refine ⟨S', ?_, ?_, f1.tr g3⟩
    · show q_M_crash_1 mb (g_M_crash mb fu) x1 (nI left) y (nI k) S = _
      simp only [q_M_crash_1, hM.rd4, hM.rd5, hM.rd3, obind]
      rw [if_neg (fun q => by have := (nI_lei (by omega) (by omega)).mp q; omega), hM.ldw (show k < 8 by omega)]
      simp only [obind, r7]
      rw [show wrV S (some mb) 4 5 (.int (X.2.2.2 - nI X.2.2.1[k].2)) = _ from mwr5 (z := S.2) hM.1]
      simp only [obind, nI_s]
      exact g1
    · rw [hd1]
      exact g2
theorem zm_crash (h : rX S mb X) (hw : pWX X) (a : Int32) : ∃ S', f_M_crash mb a S = some ((pCrash X a).1, S') ∧ rX S' mb (pCrash X a).2 ∧ mfr S S' mb := by
  unfold pCrash
  by_cases h0 : a < 0
  · rw [if_pos h0]
    refine ⟨S, ?_, h, mfr.rf⟩
    unfold f_M_crash
    rw [if_neg (Int32.not_le.mpr h0)]
  · rw [if_neg h0]
    obtain ⟨sg, D0, D1, D2, b0, b1, b2, Dw, bw, hM, hP, h1, h2, h3⟩ := id h
    have hle := pLeft_le X.2.2.1 a.toNatClampNeg
    obtain ⟨fu', y', q1, q2⟩ := zm_cr0 X.2.2.1 hM (fun i q hq => ⟨(h3 i q hq).2, (hw.2.2.1 q (List.mem_of_getElem? hq)).2⟩) (Int32.toNatClampNeg_lt a) X.2.2.1.length 0 5000 0 (by omega) (by have := hw.2.2.2; omega) (by omega)
    rw [nI_at h0, List.drop_zero, Nat.sub_zero] at q2
    simp only [Nat.zero_add] at q2
    obtain ⟨S', g1, g2, g3⟩ := zm_cr1 (mb := mb) a y' (left := pLeft X.2.2.1 a.toNatClampNeg) (X.2.2.1.length - pLeft X.2.2.1 a.toNatClampNeg) (pLeft X.2.2.1 a.toNatClampNeg) fu' S X (by omega) (by have := hw.2.2.2; omega) hle hw h
    refine ⟨S', ?_, ?_, g3⟩
    · unfold f_M_crash
      rw [if_pos (Int32.not_lt.mp h0)]
      have e : g_M_crash mb 5000 0 a 0 0 0 S = g_M_crash mb 5000 0 a (nI 0) (Int64.ofNat 0) 0 S := rfl
      rw [e, q2, g1]
    · show rX S' mb (pKept (X.1, X.2.1, X.2.2.1.take (pLeft X.2.2.1 a.toNatClampNeg), X.2.2.2), pKept (X.1, X.2.1, X.2.2.1.take (pLeft X.2.2.1 a.toNatClampNeg), X.2.2.2), [], pLost (X.2.2.1.drop (pLeft X.2.2.1 a.toNatClampNeg)) X.2.2.2)
      rw [pKept_at X hle]
      exact g2
end RC
