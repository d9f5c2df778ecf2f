def mR (S : mc_S) (mb : Nat) (rf qf : Nat → Int32) : Prop := S.1 (mb + 23) = some (.inl (2, 100, .inl rf)) ∧ S.1 (mb + 24) = some (.inl (0, 100, .inl qf))
def wfr (S S' : mc_S) (mb : Nat) : Prop := S'.2 = S.2 ∧ ∀ a, a ≠ mb + 23 → a ≠ mb + 24 → S'.1 a = S.1 a
theorem wfr.rf {S : mc_S} {mb : Nat} : wfr S S mb := ⟨rfl, fun _ _ _ => rfl⟩
theorem wfr.tr {S S1 S2 : mc_S} {mb : Nat} (a : wfr S S1 mb) (b : wfr S1 S2 mb) : wfr S S2 mb := ⟨b.1.trans a.1, fun x h h' => (b.2 x h h').trans (a.2 x h h')⟩
theorem wfr.m {S S' : mc_S} {mb : Nat} (a : wfr S S' mb) : mfr S S' mb := ⟨a.1, fun x h => a.2 x (by omega) (by omega)⟩
theorem bI_add {P : pS} {rf qf : Nat → Int32} {n : Nat} (hb : bI P rf qf n) {o : Nat} (ho : o < 100) (hz : rf o = 0) (hr : pRch P o) : n < 100 ∧ bI P (va_up rf o 1) (va_up qf n (nI o)) (n + 1) ∧ bL rf qf n (va_up rf o 1) (va_up qf n (nI o)) (n + 1) := by
  obtain ⟨b1, b2, b3, b4, b5⟩ := hb
  have hn : n < 100 := by rw [b2]; exact cnt_lt rf hz ho
  refine ⟨hn, ⟨fun x hx => ?_, ?_, fun j hj => ?_, fun x hx hx1 => ?_, fun x hx hx1 => ?_⟩, by omega, fun j hj => va_up_ne _ _ (by omega), fun x hx => ?_⟩
  · by_cases hxo : x = o
    · subst hxo; exact Or.inr (va_up_self _ _ _)
    · rw [va_up_ne _ _ hxo]; exact b1 x hx
  · rw [cnt_up rf hz _ List.nodup_range (List.mem_range.mpr ho), ← b2]
  · by_cases hjn : j = n
    · subst hjn
      exact ⟨o, ho, va_up_self _ _ _, va_up_self _ _ _⟩
    · obtain ⟨x, hx, hq, hx1⟩ := b3 j (by omega)
      refine ⟨x, hx, by rw [va_up_ne _ _ hjn]; exact hq, ?_⟩
      by_cases hxo : x = o
      · subst hxo; exact va_up_self _ _ _
      · rw [va_up_ne _ _ hxo]; exact hx1
  · by_cases hxo : x = o
    · subst hxo
      exact ⟨n, by omega, va_up_self _ _ _⟩
    · rw [va_up_ne _ _ hxo] at hx1
      obtain ⟨j, hj, hq⟩ := b4 x hx hx1
      exact ⟨j, by omega, by rw [va_up_ne _ _ (by omega)]; exact hq⟩
  · by_cases hxo : x = o
    · subst hxo; exact hr
    · rw [va_up_ne _ _ hxo] at hx1
      exact b5 x hx hx1
  · by_cases hxo : x = o
    · subst hxo; exact va_up_self _ _ _
    · rw [va_up_ne _ _ hxo]; exact hx
theorem i64_d : ∀ o, o < 100 → ((pNIL + 1 + Int64.ofNat o - 1099511627776) - 1).toInt32 = nI o ∧ ¬ pNIL + 1 + Int64.ofNat o ≤ pNIL := by decide +kernel
theorem i64_i (i : Int32) : i.toInt64 ≤ pNIL := by
  rw [Int64.le_iff_toInt_le, Int32.toInt_toInt64, show pNIL.toInt = 1099511627776 from by decide]
  have := i.toInt_lt
  omega
theorem pRch_ex {P : pS} (hw : pWf P) {o : Nat} (h : pRch P o) : ¬ P.1 o = none := by
  refine h (fun o => ¬ P.1 o = none) ⟨fun x hx hp => ?_, fun a q ha _ hq x hx hp => ?_⟩
  · obtain ⟨z, hz, e⟩ := hp
    rcases (hw.2.2.2 z hz).1 with q | ⟨i, q⟩ | ⟨y, hy, q, q2⟩
    · rw [e] at q; exact absurd (by rw [q]; exact Int64.le_refl _) (i64_d x hx).2
    · rw [e] at q; exact absurd (by rw [q]; exact i64_i i) (i64_d x hx).2
    · rw [e] at q
      have h1 := congrArg (fun z => z - 1099511627777) q
      simp only [i64_c] at h1
      have : nI x = nI y := by rw [← (i64_r x hx).1, ← (i64_r y hy).1, h1]
      have : x = y := (nI_eqi (by omega) (by omega)).mp this
      subst this
      exact q2
  · obtain ⟨z, hz, e⟩ := hp
    rcases (hw.1 a q ha hq).2 z hz with q | ⟨i, q⟩ | ⟨y, hy, q, q2⟩
    · rw [e] at q; exact absurd (by rw [q]; exact Int64.le_refl _) (i64_d x hx).2
    · rw [e] at q; exact absurd (by rw [q]; exact i64_i i) (i64_d x hx).2
    · rw [e] at q
      have h1 := congrArg (fun z => z - 1099511627777) q
      simp only [i64_c] at h1
      have : nI x = nI y := by rw [← (i64_r x hx).1, ← (i64_r y hy).1, h1]
      have : x = y := (nI_eqi (by omega) (by omega)).mp this
      subst this
      exact q2
section RS
variable {mb : Nat} {sg : Nat → Nat} {wt : Nat} {lg : Int32} {D0 D1 D2 : rD} {b0 b1 b2 : Int32} {Dw : Nat → rD} {bw : Nat → Int32} {P : pS}
theorem rM.wf {S S' : mc_S} (h : rM S mb sg wt lg D0 D1 D2 b0 b1 b2 Dw bw) (hf : wfr S S' mb) {rf qf : Nat → Int32} (hr : mR S' mb rf qf) : rM S' mb sg wt lg D0 D1 D2 b0 b1 b2 Dw bw := by
  obtain ⟨h0, ⟨f1, h1, g1⟩, h2, h3, -, -, h6, h7, h8, h9, hw⟩ := h
  exact ⟨(hf.2 _ (by omega) (by omega)).trans h0, ⟨f1, (hf.2 _ (by omega) (by omega)).trans h1, g1⟩, h2, h3, ⟨rf, hr.1⟩, ⟨qf, hr.2⟩, h6.frame (fun a _ _ => hf.2 a (by omega) (by omega)), h7.frame (fun a _ _ => hf.2 a (by omega) (by omega)), h8.frame (fun a _ _ => hf.2 a (by omega) (by omega)), fun k hk => (h9 k hk).frame (fun a _ _ => hf.2 a (by omega) (by omega)), hw⟩
theorem zm_reach {S : mc_S} (hM : rM S mb sg wt lg D0 D1 D2 b0 b1 b2 Dw bw) {rf qf : Nat → Int32} {n : Nat} (hR : mR S mb rf qf) (hb : bI P rf qf n) {v : Int64} (hv : pOkV P v) (hr : ∀ o, o < 100 → v = pNIL + 1 + Int64.ofNat o → pRch P o) : ∃ (S' : mc_S) (rf' qf' : Nat → Int32) (n' : Nat), f_M_reach mb v (nI n) S = some (nI n', S') ∧ mR S' mb rf' qf' ∧ bI P rf' qf' n' ∧ bL rf qf n rf' qf' n' ∧ (∀ o, o < 100 → v = pNIL + 1 + Int64.ofNat o → rf' o = 1) ∧ wfr S S' mb := by
  have low : v ≤ pNIL → ∃ (S' : mc_S) (rf' qf' : Nat → Int32) (n' : Nat), f_M_reach mb v (nI n) S = some (nI n', S') ∧ mR S' mb rf' qf' ∧ bI P rf' qf' n' ∧ bL rf qf n rf' qf' n' ∧ (∀ o, o < 100 → v = pNIL + 1 + Int64.ofNat o → rf' o = 1) ∧ wfr S S' mb := by
    intro hle
    refine ⟨S, rf, qf, n, ?_, hR, hb, bL.rf, fun o ho e => absurd (by rw [← e]; exact hle) (i64_d o ho).2, wfr.rf⟩
    unfold f_M_reach
    rw [if_pos (show lg_cmp v 1099511627776 ≤ 0 from lc_le.mpr hle)]
  rcases hv with hv | ⟨i, hv⟩ | ⟨o, ho, hv, -⟩
  · exact low (by rw [hv]; exact Int64.le_refl _)
  · exact low (by rw [hv]; exact i64_i i)
  · have hnl := (i64_d o ho).2
    rw [← hv] at hnl
    have hix := (i64_d o ho).1
    rw [← hv] at hix
    have e1 := ldI_at (k := o) hR.1 ho (by decide)
    have huniq : ∀ x, x < 100 → v = pNIL + 1 + Int64.ofNat x → x = o := by
      intro x hx e
      rw [hv] at e
      have h1 := congrArg (fun z => z - 1099511627777) e
      simp only [i64_c] at h1
      have : nI o = nI x := by rw [← (i64_r o ho).1, ← (i64_r x hx).1, h1]
      exact ((nI_eqi (by omega) (by omega)).mp this).symm
    rcases hb.1 o ho with hz | hz
    · obtain ⟨hn, c1, c2⟩ := bI_add hb ho hz (hr o ho hv)
      refine ⟨(va_up (va_up S.1 (mb + 23) (some (.inl (2, 100, .inl (va_up rf o 1))))) (mb + 24) (some (.inl (0, 100, .inl (va_up qf n (nI o))))), S.2), va_up rf o 1, va_up qf n (nI o), n + 1, ?_, ⟨up_ne (by omega) up_eq, up_eq⟩, c1, c2, fun x hx e => by rw [huniq x hx e]; exact va_up_self _ _ _, rfl, fun a q1 q2 => up_ne q2 (up_ne q1 rfl)⟩
      unfold f_M_reach
      rw [if_neg (show ¬ lg_cmp v 1099511627776 ≤ 0 from fun q => hnl (lc_le.mp q)), hix]
      simp only [hM.rd6, obind, e1]
      rw [if_pos hz, stI_at hR.1 ho (by decide)]
      simp only [obind]
      rw [rdR_p (up_ne (by omega) hM.1) (show _ = some (Value.ref (mb + 24)) from rfl)]
      simp only [obind]
      rw [stI_p (up_ne (by omega) hR.2) hn (by decide)]
      simp only [obind, nI_s]
    · refine ⟨S, rf, qf, n, ?_, hR, hb, bL.rf, fun x hx e => by rw [huniq x hx e]; exact hz, wfr.rf⟩
      unfold f_M_reach
      rw [if_neg (show ¬ lg_cmp v 1099511627776 ≤ 0 from fun q => hnl (lc_le.mp q)), hix]
      simp only [hM.rd6, obind, e1]
      rw [if_neg (by rw [hz]; decide)]
def swT (mb : Nat) (g : Nat) (S : mc_S) : Option (Int32 × mc_S) := if nI g ≤ 0 then (some (nI g, S)) else ((rcv S (some mb) 4).bind fun b1 => (f_M_keep b1 8 S).bind fun S2 => some (nI g, S2))
theorem zm_sw4 {rf qf : Nat → Int32} (hz : ∀ o, o < 100 → rf o = 0 ∨ rf o = 1) (x3 : Int32) : ∀ (d k fu c : Nat) (S : mc_S) (D0 : rD), k + d = 100 → d < fu → rM S mb sg wt lg D0 D1 D2 b0 b1 b2 Dw bw → mR S mb rf qf → ∃ (S' : mc_S) (K' : Nat → Int32), g_M_sweep mb fu 4 (some (mb + 23)) (some (mb + 24)) x3 (nI c) (nI k) 0 S = swT mb (c + ((List.range 100).drop k).countP (fun o => decide (¬ D0.1 o = 0 ∧ ¬ rf o = 1))) S' ∧ rM S' mb sg wt lg (K', D0.2) D1 D2 b0 b1 b2 Dw bw ∧ (∀ o, o < 100 → K' o = if k ≤ o ∧ ¬ rf o = 1 then 0 else D0.1 o) ∧ mfr S S' mb := by
  intro d
  induction d with
  | zero =>
    intro k fu c S D0 hk hfu hM hR
    obtain ⟨fu, rfl⟩ : ∃ q, fu = q + 1 := ⟨fu - 1, by omega⟩
    obtain rfl : k = 100 := by omega
    refine ⟨S, D0.1, ?_, hM, fun o ho => by rw [if_neg (by omega)], mfr.rf⟩
    show q_M_sweep_4 mb (g_M_sweep mb fu) (some (mb + 23)) (some (mb + 24)) x3 (nI c) (nI 100) 0 S = _
    simp only [q_M_sweep_4]
    rw [if_pos (show (100 : Int32) ≤ nI 100 from by decide), List.drop_eq_nil_of_le (by simp)]
    rfl
  | succ d ih =>
    intro k fu c S D0 hk hfu hM hR
    obtain ⟨fu, rfl⟩ : ∃ q, fu = q + 1 := ⟨fu - 1, by omega⟩
    have hk1 : k < 100 := by omega
    have hk2 : k < (List.range 100).length := by simp; omega
    have hd1 : (List.range 100).drop k = k :: (List.range 100).drop (k + 1) := by
      rw [List.drop_eq_getElem_cons hk2]
      simp
    have hcond : ¬ (100 : Int32) ≤ nI k := fun q => by have := (nI_lei (a := 100) (by decide) (by omega)).mp q; omega
    have lk := hM.now.ldK hk1
    have e1 := ldI_at (k := k) hR.1 hk1 (by decide)
    rw [hd1, List.countP_cons]
    have pre : g_M_sweep mb (fu + 1) 4 (some (mb + 23)) (some (mb + 24)) x3 (nI c) (nI k) 0 S = if D0.1 k = 0 then (g_M_sweep mb fu 4 (some (mb + 23)) (some (mb + 24)) x3 (nI c) (nI (k + 1)) 0 S) else (if rf k = 0 then ((stI S (some (mb + 1 + 1)) 0 (nI k) 0).bind fun S9 => g_M_sweep mb fu 4 (some (mb + 23)) (some (mb + 24)) x3 (nI (c + 1)) (nI (k + 1)) 0 S9) else (g_M_sweep mb fu 4 (some (mb + 23)) (some (mb + 24)) x3 (nI c) (nI (k + 1)) 0 S)) := by
      show q_M_sweep_4 mb (g_M_sweep mb fu) (some (mb + 23)) (some (mb + 24)) x3 (nI c) (nI k) 0 S = _
      simp only [q_M_sweep_4, hM.rd0, hM.now.rd0, obind, lk, e1, nI_s]
      rw [if_neg hcond]
    rw [pre]
    by_cases c0 : D0.1 k = 0
    · rw [if_pos c0, if_neg (by simp [c0])]
      obtain ⟨S', K', g1, g2, g3, g4⟩ := ih (k + 1) fu c S D0 (by omega) (by omega) hM hR
      refine ⟨S', K', g1, g2, fun o ho => ?_, g4⟩
      rw [g3 o ho]
      by_cases hok : o = k
      · subst hok
        rw [if_neg (by omega), c0]
        split <;> rfl
      · by_cases q : k ≤ o ∧ ¬ rf o = 1
        · rw [if_pos q, if_pos ⟨by omega, q.2⟩]
        · rw [if_neg q, if_neg (fun q' => q ⟨by omega, q'.2⟩)]
    · rw [if_neg c0]
      rcases hz k hk1 with c1 | c1
      · rw [if_pos c1, if_pos (by simp [c0, c1])]
        obtain ⟨S1, a1, a2, a3⟩ := hM.now.stK (k := k) (v := 0) hk1
        obtain ⟨hM1, f1⟩ := hM.setNow a3 a2
        rw [a1]
        simp only [obind]
        obtain ⟨S', K', g1, g2, g3, g4⟩ := ih (k + 1) fu (c + 1) S1 (va_up D0.1 k 0, D0.2) (by omega) (by omega) hM1 ⟨(a3.2 _ (by omega)).trans hR.1, (a3.2 _ (by omega)).trans hR.2⟩
        refine ⟨S', K', ?_, g2, fun o ho => ?_, f1.tr g4⟩
        · rw [g1]
          have hcc : ((List.range 100).drop (k + 1)).countP (fun o => decide (¬ va_up D0.1 k 0 o = 0 ∧ ¬ rf o = 1)) = ((List.range 100).drop (k + 1)).countP (fun o => decide (¬ D0.1 o = 0 ∧ ¬ rf o = 1)) := by
            apply List.countP_congr
            intro x hx
            have : x ≠ k := by
              intro e
              subst e
              have hnd : ((List.range 100).drop x).Nodup := List.Nodup.sublist (List.drop_sublist _ _) List.nodup_range
              rw [hd1] at hnd
              exact (List.nodup_cons.mp hnd).1 hx
            rw [va_up_ne _ _ this]
          show swT mb (c + 1 + ((List.range 100).drop (k + 1)).countP (fun o => decide (¬ va_up D0.1 k 0 o = 0 ∧ ¬ rf o = 1))) S' = _
          rw [hcc]
          congr 1
          omega
        · rw [g3 o ho]
          show (if k + 1 ≤ o ∧ ¬ rf o = 1 then 0 else va_up D0.1 k 0 o) = _
          by_cases hok : o = k
          · subst hok
            rw [if_neg (by omega), va_up_self, if_pos ⟨Nat.le_refl _, by rw [c1]; decide⟩]
          · rw [va_up_ne _ _ hok]
            by_cases q : k ≤ o ∧ ¬ rf o = 1
            · rw [if_pos q, if_pos ⟨by omega, q.2⟩]
            · rw [if_neg q, if_neg (fun q' => q ⟨by omega, q'.2⟩)]
      · rw [if_neg (by rw [c1]; decide), if_neg (by simp [c1])]
        obtain ⟨S', K', g1, g2, g3, g4⟩ := ih (k + 1) fu c S D0 (by omega) (by omega) hM hR
        refine ⟨S', K', g1, g2, fun o ho => ?_, g4⟩
        rw [g3 o ho]
        by_cases hok : o = k
        · subst hok
          rw [if_neg (by omega), if_neg (fun q => q.2 c1)]
        · by_cases q : k ≤ o ∧ ¬ rf o = 1
          · rw [if_pos q, if_pos ⟨by omega, q.2⟩]
          · rw [if_neg q, if_neg (fun q' => q ⟨by omega, q'.2⟩)]
def swE (mb : Nat) (sg : Nat → Nat) (wt : Nat) (lg : Int32) (D0 D1 D2 : rD) (b0 b1 b2 : Int32) (Dw : Nat → rD) (bw : Nat → Int32) (P : pS) (S : mc_S) (r : Option (Int32 × mc_S)) : Prop := ∃ (S' : mc_S) (D : rD), r = swT mb (pGone P) S' ∧ rM S' mb sg wt lg D D1 D2 b0 b1 b2 Dw bw ∧ rPS D (pSw P) ∧ mfr S S' mb
theorem swE.mono {S S1 : mc_S} {r : Option (Int32 × mc_S)} (h : swE mb sg wt lg D0 D1 D2 b0 b1 b2 Dw bw P S1 r) (hf : mfr S S1 mb) : swE mb sg wt lg D0 D1 D2 b0 b1 b2 Dw bw P S r := by
  obtain ⟨S', D, h1, h2, h3, h4⟩ := h
  exact ⟨S', D, h1, h2, h3, hf.tr h4⟩
theorem zm_sw4e {S : mc_S} (hM : rM S mb sg wt lg D0 D1 D2 b0 b1 b2 Dw bw) (hP : rPS D0 P) (hw : pWf P) {rf qf : Nat → Int32} {n : Nat} (hR : mR S mb rf qf) (hb : bI P rf qf n) (hc : bC P rf qf n) {fu : Nat} (hfu : 101 < fu) (x3 : Int32) : swE mb sg wt lg D0 D1 D2 b0 b1 b2 Dw bw P S (g_M_sweep mb fu 4 (some (mb + 23)) (some (mb + 24)) x3 0 0 0 S) := by
  have hend := bI_end hb hc
  obtain ⟨S', K', g1, g2, g3, g4⟩ := zm_sw4 (qf := qf) hb.1 x3 100 0 fu 0 S D0 (by omega) (by omega) hM hR
  refine ⟨S', (K', D0.2), ?_, g2, ⟨fun o ho => ?_, hP.2⟩, g4⟩
  · rw [show nI 0 = (0 : Int32) from rfl] at g1
    rw [g1, Nat.zero_add, List.drop_zero]
    congr 1
    unfold pGone
    apply List.countP_congr
    intro x hx
    have hx := List.mem_range.mp hx
    have hob := hP.1 x hx
    have h1 : D0.1 x = 0 ↔ P.1 x = none := by
      cases hp : P.1 x with
      | none => rw [hp] at hob; exact ⟨fun _ => rfl, fun _ => hob⟩
      | some q =>
        rw [hp] at hob
        have hl := hw.len hx hp
        refine ⟨fun e => ?_, fun e => by cases e⟩
        rw [hob.1] at e
        rcases hl.2.2.1 with q1 | q1 <;> rw [q1] at e <;> exact absurd e (by decide)
    have h2 := hend x hx
    simp only [decide_eq_true_eq]
    exact ⟨fun q => ⟨fun e => q.1 (h1.mpr e), fun e => q.2 (h2.mpr e)⟩, fun q => ⟨fun e => q.1 (h1.mp e), fun e => q.2 (h2.mp e)⟩⟩
  · show rOb (K' o) (D0.2.1 o) _ _ (@ite pO (pRch P o) (Classical.propDecidable _) (P.1 o) none)
    rw [g3 o ho]
    by_cases hr : pRch P o
    · rw [if_neg (fun q => q.2 ((hend o ho).mpr hr)), if_pos hr]
      exact hP.1 o ho
    · rw [if_pos ⟨Nat.zero_le _, fun q => hr ((hend o ho).mp q)⟩, if_neg hr]
      rfl
theorem zm_sw3 (hP : rPS D0 P) (hw : pWf P) {k a : Nat} {q : Int32 × List pe} (ha : a < 100) (hq : P.1 a = some q) (hra : pRch P a) {m : Nat} (nxt : ∀ (S : mc_S) (rf qf : Nat → Int32) (n fu : Nat), rM S mb sg wt lg D0 D1 D2 b0 b1 b2 Dw bw → mR S mb rf qf → bI P rf qf n → bC P rf qf (k + 1) → k + 1 ≤ n → m < fu → swE mb sg wt lg D0 D1 D2 b0 b1 b2 Dw bw P S (g_M_sweep mb fu 2 (some (mb + 23)) (some (mb + 24)) (nI n) 0 (nI (k + 1)) 0 S)) : ∀ (d i fu : Nat) (S : mc_S) (rf qf : Nat → Int32) (n : Nat), i + d = q.2.length → d + 1 + m < fu → rM S mb sg wt lg D0 D1 D2 b0 b1 b2 Dw bw → mR S mb rf qf → bI P rf qf n → bC P rf qf k → k < n → qf k = nI a → (∀ o, o < 100 → pRef (q.2.take i) o → rf o = 1) → swE mb sg wt lg D0 D1 D2 b0 b1 b2 Dw bw P S (g_M_sweep mb fu 3 (some (mb + 23)) (some (mb + 24)) (nI n) 0 (nI k) (nI i) S) := by
  have hl := hw.len ha hq
  have hob := hP.1 a ha
  rw [hq] at hob
  obtain ⟨g1, g2, g3⟩ := hob
  intro d
  induction d with
  | zero =>
    intro i fu S rf qf n hi hfu hM hR hb hc hkn hqk hdone
    obtain ⟨fu, rfl⟩ : ∃ z, fu = z + 1 := ⟨fu - 1, by omega⟩
    have hn := hb.le
    have lz := hM.now.ldZ ha
    rw [show D0.2.1 a = nI q.2.length from g2] at lz
    have lq := ldI_at (k := k) hR.2 (by omega) (by decide)
    have hin := nxt S rf qf n fu hM hR hb ⟨hc.1, fun j hj c hc2 hqc q' hPq o ho hp => by
      by_cases hjk : j = k
      · subst hjk
        rw [hqk] at hqc
        have : a = c := (nI_eqi (by omega) (by omega)).mp hqc
        subst this
        rw [hq] at hPq
        cases hPq
        rw [List.take_of_length_le (by omega)] at hdone
        exact hdone o ho hp
      · exact hc.2 j (by omega) c hc2 hqc q' hPq o ho hp⟩ (by omega) (by omega)
    have e : g_M_sweep mb (fu + 1) 3 (some (mb + 23)) (some (mb + 24)) (nI n) 0 (nI k) (nI i) S = g_M_sweep mb fu 2 (some (mb + 23)) (some (mb + 24)) (nI n) 0 (nI (k + 1)) 0 S := by
      show q_M_sweep_3 mb (g_M_sweep mb fu) (some (mb + 23)) (some (mb + 24)) (nI n) 0 (nI k) (nI i) S = _
      simp only [q_M_sweep_3, hM.rd0, hM.now.rd1, obind, lq]
      rw [hqk, lz]
      simp only [obind]
      rw [if_pos ((nI_lei (by omega) (by omega)).mpr (by omega)), nI_s]
    rw [e]
    exact hin
  | succ d ih =>
    intro i fu S rf qf n hi hfu hM hR hb hc hkn hqk hdone
    obtain ⟨fu, rfl⟩ : ∃ z, fu = z + 1 := ⟨fu - 1, by omega⟩
    have hn := hb.le
    have hi1 : i < q.2.length := by omega
    have lz := hM.now.ldZ ha
    rw [show D0.2.1 a = nI q.2.length from g2] at lz
    have lq := ldI_at (k := k) hR.2 (by omega) (by decide)
    have ll := hM.now.ldLL (k := 20 * a + i) (by omega)
    rw [show D0.2.2.2.2.1 (20 * a + i) = q.2[i].2 from (g3 i q.2[i] (List.getElem?_eq_getElem hi1)).1] at ll
    obtain ⟨S1, rf1, qf1, n1, c1, c2, c3, c4, c5, c6⟩ := zm_reach hM hR hb ((hw.1 a q ha hq).2 q.2[i] (List.getElem_mem hi1)) (fun o ho e => pRch_step ha hra hq ho ⟨q.2[i], List.getElem_mem hi1, e⟩)
    have hM1 := hM.wf c6 c2
    have hin := ih (i + 1) fu S1 rf1 qf1 n1 (by omega) (by omega) hM1 c2 c3 ⟨fun o ho hp => c4.2.2 o (hc.1 o ho hp), fun j hj c hc2 hqc q' hPq o ho hp => by
      rw [c4.2.1 j (by omega)] at hqc
      exact c4.2.2 o (hc.2 j hj c hc2 hqc q' hPq o ho hp)⟩ (by have := c4.1; omega) (by rw [c4.2.1 k hkn]; exact hqk) (fun o ho hp => by
      obtain ⟨z, hz, e⟩ := hp
      rw [List.take_succ_eq_append_getElem hi1] at hz
      rcases List.mem_append.mp hz with hz | hz
      · exact c4.2.2 o (hdone o ho ⟨z, hz, e⟩)
      · rw [List.mem_singleton.mp hz] at e
        exact c5 o ho e)
    have e : g_M_sweep mb (fu + 1) 3 (some (mb + 23)) (some (mb + 24)) (nI n) 0 (nI k) (nI i) S = g_M_sweep mb fu 3 (some (mb + 23)) (some (mb + 24)) (nI n1) 0 (nI k) (nI (i + 1)) S1 := by
      show q_M_sweep_3 mb (g_M_sweep mb fu) (some (mb + 23)) (some (mb + 24)) (nI n) 0 (nI k) (nI i) S = _
      simp only [q_M_sweep_3, hM.rd0, hM.now.rd1, hM.now.rd4, hM.rc, obind, lq]
      rw [hqk, lz]
      simp only [obind]
      rw [if_neg (fun q => by have := (nI_lei (by omega) (by omega)).mp q; omega), show (20 : Int32) = nI 20 from rfl, nI_mul, nI_ad, ll]
      simp only [obind, c1, nI_s]
    rw [e]
    exact hin.mono c6.m
theorem zm_sw2 (hP : rPS D0 P) (hw : pWf P) : ∀ (d k fu : Nat) (S : mc_S) (rf qf : Nat → Int32) (n : Nat), k + d = 100 → 22 * d + 110 < fu → rM S mb sg wt lg D0 D1 D2 b0 b1 b2 Dw bw → mR S mb rf qf → bI P rf qf n → bC P rf qf k → k ≤ n → swE mb sg wt lg D0 D1 D2 b0 b1 b2 Dw bw P S (g_M_sweep mb fu 2 (some (mb + 23)) (some (mb + 24)) (nI n) 0 (nI k) 0 S) := by
  intro d
  induction d with
  | zero =>
    intro k fu S rf qf n hk hfu hM hR hb hc hkn
    obtain ⟨fu, rfl⟩ : ∃ z, fu = z + 1 := ⟨fu - 1, by omega⟩
    have hn := hb.le
    have hnk : n = k := by omega
    have e : g_M_sweep mb (fu + 1) 2 (some (mb + 23)) (some (mb + 24)) (nI n) 0 (nI k) 0 S = g_M_sweep mb fu 4 (some (mb + 23)) (some (mb + 24)) (nI n) 0 0 0 S := by
      show q_M_sweep_2 mb (g_M_sweep mb fu) (some (mb + 23)) (some (mb + 24)) (nI n) 0 (nI k) 0 S = _
      simp only [q_M_sweep_2]
      rw [if_pos ((nI_lei (by omega) (by omega)).mpr (by omega))]
    rw [e]
    exact zm_sw4e hM hP hw hR hb (by rw [hnk]; exact hc) (by omega) _
  | succ d ih =>
    intro k fu S rf qf n hk hfu hM hR hb hc hkn
    obtain ⟨fu, rfl⟩ : ∃ z, fu = z + 1 := ⟨fu - 1, by omega⟩
    have hn := hb.le
    by_cases hkn2 : n ≤ k
    · have hnk : n = k := by omega
      have e : g_M_sweep mb (fu + 1) 2 (some (mb + 23)) (some (mb + 24)) (nI n) 0 (nI k) 0 S = g_M_sweep mb fu 4 (some (mb + 23)) (some (mb + 24)) (nI n) 0 0 0 S := by
        show q_M_sweep_2 mb (g_M_sweep mb fu) (some (mb + 23)) (some (mb + 24)) (nI n) 0 (nI k) 0 S = _
        simp only [q_M_sweep_2]
        rw [if_pos ((nI_lei (by omega) (by omega)).mpr (by omega))]
      rw [e]
      exact zm_sw4e hM hP hw hR hb (by rw [hnk]; exact hc) (by omega) _
    · obtain ⟨a, ha, hqa, hra⟩ := hb.2.2.1 k (by omega)
      have hra2 := hb.2.2.2.2 a ha hra
      obtain ⟨q, hq⟩ : ∃ q, P.1 a = some q := by
        cases hp : P.1 a with
        | none => exact absurd hp (pRch_ex hw hra2)
        | some q => exact ⟨q, rfl⟩
      have hl := hw.len ha hq
      have e : g_M_sweep mb (fu + 1) 2 (some (mb + 23)) (some (mb + 24)) (nI n) 0 (nI k) 0 S = g_M_sweep mb fu 3 (some (mb + 23)) (some (mb + 24)) (nI n) 0 (nI k) (nI 0) S := by
        show q_M_sweep_2 mb (g_M_sweep mb fu) (some (mb + 23)) (some (mb + 24)) (nI n) 0 (nI k) 0 S = _
        simp only [q_M_sweep_2]
        rw [if_neg (fun q => by have := (nI_lei (by omega) (by omega)).mp q; omega)]
        rfl
      rw [e]
      exact zm_sw3 hP hw ha hq hra2 (m := 22 * d + 110) (fun S rf qf n fu hM hR hb hc hkn hfu => ih (k + 1) fu S rf qf n (by omega) hfu hM hR hb hc hkn) q.2.length 0 fu S rf qf n (by omega) (by omega) hM hR hb hc (by omega) hqa (fun o ho hp => by
        obtain ⟨z, hz, -⟩ := hp
        cases hz)
theorem zm_sw1 (hP : rPS D0 P) (hw : pWf P) {rs : List pe} (p1 : rs.Perm P.2) (p2 : D0.2.2.2.2.2.2 = nI rs.length) (p3 : ∀ k z, rs[k]? = some z → D0.2.2.2.1 k = z.1 ∧ D0.2.2.2.2.2.1 k = z.2) : ∀ (d k fu : Nat) (S : mc_S) (rf qf : Nat → Int32) (n : Nat), k + d = rs.length → d + 2400 < fu → rM S mb sg wt lg D0 D1 D2 b0 b1 b2 Dw bw → mR S mb rf qf → bI P rf qf n → (∀ o, o < 100 → pRef (rs.take k) o → rf o = 1) → swE mb sg wt lg D0 D1 D2 b0 b1 b2 Dw bw P S (g_M_sweep mb fu 1 (some (mb + 23)) (some (mb + 24)) (nI n) 0 (nI k) 0 S) := by
  have hl : rs.length ≤ 12 := by rw [p1.length_eq]; exact hw.2.1
  intro d
  induction d with
  | zero =>
    intro k fu S rf qf n hk hfu hM hR hb hdone
    obtain ⟨fu, rfl⟩ : ∃ z, fu = z + 1 := ⟨fu - 1, by omega⟩
    have hn := hb.le
    have r6 := hM.now.rd6
    rw [p2] at r6
    rw [List.take_of_length_le (by omega)] at hdone
    have e : g_M_sweep mb (fu + 1) 1 (some (mb + 23)) (some (mb + 24)) (nI n) 0 (nI k) 0 S = g_M_sweep mb fu 2 (some (mb + 23)) (some (mb + 24)) (nI n) 0 (nI 0) 0 S := by
      show q_M_sweep_1 mb (g_M_sweep mb fu) (some (mb + 23)) (some (mb + 24)) (nI n) 0 (nI k) 0 S = _
      simp only [q_M_sweep_1, hM.rd0, obind, r6]
      rw [if_pos ((nI_lei (by omega) (by omega)).mpr (by omega))]
      rfl
    rw [e]
    exact zm_sw2 hP hw 100 0 fu S rf qf n (by omega) (by omega) hM hR hb ⟨fun o ho hp => hdone o ho (by obtain ⟨z, hz, e⟩ := hp; exact ⟨z, p1.mem_iff.mpr hz, e⟩), fun j hj => by omega⟩ (by omega)
  | succ d ih =>
    intro k fu S rf qf n hk hfu hM hR hb hdone
    obtain ⟨fu, rfl⟩ : ∃ z, fu = z + 1 := ⟨fu - 1, by omega⟩
    have hn := hb.le
    have r6 := hM.now.rd6
    rw [p2] at r6
    have hk1 : k < rs.length := by omega
    have lv := hM.now.ldV (k := k) (by omega)
    rw [(p3 k rs[k] (List.getElem?_eq_getElem hk1)).2] at lv
    have hmem : rs[k] ∈ P.2 := p1.mem_iff.mp (List.getElem_mem hk1)
    obtain ⟨S1, rf1, qf1, n1, c1, c2, c3, c4, c5, c6⟩ := zm_reach hM hR hb (hw.2.2.2 rs[k] hmem).1 (fun o ho e => pRch_root ho ⟨rs[k], hmem, e⟩)
    have hM1 := hM.wf c6 c2
    have hin := ih (k + 1) fu S1 rf1 qf1 n1 (by omega) (by omega) hM1 c2 c3 (fun o ho hp => by
      obtain ⟨z, hz, e⟩ := hp
      rw [List.take_succ_eq_append_getElem hk1] at hz
      rcases List.mem_append.mp hz with hz | hz
      · exact c4.2.2 o (hdone o ho ⟨z, hz, e⟩)
      · rw [List.mem_singleton.mp hz] at e
        exact c5 o ho e)
    have e : g_M_sweep mb (fu + 1) 1 (some (mb + 23)) (some (mb + 24)) (nI n) 0 (nI k) 0 S = g_M_sweep mb fu 1 (some (mb + 23)) (some (mb + 24)) (nI n1) 0 (nI (k + 1)) 0 S1 := by
      show q_M_sweep_1 mb (g_M_sweep mb fu) (some (mb + 23)) (some (mb + 24)) (nI n) 0 (nI k) 0 S = _
      simp only [q_M_sweep_1, hM.rd0, hM.now.rd5, hM.rc, obind, r6]
      rw [if_neg (fun q => by have := (nI_lei (by omega) (by omega)).mp q; omega), lv]
      simp only [obind, c1, nI_s]
    rw [e]
    exact hin.mono c6.m
theorem zm_sw0 (hP : rPS D0 P) (hw : pWf P) : ∀ (d k fu : Nat) (S : mc_S) (rf qf : Nat → Int32), k + d = 100 → d + 2420 < fu → rM S mb sg wt lg D0 D1 D2 b0 b1 b2 Dw bw → mR S mb rf qf → (∀ o, o < k → rf o = 0) → swE mb sg wt lg D0 D1 D2 b0 b1 b2 Dw bw P S (g_M_sweep mb fu 0 (some (mb + 23)) (some (mb + 24)) 0 0 (nI k) 0 S) := by
  obtain ⟨rs, p1, p2, p3⟩ := hP.2
  have hl : rs.length ≤ 12 := by rw [p1.length_eq]; exact hw.2.1
  intro d
  induction d with
  | zero =>
    intro k fu S rf qf hk hfu hM hR hz
    obtain ⟨fu, rfl⟩ : ∃ z, fu = z + 1 := ⟨fu - 1, by omega⟩
    obtain rfl : k = 100 := by omega
    have hb : bI P rf qf 0 := by
      refine ⟨fun o ho => Or.inl (hz o ho), ?_, fun j hj => (by omega), fun o ho h1 => ?_, fun o ho h1 => ?_⟩
      · symm
        apply List.countP_eq_zero.mpr
        intro o ho
        rw [hz o (List.mem_range.mp ho)]
        decide
      · rw [hz o ho] at h1; exact absurd h1 (by decide)
      · rw [hz o ho] at h1; exact absurd h1 (by decide)
    have e : g_M_sweep mb (fu + 1) 0 (some (mb + 23)) (some (mb + 24)) 0 0 (nI 100) 0 S = g_M_sweep mb fu 1 (some (mb + 23)) (some (mb + 24)) (nI 0) 0 (nI 0) 0 S := by
      show q_M_sweep_0 mb (g_M_sweep mb fu) (some (mb + 23)) (some (mb + 24)) 0 0 (nI 100) 0 S = _
      simp only [q_M_sweep_0]
      rw [if_pos (show (100 : Int32) ≤ nI 100 from by decide)]
      rfl
    rw [e]
    exact zm_sw1 hP hw p1 p2 p3 rs.length 0 fu S rf qf 0 (by omega) (by omega) hM hR hb (fun o ho hp => by
      obtain ⟨z, hz, -⟩ := hp
      cases hz)
  | succ d ih =>
    intro k fu S rf qf hk hfu hM hR hz
    obtain ⟨fu, rfl⟩ : ∃ z, fu = z + 1 := ⟨fu - 1, by omega⟩
    have hk1 : k < 100 := by omega
    have hR2 : mR (va_up S.1 (mb + 23) (some (.inl (2, 100, .inl (va_up rf k 0)))), S.2) mb (va_up rf k 0) qf := ⟨up_eq, up_ne (by omega) hR.2⟩
    have hf2 : wfr S (va_up S.1 (mb + 23) (some (.inl (2, 100, .inl (va_up rf k 0)))), S.2) mb := ⟨rfl, fun a q1 _ => up_ne q1 rfl⟩
    have hin := ih (k + 1) fu _ (va_up rf k 0) qf (by omega) (by omega) (hM.wf hf2 hR2) hR2 (fun o ho => by
      by_cases hok : o = k
      · subst hok; exact va_up_self _ _ _
      · rw [va_up_ne _ _ hok]; exact hz o (by omega))
    have e : g_M_sweep mb (fu + 1) 0 (some (mb + 23)) (some (mb + 24)) 0 0 (nI k) 0 S = g_M_sweep mb fu 0 (some (mb + 23)) (some (mb + 24)) 0 0 (nI (k + 1)) 0 (va_up S.1 (mb + 23) (some (.inl (2, 100, .inl (va_up rf k 0)))), S.2) := by
      show q_M_sweep_0 mb (g_M_sweep mb fu) (some (mb + 23)) (some (mb + 24)) 0 0 (nI k) 0 S = _
      simp only [q_M_sweep_0]
      rw [if_neg (show ¬ (100 : Int32) ≤ nI k from fun q => by have := (nI_lei (a := 100) (by decide) (by omega)).mp q; omega), stI_at hR.1 hk1 (by decide)]
      simp only [obind, nI_s]
    rw [e]
    exact hin.mono hf2.m
end RS
