def kpU (mb : Nat) (x : Int32) (S : mc_S) : Option mc_S := (rdR S (some mb) 4 3).bind fun v5 => (rdI S (some mb) 4 4).bind fun v6 => (ldR S v5 5 v6).bind fun v7 => (rdR S (some mb) 4 0).bind fun v8 => (rcv S v7 5).bind fun b9 => (f_N_copy b9 v8 S).bind fun S10 => (rdR S10 (some mb) 4 3).bind fun v11 => (rdI S10 (some mb) 4 4).bind fun v12 => (ldR S10 v11 5 v12).bind fun v13 => (wrV S10 v13 5 7 (.int x)).bind fun S14 => (rdI S14 (some mb) 4 4).bind fun v15 => (wrV S14 (some mb) 4 4 (.int (v15 + 1))).bind fun S16 => some S16
def kpT (mb : Nat) (x : Int32) (r2 : Option Nat) (S : mc_S) : Option mc_S := (rdR S (some mb) 4 3).bind fun v1 => (stR S v1 5 5 7 r2).bind fun S2 => (rdI S2 (some mb) 4 4).bind fun v3 => (wrV S2 (some mb) 4 4 (.int (v3 - 1))).bind fun S4 => kpU mb x S4
section RK
variable {S : mc_S} {mb : Nat} {sg : Nat → Nat} {wt : Nat} {lg : Int32} {D0 D1 D2 : rD} {b0 b1 b2 : Int32} {Dw : Nat → rD} {bw : Nat → Int32} {X : pX} {P : pS}
theorem zm_kpU (h : rM S mb sg wt lg D0 D1 D2 b0 b1 b2 Dw bw) (hP : rPS D0 P) (hw : pWf P) (hwt : wt < 8) (b : Int32) : ∃ (S' : mc_S) (D : rD), kpU mb b S = some S' ∧ rM S' mb sg (wt + 1) lg D0 D1 D2 b0 b1 b2 (va_up Dw wt D) (va_up bw wt b) ∧ rPS D P ∧ mfr S S' mb := by
  have hsg := h.2.2.1 wt hwt
  obtain ⟨S1, D, a1, a2, a3, a4⟩ := zn_copy (t := mb + 25 + 7 * sg wt) (t' := mb + 1) (by omega) (h.wait hwt) h.now
  obtain ⟨hM1, f1⟩ := h.setWait hwt a4 a2
  have hw1 := hM1.wait hwt
  rw [va_up_self, va_up_self] at hw1
  obtain ⟨S2, c1, c2, c3⟩ := hw1.wr7 (v := b)
  obtain ⟨hM2, f2⟩ := hM1.setWait hwt c3 c2
  obtain ⟨hM3, f3⟩ := hM2.setObj (wt' := wt + 1) (lg' := lg) (by omega)
  rw [upup, upup] at hM3
  refine ⟨_, D, ?_, hM3, hP.ag hw a3, f1.tr (f2.tr f3)⟩
  simp only [kpU, h.rd3, h.rd4, h.rd0, obind]
  rw [h.ldw hwt]
  simp only [obind, (h.wait hwt).rc, a1, hM1.rd3, hM1.rd4]
  rw [hM1.ldw hwt]
  simp only [obind, c1, hM2.rd4, nI_s]
  rw [show wrV S2 (some mb) 4 4 (.int (nI (wt + 1))) = _ from mwr4 (z := S2.2) (v := wt + 1) hM2.1]
  rfl
theorem zm_kp_g (x1 : Int32) (r2 : Option Nat) : ∀ (d k n : Nat) (S : mc_S) (f : Nat → Option Nat), k + d = 8 → d < n → 1 ≤ k → S.1 mb = some (mO mb wt lg) → S.1 (mb + 22) = some (.inl (5, 8, .inr (.inr (.inr (.inr f))))) → (∀ j, j < 8 → ∃ a fs, f j = some a ∧ S.1 a = some (.inr (5, fs))) → ∃ f' : Nat → Option Nat, (∀ j, f' j = if k - 1 ≤ j ∧ j < 7 then f (j + 1) else f j) ∧ g_M_keep mb n x1 r2 (nI k) S = kpT mb x1 r2 (va_up S.1 (mb + 22) (some (.inl (5, 8, .inr (.inr (.inr (.inr f')))))), S.2) := by
  intro d
  induction d with
  | zero =>
    intro k n S f hk hn hk1 h0 h1 h2
    obtain ⟨n, rfl⟩ : ∃ q, n = q + 1 := ⟨n - 1, by omega⟩
    obtain rfl : k = 8 := by omega
    refine ⟨f, fun j => by rw [if_neg (by omega)], ?_⟩
    rw [← h1, upd_same]
    show q_M_keep_0 mb (g_M_keep mb n) x1 r2 (nI 8) S = _
    simp only [q_M_keep_0]
    rw [if_pos (show (8 : Int32) ≤ nI 8 from by decide)]
    rfl
  | succ d ih =>
    intro k n S f hk hn hk1 h0 h1 h2
    obtain ⟨n, rfl⟩ : ∃ q, n = q + 1 := ⟨n - 1, by omega⟩
    obtain ⟨a, fs, ha, hs⟩ := h2 k (by omega)
    obtain ⟨k1, rfl⟩ : ∃ k1, k = k1 + 1 := ⟨k - 1, by omega⟩
    have hst : stR S (some (mb + 22)) 5 5 (nI k1) (f (k1 + 1)) = _ := stR_at h1 (Or.inr (by rw [ha]; exact rcv_at hs)) (show k1 < 8 by omega) (by decide)
    have hup : ∀ x, x ≠ mb + 22 → (va_up S.1 (mb + 22) (some (.inl (5, 8, .inr (.inr (.inr (.inr (va_up f k1 (f (k1 + 1)))))))))) x = S.1 x := fun x hx => up_ne hx rfl
    obtain ⟨f', g1, g2⟩ := ih (k1 + 1 + 1) n (va_up S.1 (mb + 22) (some (.inl (5, 8, .inr (.inr (.inr (.inr (va_up f k1 (f (k1 + 1))))))))), S.2) (va_up f k1 (f (k1 + 1))) (by omega) (by omega) (by omega) ((hup _ (by omega)).trans h0) up_eq (fun j hj => by
      have hne : ∀ y fs', S.1 y = some (.inr (5, fs')) → y ≠ mb + 22 := fun y fs' e1 e2 => by rw [e2, h1] at e1; cases e1
      by_cases hjk : j = k1
      · subst hjk
        rw [va_up_self]
        exact ⟨a, fs, ha, (hup _ (hne _ _ hs)).trans hs⟩
      · rw [va_up_ne _ _ hjk]
        obtain ⟨y, fs', e1, e2⟩ := h2 j hj
        exact ⟨y, fs', e1, (hup _ (hne _ _ e2)).trans e2⟩)
    refine ⟨f', fun j => ?_, ?_⟩
    · rw [g1 j]
      by_cases q1 : k1 + 1 + 1 - 1 ≤ j ∧ j < 7
      · rw [if_pos q1, if_pos (by omega), va_up_ne _ _ (by omega)]
      · rw [if_neg q1]
        by_cases q2 : j = k1
        · subst q2
          rw [va_up_self, if_pos (by omega)]
        · rw [va_up_ne _ _ q2, if_neg (by omega)]
    · show q_M_keep_0 mb (g_M_keep mb n) x1 r2 (nI (k1 + 1)) S = _
      have r3 : rdR S (some mb) 4 3 = some (some (mb + 22)) := rdR_at h0 rfl
      simp only [q_M_keep_0, r3, obind]
      rw [if_neg (show ¬ (8 : Int32) ≤ nI (k1 + 1) from fun q => by have := (nI_lei (a := 8) (by decide) (by omega)).mp q; omega), ldR_at h1 (show k1 + 1 < 8 by omega) (by decide)]
      simp only [obind]
      rw [nI_p, hst]
      simp only [obind, nI_s]
      rw [g2, upup]
theorem pKept_app (a : pS) (s : pS) (ws : List (pS × Nat)) (q : pS × Nat) (l : Int32) : pKept (a, s, ws ++ [q], l) = q.1 := by
  unfold pKept
  simp
theorem zm_keep (h : rX S mb X) (hw : pWX X) (b : Nat) : ∃ S', f_M_keep mb (nI b) S = some S' ∧ rX S' mb (pKeep X b) ∧ mfr S S' mb := by
  obtain ⟨sg, D0, D1, D2, b0, b1, b2, Dw, bw, hM, hP, h1, h2, h3⟩ := id h
  obtain ⟨S1, D1', a1, a2, a3, a4⟩ := zn_copy (t := mb + 8) (t' := mb + 1) (by omega) hM.kept hM.now
  obtain ⟨hM1, f1⟩ := hM.setKept a4 a2
  obtain ⟨hM2, f2⟩ := hM1.setObj (wt' := X.2.2.1.length) (lg' := X.2.2.2 + nI b) hM.2.2.2.2.2.2.2.2.2.2
  have hp1 := hP.ag hw.1 a3
  have pre : f_M_keep mb (nI b) S = (if nI X.2.2.1.length = 8 then ((rdR (va_up S1.1 mb (some (mO mb X.2.2.1.length (X.2.2.2 + nI b))), S1.2) (some mb) 4 3).bind fun v20 => (ldR (va_up S1.1 mb (some (mO mb X.2.2.1.length (X.2.2.2 + nI b))), S1.2) v20 5 0).bind fun v21 => (rdR (va_up S1.1 mb (some (mO mb X.2.2.1.length (X.2.2.2 + nI b))), S1.2) (some mb) 4 2).bind fun v22 => (rcv (va_up S1.1 mb (some (mO mb X.2.2.1.length (X.2.2.2 + nI b))), S1.2) v22 5).bind fun b23 => (f_N_copy b23 v21 (va_up S1.1 mb (some (mO mb X.2.2.1.length (X.2.2.2 + nI b))), S1.2)).bind fun S24 => g_M_keep mb 5000 (nI b) v21 1 S24) else kpU mb (nI b) (va_up S1.1 mb (some (mO mb X.2.2.1.length (X.2.2.2 + nI b))), S1.2)) := by
    simp only [f_M_keep, hM.rd1, hM.rd0, hM.kept.rc, obind, a1, hM1.rd5]
    rw [show wrV S1 (some mb) 4 5 (.int (X.2.2.2 + nI b)) = _ from mwr5 (z := S1.2) hM1.1]
    simp only [kpU, obind, hM2.rd4]
  have hl8 := hw.2.2.2
  by_cases h8 : X.2.2.1.length = 8
  · obtain ⟨q, ws, hws⟩ : ∃ q ws, X.2.2.1 = q :: ws := by
      cases hx : X.2.2.1 with
      | nil => rw [hx] at h8; simp at h8
      | cons q ws => exact ⟨q, ws, rfl⟩
    have hl7 : ws.length = 7 := by rw [hws] at h8; simp at h8; exact h8
    have hpk : pKeep X b = (X.1, q.1, ws ++ [(X.1, b)], X.2.2.2 + nI b) := by
      unfold pKeep
      rw [hws]
      simp only
      rw [if_pos hl7]
    have hq := h3 0 q (by rw [hws]; rfl)
    have hwq : pWf q.1 := (hw.2.2.1 q (by rw [hws]; exact List.mem_cons_self)).1
    rw [h8] at hM2 pre f2
    have hsg0 := hM2.2.2.1 0 (by omega)
    obtain ⟨S3, D2', c1, c2, c3, c4⟩ := zn_copy (t := mb + 15) (t' := mb + 25 + 7 * sg 0) (by omega) hM2.safe (hM2.wait (show 0 < 8 by omega))
    obtain ⟨hM3, f3⟩ := hM2.setSafe c4 c2
    obtain ⟨f, hf1, hf2⟩ := hM3.2.1
    obtain ⟨f', k1, k2⟩ := zm_kp_g (nI b) (some (mb + 25 + 7 * sg 0)) 7 1 5000 S3 f (by omega) (by omega) (by omega) hM3.1 hf1 (fun j hj => ⟨_, _, hf2 j hj, (hM3.wait hj).1⟩)
    have hup : ∀ x, x ≠ mb + 22 → (va_up S3.1 (mb + 22) (some (.inl (5, 8, .inr (.inr (.inr (.inr (va_up f' 7 (some (mb + 25 + 7 * sg 0)))))))))) x = S3.1 x := fun x hx => up_ne hx rfl
    have hst : stR (va_up S3.1 (mb + 22) (some (.inl (5, 8, .inr (.inr (.inr (.inr f')))))), S3.2) (some (mb + 22)) 5 5 (nI 7) (some (mb + 25 + 7 * sg 0)) = some (va_up S3.1 (mb + 22) (some (.inl (5, 8, .inr (.inr (.inr (.inr (va_up f' 7 (some (mb + 25 + 7 * sg 0))))))))), S3.2) := by
      rw [stR_p up_eq (Or.inr (rcv_p (up_ne (by omega) (hM3.wait (show 0 < 8 by omega)).1))) (by omega) (by decide), upup]
    have hM4 : rM (va_up S3.1 (mb + 22) (some (.inl (5, 8, .inr (.inr (.inr (.inr (va_up f' 7 (some (mb + 25 + 7 * sg 0))))))))), S3.2) mb (fun j => if j < 7 then sg (j + 1) else sg 0) 8 (X.2.2.2 + nI b) D0 D1' D2' b0 b1 b2 (fun j => if j < 7 then Dw (j + 1) else Dw 0) (fun j => if j < 7 then bw (j + 1) else bw 0) := by
      obtain ⟨m0, -, m2, m3, ⟨f4, m4⟩, ⟨f5, m5⟩, m6, m7, m8, m9, mw⟩ := hM3
      refine ⟨(hup _ (by omega)).trans m0, ⟨_, up_eq, fun k hk => ?_⟩, fun k hk => ?_, fun k j hk hj e => ?_, ⟨f4, (hup _ (by omega)).trans m4⟩, ⟨f5, (hup _ (by omega)).trans m5⟩, m6.frame (fun a _ _ => hup a (by omega)), m7.frame (fun a _ _ => hup a (by omega)), m8.frame (fun a _ _ => hup a (by omega)), fun k hk => ?_, mw⟩
      · show va_up f' 7 (some (mb + 25 + 7 * sg 0)) k = some (mb + 25 + 7 * (if k < 7 then sg (k + 1) else sg 0))
        by_cases q7 : k < 7
        · rw [va_up_ne _ _ (by omega), k1 k, if_pos (by omega), if_pos q7]
          exact hf2 (k + 1) (by omega)
        · obtain rfl : k = 7 := by omega
          rw [va_up_self, if_neg q7]
      · show (if k < 7 then sg (k + 1) else sg 0) < 8
        by_cases q7 : k < 7
        · rw [if_pos q7]; exact m2 _ (by omega)
        · rw [if_neg q7]; exact m2 _ (by omega)
      · have e : (if k < 7 then sg (k + 1) else sg 0) = (if j < 7 then sg (j + 1) else sg 0) := e
        by_cases q1 : k < 7
        · rw [if_pos q1] at e
          by_cases q2 : j < 7
          · rw [if_pos q2] at e
            have := m3 _ _ (by omega) (by omega) e
            omega
          · rw [if_neg q2] at e
            have := m3 _ _ (by omega) (by omega) e
            omega
        · rw [if_neg q1] at e
          by_cases q2 : j < 7
          · rw [if_pos q2] at e
            have := m3 _ _ (by omega) (by omega) e
            omega
          · omega
      · show rSt _ (mb + 25 + 7 * (if k < 7 then sg (k + 1) else sg 0)) (if k < 7 then Dw (k + 1) else Dw 0) (if k < 7 then bw (k + 1) else bw 0)
        by_cases q7 : k < 7
        · rw [if_pos q7, if_pos q7, if_pos q7]
          have := m2 (k + 1) (by omega)
          exact (m9 (k + 1) (by omega)).frame (fun a _ _ => hup a (by omega))
        · rw [if_neg q7, if_neg q7, if_neg q7]
          exact (m9 0 (by omega)).frame (fun a _ _ => hup a (by omega))
    have f4 : mfr S3 (va_up S3.1 (mb + 22) (some (.inl (5, 8, .inr (.inr (.inr (.inr (va_up f' 7 (some (mb + 25 + 7 * sg 0))))))))), S3.2) mb := ⟨rfl, fun a ha => hup a (by omega)⟩
    obtain ⟨hM5, f5⟩ := hM4.setObj (wt' := 7) (lg' := X.2.2.2 + nI b) (by omega)
    obtain ⟨S6, D, u1, hM6, hpD, f6⟩ := zm_kpU hM5 hP hw.1 (by omega) (nI b)
    refine ⟨S6, ?_, ?_, f1.tr (f2.tr (f3.tr (f4.tr (f5.tr f6))))⟩
    · rw [pre, if_pos (show nI 8 = 8 from rfl)]
      simp only [hM2.rd3, hM2.rd2, hM2.safe.rc, obind]
      rw [show (0 : Int32) = nI 0 from rfl, hM2.ldw (by omega)]
      simp only [obind, c1]
      rw [show (1 : Int32) = nI 1 from rfl, k2]
      unfold kpT
      rw [rdR_p (up_ne (by omega) hM3.1) rfl]
      simp only [obind]
      rw [show (7 : Int32) = nI 7 from rfl, hst]
      simp only [obind, hM4.rd4]
      rw [show nI 8 - 1 = nI 7 from nI_p 7, mwr4 hM4.1]
      simp only [obind]
      exact u1
    · rw [hpk]
      refine ⟨(fun j => if j < 7 then sg (j + 1) else sg 0), D0, D1', D2', b0, b1, b2, va_up (fun j => if j < 7 then Dw (j + 1) else Dw 0) 7 D, va_up (fun j => if j < 7 then bw (j + 1) else bw 0) 7 (nI b), ?_, hP, ?_, hq.1.ag hwq c3, fun i z hz => ?_⟩
      · show rM S6 mb _ (ws ++ [(X.1, b)]).length (X.2.2.2 + nI b) _ _ _ _ _ _ _ _
        rw [show (ws ++ [(X.1, b)]).length = 7 + 1 by simp; omega]
        exact hM6
      · rw [pKept_app]
        exact hp1
      · have hz : (ws ++ [(X.1, b)])[i]? = some z := hz
        by_cases hi : i < ws.length
        · rw [List.getElem?_append_left hi] at hz
          rw [va_up_ne _ _ (by omega), va_up_ne _ _ (by omega)]
          show rPS (if i < 7 then Dw (i + 1) else Dw 0) z.1 ∧ (if i < 7 then bw (i + 1) else bw 0) = nI z.2
          rw [if_pos (by omega), if_pos (by omega)]
          exact h3 (i + 1) z (by rw [hws]; exact hz)
        · have hil : i < (ws ++ [(X.1, b)]).length := (List.getElem?_eq_some_iff.mp hz).1
          have : i = ws.length := by simp at hil; omega
          subst this
          simp at hz
          subst hz
          rw [hl7, va_up_self, va_up_self]
          exact ⟨hpD, rfl⟩
  · have hpk : pKeep X b = (X.1, X.2.1, X.2.2.1 ++ [(X.1, b)], X.2.2.2 + nI b) := by
      unfold pKeep
      cases hx : X.2.2.1 with
      | nil => rfl
      | cons q ws =>
        simp only
        rw [if_neg (fun e => h8 (by rw [hx]; simp; exact e))]
    obtain ⟨S6, D, u1, hM6, hpD, f6⟩ := zm_kpU hM2 hP hw.1 (by omega) (nI b)
    refine ⟨S6, ?_, ?_, f1.tr (f2.tr f6)⟩
    · rw [pre, if_neg (show ¬ nI X.2.2.1.length = 8 from fun e => h8 ((nI_eqi (b := 8) (by omega) (by decide)).mp e))]
      exact u1
    · rw [hpk]
      refine ⟨sg, D0, D1', D2, b0, b1, b2, va_up Dw X.2.2.1.length D, va_up bw X.2.2.1.length (nI b), ?_, hP, ?_, h2, fun i z hz => ?_⟩
      · show rM S6 mb _ (X.2.2.1 ++ [(X.1, b)]).length (X.2.2.2 + nI b) _ _ _ _ _ _ _ _
        rw [show (X.2.2.1 ++ [(X.1, b)]).length = X.2.2.1.length + 1 by simp]
        exact hM6
      · rw [pKept_app]
        exact hp1
      · have hz : (X.2.2.1 ++ [(X.1, b)])[i]? = some z := hz
        by_cases hi : i < X.2.2.1.length
        · rw [List.getElem?_append_left hi] at hz
          rw [va_up_ne _ _ (by omega), va_up_ne _ _ (by omega)]
          exact h3 i z hz
        · have hil : i < (X.2.2.1 ++ [(X.1, b)]).length := (List.getElem?_eq_some_iff.mp hz).1
          have : i = X.2.2.1.length := by simp at hil; omega
          subst this
          simp at hz
          subst hz
          rw [va_up_self, va_up_self]
          exact ⟨hpD, rfl⟩
theorem pWX.kept (hw : pWX X) : pWf (pKept X) := by
  unfold pKept
  cases h : X.2.2.1.getLast? with
  | none => exact hw.2.1
  | some q => exact (hw.2.2.1 q (List.mem_of_getLast? h)).1
theorem zm_commit (h : rX S mb X) (hw : pWX X) : ∃ S', f_M_commit mb S = some ((pCommit X).1, S') ∧ rX S' mb (pCommit X).2 ∧ mfr S S' mb := by
  obtain ⟨sg, D0, D1, D2, b0, b1, b2, Dw, bw, hM, hP, h1, h2, h3⟩ := id h
  obtain ⟨S', g1, g2, g3⟩ := zm_keep h hw (8 + pByt X.1 (pKept X))
  refine ⟨S', ?_, g2, g3⟩
  simp only [f_M_commit, hM.rd0, hM.rd1, hM.now.rc, hM.rc, obind, zn_bb hM.now hM.kept hP h1 hw.1 hw.kept]
  rw [show (8 : Int32) = nI 8 from rfl, nI_ad, g1]
  rfl
theorem zm_undo (h : rX S mb X) (hw : pWX X) : ∃ S', f_M_undo mb S = some ((pUndo X).1, S') ∧ rX S' mb (pUndo X).2 ∧ mfr S S' mb := by
  obtain ⟨sg, D0, D1, D2, b0, b1, b2, Dw, bw, hM, hP, h1, h2, h3⟩ := id h
  obtain ⟨S1, D, a1, a2, a3, a4⟩ := zn_copy (t := mb + 1) (t' := mb + 8) (by omega) hM.now hM.kept
  obtain ⟨r1, r2⟩ := rX.now (X := X) hM h1 h2 h3 a4 a2 (h1.ag hw.kept a3)
  refine ⟨S1, ?_, r1, r2⟩
  simp only [f_M_undo, hM.rd0, hM.rd1, hM.now.rc, obind, zn_bb hM.now hM.kept hP h1 hw.1 hw.kept, a1]
  rfl
theorem zm_sync (h : rX S mb X) (hw : pWX X) : ∃ S', f_M_sync mb S = some ((pSync X).1, S') ∧ rX S' mb (pSync X).2 ∧ mfr S S' mb := by
  obtain ⟨sg, D0, D1, D2, b0, b1, b2, Dw, bw, hM, hP, h1, h2, h3⟩ := id h
  obtain ⟨S1, D, a1, a2, a3, a4⟩ := zn_copy (t := mb + 15) (t' := mb + 8) (by omega) hM.safe hM.kept
  obtain ⟨hM1, f1⟩ := hM.setSafe a4 a2
  obtain ⟨hM2, f2⟩ := hM1.setObj (wt' := 0) (lg' := X.2.2.2) (by omega)
  refine ⟨_, ?_, ⟨sg, D0, D1, D, b0, b1, b2, Dw, bw, hM2, hP, h1, h1.ag hw.kept a3, fun i q hq => by cases hq⟩, f1.tr f2⟩
  simp only [f_M_sync, hM.rd4, hM.rd2, hM.rd1, hM.safe.rc, obind, a1]
  rw [show (0 : Int32) = nI 0 from rfl, show wrV S1 (some mb) 4 4 (.int (nI 0)) = _ from mwr4 (z := S1.2) (v := 0) hM1.1]
  rfl
end RK
