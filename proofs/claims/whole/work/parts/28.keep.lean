theorem slP.ap {S : mc_S} {b : Nat} {f : Int32} {c : Nat} {es : List pe} {b' : Nat} {f' : Int32} {c' : Nat} {es' : List pe} (h : slP S b f c es) (h' : slP S b' f' c' es') (hne : b ≠ b') : (b ≠ b' ∧ b ≠ b' + 1 ∧ b ≠ b' + 2) ∧ (b + 1 ≠ b' ∧ b + 1 ≠ b' + 1 ∧ b + 1 ≠ b' + 2) ∧ (b + 2 ≠ b' ∧ b + 2 ≠ b' + 1 ∧ b + 2 ≠ b' + 2) := by
  obtain ⟨-, -, hM, nf, vf, hn, hv, -⟩ := h
  obtain ⟨-, -, hM', nf', vf', hn', hv', -⟩ := h'
  refine ⟨⟨hne, fun e => ?_, fun e => ?_⟩, ⟨fun e => ?_, fun e => hne (by omega), fun e => ?_⟩, ⟨fun e => ?_, fun e => ?_, fun e => hne (by omega)⟩⟩
  · rw [e, hn'] at hM; cases hM
  · rw [e, hv'] at hM; cases hM
  · rw [e, hM'] at hn; cases hn
  · rw [e, hv'] at hn; cases hn
  · rw [e, hM'] at hv; cases hv
  · rw [e, hn'] at hv; cases hv
def cOk (kb z h : Nat) : Prop := (h = kb + 6 ∨ kb + 110 ≤ h) ∧ h + 2 < z
def cInj (ob : Nat → Option Nat) (rp : Nat) : Prop := (∀ o o' h, o < 100 → o' < 100 → ob o = some h → ob o' = some h → o = o') ∧ ∀ o, o < 100 → ¬ ob o = some rp
def cM (S : mc_S) (kb : Nat) (no : Nat → Option Nat) (nr : Nat) (ro : Nat → Nat → Option Nat) (rr : Nat → Nat) (sa wt : Nat) (lg : Int32) (rb : Nat → Int32) : Prop :=
  S.1 kb = some (.inr (0, [.ref (kb + 9), .ref (kb + 1), .ref (kb + 2), .ref (kb + 3), .int (nI sa), .int (nI wt), .int lg])) ∧ (∃ f : Nat → Option Nat, S.1 (kb + 1) = some (.inl (4, 9, .inr (.inr (.inr (.inr f))))) ∧ ∀ j, j < 9 → f j = some (kb + 11 + 2 * j)) ∧ (∃ f : Nat → Int32, S.1 (kb + 2) = some (.inl (0, 9, .inl f)) ∧ ∀ j, j < 9 → f j = rb j) ∧ (∃ (rf qf : Nat → Int32) (n : Nat), rcR S (kb + 3) rf qf n) ∧ cSt S (kb + 9) no nr ∧ (∀ j, j < 9 → cSt S (kb + 11 + 2 * j) (ro j) (rr j)) ∧ sa < 9 ∧ wt ≤ 8 ∧ kb + 110 ≤ S.2
def cPr (ro : Nat → Nat → Option Nat) (rr : Nat → Nat) (sa wt h : Nat) : Prop := ∀ i, i ≤ wt → ¬ cPt (ro ((sa + i) % 9)) (rr ((sa + i) % 9)) h
def cN (kb z : Nat) (no : Nat → Option Nat) (nr : Nat) (ro : Nat → Nat → Option Nat) (rr : Nat → Nat) (sa wt : Nat) : Prop :=
  (∀ h, cPt no nr h → cOk kb z h) ∧ (∀ i, i ≤ wt → ∀ h, cPt (ro ((sa + i) % 9)) (rr ((sa + i) % 9)) h → cOk kb z h) ∧ cInj no nr ∧ (∀ i, i ≤ wt → cInj (ro ((sa + i) % 9)) (rr ((sa + i) % 9))) ∧ (∀ o h, o < 100 → no o = some h → ro ((sa + wt) % 9) o = some h ∨ cPr ro rr sa wt h) ∧ (nr = rr ((sa + wt) % 9) ∨ cPr ro rr sa wt nr)
def pAt (X : pX) (i : Nat) : pS := ((X.2.1 :: X.2.2.1.map (fun q => q.1))[i]?).getD X.2.1
def cY (S : mc_S) (kb : Nat) (X : pX) (no : Nat → Option Nat) (nr : Nat) (ro : Nat → Nat → Option Nat) (rr : Nat → Nat) (sa : Nat) (rb : Nat → Int32) : Prop :=
  cM S kb no nr ro rr sa X.2.2.1.length X.2.2.2 rb ∧ cN kb S.2 no nr ro rr sa X.2.2.1.length ∧ cPS S no nr X.1 ∧ (∀ i, i ≤ X.2.2.1.length → cPS S (ro ((sa + i) % 9)) (rr ((sa + i) % 9)) (pAt X i)) ∧ ∀ i q, X.2.2.1[i]? = some q → rb ((sa + i + 1) % 9) = nI q.2
def cX (S : mc_S) (kb : Nat) (X : pX) : Prop := ∃ (no : Nat → Option Nat) (nr : Nat) (ro : Nat → Nat → Option Nat) (rr : Nat → Nat) (sa : Nat) (rb : Nat → Int32), cY S kb X no nr ro rr sa rb
def kfr (S S' : mc_S) (kb : Nat) : Prop := S.2 ≤ S'.2 ∧ ∀ a, kb + 29 ≤ a → a < kb + 110 → S'.1 a = S.1 a
theorem kfr.rf {S : mc_S} {kb : Nat} : kfr S S kb := ⟨Nat.le_refl _, fun _ _ _ => rfl⟩
theorem kfr.tr {S S1 S2 : mc_S} {kb : Nat} (h : kfr S S1 kb) (h2 : kfr S1 S2 kb) : kfr S S2 kb := ⟨Nat.le_trans h.1 h2.1, fun a h0 h1 => (h2.2 a h0 h1).trans (h.2 a h0 h1)⟩
theorem pAt_last (X : pX) : pAt X X.2.2.1.length = pKept X := by
  obtain ⟨nw, sf, ws, lg⟩ := X
  show ((sf :: ws.map (fun q => q.1))[ws.length]?).getD sf = match ws.getLast? with | some q => q.1 | none => sf
  cases ws with
  | nil => rfl
  | cons a l =>
    have h1 : (a :: l).getLast? = (a :: l)[l.length]? := by
      rw [List.getLast?_eq_getElem?]
      rfl
    have h2 : l.length < (a :: l).length := by simp
    rw [h1, List.getElem?_eq_getElem h2]
    show (((sf :: (a :: l).map (fun q => q.1))[l.length + 1]?).getD sf) = _
    rw [List.getElem?_cons_succ, List.getElem?_map, List.getElem?_eq_getElem h2]
    rfl
theorem ri_eq : ∀ m, m < 18 → nI m - nI m / 9 * 9 = nI (m % 9) := by decide +kernel
theorem nI_ad (a b : Nat) : nI a + nI b = nI (a + b) := (Int32.ofNat_add a b).symm
section KM
variable {S : mc_S} {kb : Nat} {no : Nat → Option Nat} {nr : Nat} {ro : Nat → Nat → Option Nat} {rr : Nat → Nat} {sa wt : Nat} {lg : Int32} {rb : Nat → Int32} {X : pX}
theorem cM.frame (h : cM S kb no nr ro rr sa wt lg rb) {S' : mc_S} (hz : S.2 ≤ S'.2) (hf : ∀ a, (kb ≤ a ∧ a ≤ kb + 5) ∨ (kb + 9 ≤ a ∧ a ≤ kb + 28) → S'.1 a = S.1 a) : cM S' kb no nr ro rr sa wt lg rb := by
  obtain ⟨h0, ⟨f1, h1, g1⟩, ⟨f2, h2, g2⟩, ⟨rf, qf, n, hR⟩, hT, hJ, hs, hw, hz0⟩ := h
  exact ⟨(hf _ (by omega)).trans h0, ⟨f1, (hf _ (by omega)).trans h1, g1⟩, ⟨f2, (hf _ (by omega)).trans h2, g2⟩, ⟨rf, qf, n, hR.frame (fun a _ _ => hf a (by omega))⟩, hT.frame (hf _ (by omega)) (hf _ (by omega)), fun j hj => (hJ j hj).frame (hf _ (by omega)) (hf _ (by omega)), hs, hw, by omega⟩
theorem cM.rd0 (h : cM S kb no nr ro rr sa wt lg rb) : rdR S (some kb) 0 0 = some (some (kb + 9)) := rdR_at h.1 rfl
theorem cM.rd1 (h : cM S kb no nr ro rr sa wt lg rb) : rdR S (some kb) 0 1 = some (some (kb + 1)) := rdR_at h.1 rfl
theorem cM.rd2 (h : cM S kb no nr ro rr sa wt lg rb) : rdR S (some kb) 0 2 = some (some (kb + 2)) := rdR_at h.1 rfl
theorem cM.rd3 (h : cM S kb no nr ro rr sa wt lg rb) : rdR S (some kb) 0 3 = some (some (kb + 3)) := rdR_at h.1 rfl
theorem cM.rd4 (h : cM S kb no nr ro rr sa wt lg rb) : rdI S (some kb) 0 4 = some (nI sa) := rdI_at h.1 rfl
theorem cM.rd5 (h : cM S kb no nr ro rr sa wt lg rb) : rdI S (some kb) 0 5 = some (nI wt) := rdI_at h.1 rfl
theorem cM.rd6 (h : cM S kb no nr ro rr sa wt lg rb) : rdI S (some kb) 0 6 = some lg := rdI_at h.1 rfl
theorem cM.rc (h : cM S kb no nr ro rr sa wt lg rb) : rcv S (some kb) 0 = some kb := rcv_at h.1
theorem cM.now (h : cM S kb no nr ro rr sa wt lg rb) : cSt S (kb + 9) no nr := h.2.2.2.2.1
theorem cM.ring (h : cM S kb no nr ro rr sa wt lg rb) {j : Nat} (hj : j < 9) : cSt S (kb + 11 + 2 * j) (ro j) (rr j) := h.2.2.2.2.2.1 j hj
theorem cM.ldr (h : cM S kb no nr ro rr sa wt lg rb) {j : Nat} (hj : j < 9) : ldR S (some (kb + 1)) 4 (nI j) = some (some (kb + 11 + 2 * j)) := by
  obtain ⟨f, h1, g1⟩ := h.2.1
  rw [ldR_at h1 hj (by decide), g1 j hj]
theorem cM.ldb (h : cM S kb no nr ro rr sa wt lg rb) {j : Nat} (hj : j < 9) : ldI S (some (kb + 2)) 0 (nI j) = some (rb j) := by
  obtain ⟨f, h1, g1⟩ := h.2.2.1
  rw [ldI_at h1 hj (by decide), g1 j hj]
theorem zk_ri (h : cM S kb no nr ro rr sa wt lg rb) {i : Nat} (hi : i ≤ 9) : f_K_ringIndex kb (nI i) S = some (nI ((sa + i) % 9), S) := by
  have hs := h.2.2.2.2.2.2.1
  simp only [f_K_ringIndex, h.rd4, obind, nI_ad]
  rw [ri_eq _ (by omega)]
theorem zk_kept (h : cM S kb no nr ro rr sa wt lg rb) : f_K_kept kb S = some (some (kb + 11 + 2 * ((sa + wt) % 9)), S) := by
  have hw := h.2.2.2.2.2.2.2.1
  simp only [f_K_kept, h.rd1, h.rd5, h.rc, obind]
  rw [zk_ri h (by omega)]
  simp only [obind]
  rw [h.ldr (Nat.mod_lt _ (by omega))]
  rfl
theorem v_ne (v : Int32) : ¬ v.toInt64 = -pNIL := by
  intro h
  have h1 := congrArg Int64.toInt h
  rw [Int32.toInt_toInt64] at h1
  have h2 := v.le_toInt
  have h3 : (-pNIL : Int64).toInt = -1099511627776 := by decide
  rw [h3] at h1
  omega
theorem r_ne : ∀ o, o < 100 → ¬ pNIL + 1 + (nI o).toInt64 = -pNIL := by decide +kernel
theorem pVal_ne {P : pS} {sort v : Int32} {x : Int64} (h : pVal P sort v = some x) : ¬ x = -pNIL := by
  unfold pVal at h
  by_cases h0 : sort = 0
  · rw [if_pos h0] at h; cases h; decide
  · rw [if_neg h0] at h
    by_cases h1 : sort = 1
    · rw [if_pos h1] at h; cases h; exact v_ne v
    · rw [if_neg h1] at h
      by_cases h2 : sort = 2
      · rw [if_pos h2] at h
        by_cases h3 : pHas P v
        · rw [if_pos h3] at h
          cases h
          have := r_ne _ (nI_lt100 h3.1 h3.2.1)
          rw [nI_at h3.1] at this
          exact this
        · rw [if_neg h3] at h; cases h
      · rw [if_neg h2] at h; cases h
theorem zk_valueOf (h : cM S kb no nr ro rr sa wt lg rb) {P : pS} (hP : cPS S no nr P) (sort v : Int32) : f_K_valueOf kb sort v S = some ((pVal P sort v).getD (-pNIL), S) := by
  unfold f_K_valueOf pVal
  by_cases h0 : sort = 0
  · rw [if_pos h0, if_pos h0]; rfl
  · rw [if_neg h0, if_neg h0]
    by_cases h1 : sort = 1
    · rw [if_pos h1, if_pos h1]; rfl
    · rw [if_neg h1, if_neg h1]
      by_cases h2 : sort = 2
      · rw [if_pos h2, if_pos h2]
        obtain ⟨r, e, hr⟩ := zt_has h.now hP v
        simp only [h.rd0, h.now.rc, obind, e]
        rcases hr with ⟨rfl, h3⟩ | ⟨rfl, h3⟩
        · rw [if_neg (by decide), if_pos h3, pN1]; rfl
        · rw [if_pos rfl, if_neg h3]; rfl
      · rw [if_neg h2, if_neg h2]; rfl
end KM
