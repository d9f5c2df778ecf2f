def rcR (S : mc_S) (r : Nat) (rf qf : Nat → Int32) (n : Nat) : Prop := S.1 r = some (.inr (3, [.ref (r + 1), .ref (r + 2), .int (nI n)])) ∧ S.1 (r + 1) = some (.inl (2, 100, .inl rf)) ∧ S.1 (r + 2) = some (.inl (0, 100, .inl qf))
def bI (P : pS) (rf qf : Nat → Int32) (n : Nat) : Prop := (∀ o, o < 100 → rf o = 0 ∨ rf o = 1) ∧ n = (List.range 100).countP (fun o => decide (rf o = 1)) ∧ (∀ j, j < n → ∃ o, o < 100 ∧ qf j = nI o ∧ rf o = 1) ∧ (∀ o, o < 100 → rf o = 1 → ∃ j, j < n ∧ qf j = nI o) ∧ ∀ o, o < 100 → rf o = 1 → pRch P o
def bL (rf qf : Nat → Int32) (n : Nat) (rf' qf' : Nat → Int32) (n' : Nat) : Prop := n ≤ n' ∧ (∀ j, j < n → qf' j = qf j) ∧ ∀ x, rf x = 1 → rf' x = 1
theorem bL.rf {rf qf : Nat → Int32} {n : Nat} : bL rf qf n rf qf n := ⟨Nat.le_refl _, fun _ _ => rfl, fun _ h => h⟩
theorem bL.tr {rf qf : Nat → Int32} {n : Nat} {rf' qf' : Nat → Int32} {n' : Nat} {rf'' qf'' : Nat → Int32} {n'' : Nat} (h : bL rf qf n rf' qf' n') (h2 : bL rf' qf' n' rf'' qf'' n'') : bL rf qf n rf'' qf'' n'' := ⟨Nat.le_trans h.1 h2.1, fun j hj => (h2.2.1 j (Nat.lt_of_lt_of_le hj h.1)).trans (h.2.1 j hj), fun x hx => h2.2.2 x (h.2.2 x hx)⟩
theorem bI.le {P : pS} {rf qf : Nat → Int32} {n : Nat} (h : bI P rf qf n) : n ≤ 100 := by
  rw [h.2.1]
  have := List.countP_le_length (p := fun o => decide (rf o = 1)) (l := List.range 100)
  simpa using this
theorem cnt_up (rf : Nat → Int32) {o : Nat} (h0 : rf o = 0) : ∀ l : List Nat, l.Nodup → o ∈ l → l.countP (fun x => decide (va_up rf o 1 x = 1)) = l.countP (fun x => decide (rf x = 1)) + 1 := by
  intro l
  induction l with
  | nil => intro _ h; cases h
  | cons a l ih =>
    intro hn hm
    obtain ⟨hn1, hn2⟩ := List.nodup_cons.mp hn
    rw [List.countP_cons, List.countP_cons]
    by_cases ha : o = a
    · subst ha
      have hs : l.countP (fun x => decide (va_up rf o 1 x = 1)) = l.countP (fun x => decide (rf x = 1)) := by
        apply List.countP_congr
        intro x hx
        have : x ≠ o := fun e => hn1 (e ▸ hx)
        rw [va_up_ne _ _ this]
      rw [hs, if_pos (by rw [va_up_self]; decide), if_neg (by rw [h0]; decide)]
    · have hm' : o ∈ l := by
        rcases List.mem_cons.mp hm with h | h
        · exact absurd h ha
        · exact h
      rw [ih hn2 hm', va_up_ne _ _ (Ne.symm ha)]
      omega
theorem cnt_lt (rf : Nat → Int32) {o : Nat} (h0 : rf o = 0) (ho : o < 100) : (List.range 100).countP (fun x => decide (rf x = 1)) < 100 := by
  have h1 := cnt_up rf h0 (List.range 100) (List.nodup_range) (List.mem_range.mpr ho)
  have h2 := List.countP_le_length (p := fun x => decide (va_up rf o 1 x = 1)) (l := List.range 100)
  simp only [List.length_range] at h2
  omega
section RR
variable {P : pS} {S : mc_S} {r : Nat} {rf qf : Nat → Int32} {n : Nat}
theorem rcR.frame (h : rcR S r rf qf n) {S' : mc_S} (hf : ∀ a, r ≤ a → a ≤ r + 2 → S'.1 a = S.1 a) : rcR S' r rf qf n := ⟨(hf r (by omega) (by omega)).trans h.1, (hf _ (by omega) (by omega)).trans h.2.1, (hf _ (by omega) (by omega)).trans h.2.2⟩
theorem rcR.ap (h : rcR S r rf qf n) {b : Nat} {f : Int32} {c : Nat} {es : List pe} (hs : slP S b f c es) : (b ≠ r ∧ b ≠ r + 1 ∧ b ≠ r + 2) ∧ (b + 1 ≠ r ∧ b + 1 ≠ r + 1 ∧ b + 1 ≠ r + 2) ∧ (b + 2 ≠ r ∧ b + 2 ≠ r + 1 ∧ b + 2 ≠ r + 2) := by
  obtain ⟨h0, h1, h2⟩ := h
  obtain ⟨-, hc, hM, nf, vf, hn, hv, -⟩ := hs
  refine ⟨⟨fun e => ?_, fun e => ?_, fun e => ?_⟩, ⟨fun e => ?_, fun e => ?_, fun e => ?_⟩, ⟨fun e => ?_, fun e => ?_, fun e => ?_⟩⟩
  · rw [e, h0] at hM; cases hM
  · rw [e, h1] at hM; cases hM
  · rw [e, h2] at hM; cases hM
  · rw [e, h0] at hn; cases hn
  · rw [e, h1] at hn; cases hn
  · rw [e, h2] at hn; cases hn; omega
  · rw [e, h0] at hv; cases hv
  · rw [e, h1] at hv; cases hv
  · rw [e, h2] at hv; cases hv
theorem zr_enqueue (h : rcR S r rf qf n) (hb : bI P rf qf n) {o : Nat} (ho : o < 100) (hr : pRch P o) : ∃ (S' : mc_S) (rf' qf' : Nat → Int32) (n' : Nat), f_R_enqueue r (nI o) S = some S' ∧ rcR S' r rf' qf' n' ∧ bI P rf' qf' n' ∧ bL rf qf n rf' qf' n' ∧ rf' o = 1 ∧ sfr S S' r := by
  obtain ⟨h0, h1, h2⟩ := id h
  have e0 : rdR S (some r) 3 0 = some (some (r + 1)) := rdR_at h0 rfl
  have e1 := ldI_at (k := o) h1 ho (by decide)
  rcases hb.1 o ho with hz | hz
  · obtain ⟨b1, b2, b3, b4, b5⟩ := hb
    have hn : n < 100 := by rw [b2]; exact cnt_lt rf hz ho
    refine ⟨(va_up (va_up (va_up S.1 (r + 1) (some (.inl (2, 100, .inl (va_up rf o 1))))) (r + 2) (some (.inl (0, 100, .inl (va_up qf n (nI o)))))) r (some (.inr (3, [.ref (r + 1), .ref (r + 2), .int (nI (n + 1))]))), S.2), va_up rf o 1, va_up qf n (nI o), n + 1, ?_, ⟨up_eq, up_ne (by omega) (up_ne (by omega) up_eq), up_ne (by omega) up_eq⟩, ⟨fun x hx => ?_, ?_, fun j hj => ?_, fun x hx hx1 => ?_, fun x hx hx1 => ?_⟩, ⟨by omega, fun j hj => va_up_ne _ _ (by omega), fun x hx => ?_⟩, va_up_self _ _ _, rfl, fun a g0 g1 g2 => up_ne g0 (up_ne g2 (up_ne g1 rfl))⟩
    · simp only [f_R_enqueue, e0, obind, e1]
      rw [if_pos hz, stI_at h1 ho (by decide)]
      simp only [obind]
      rw [rdR_p (k := 1) (up_ne (by omega) h0) rfl]
      simp only [obind]
      rw [rdI_p (k := 2) (up_ne (by omega) h0) rfl]
      simp only [obind]
      rw [stI_p (up_ne (by omega) h2) hn (by decide)]
      simp only [obind]
      rw [rdI_p (k := 2) (up_ne (by omega) (up_ne (by omega) h0)) rfl]
      simp only [obind]
      rw [wr_p (up_ne (by omega) (up_ne (by omega) h0)) (by simp)]
      simp only [obind, List.set_cons_succ, List.set_cons_zero, nI_s]
    · by_cases hxo : x = o
      · subst hxo; exact Or.inr (va_up_self _ _ _)
      · rw [va_up_ne _ _ hxo]; exact b1 x hx
    · rw [cnt_up rf hz _ List.nodup_range (List.mem_range.mpr ho), ← b2]
    · by_cases hjn : j = n
      · subst hjn
        exact ⟨o, ho, va_up_self _ _ _, va_up_self _ _ _⟩
      · obtain ⟨x, hx, hq, hx1⟩ := b3 j (by omega)
        refine ⟨x, hx, by rw [va_up_ne _ _ hjn]; exact hq, ?_⟩
        by_cases hxo : x = o
        · subst hxo; exact va_up_self _ _ _
        · rw [va_up_ne _ _ hxo]; exact hx1
    · by_cases hxo : x = o
      · subst hxo
        exact ⟨n, by omega, va_up_self _ _ _⟩
      · rw [va_up_ne _ _ hxo] at hx1
        obtain ⟨j, hj, hq⟩ := b4 x hx hx1
        exact ⟨j, by omega, by rw [va_up_ne _ _ (by omega)]; exact hq⟩
    · by_cases hxo : x = o
      · subst hxo; exact hr
      · rw [va_up_ne _ _ hxo] at hx1
        exact b5 x hx hx1
    · by_cases hxo : x = o
      · subst hxo; exact va_up_self _ _ _
      · rw [va_up_ne _ _ hxo]; exact hx
  · refine ⟨S, rf, qf, n, ?_, h, hb, bL.rf, hz, rfl, fun _ _ _ _ => rfl⟩
    simp only [f_R_enqueue, e0, obind, e1]
    rw [if_neg (by rw [hz]; decide)]
theorem i64_r : ∀ o, o < 100 → (Int64.ofNat o).toInt32 = nI o ∧ ¬ Int64.ofNat o < 0 ∧ Int64.ofNat o < 100 := by decide +kernel
theorem i64_c (x : Int64) : pNIL + 1 + x - 1099511627777 = x := by
  rw [pN1, Int64.add_comm (pNIL + 1) x, Int64.add_sub_cancel]
theorem i64_b (v : Int64) : v = pNIL + 1 + (v - 1099511627777) := by
  rw [pN1, Int64.add_comm, Int64.sub_add_cancel]
theorem i64_n {x : Int64} (h0 : ¬ x < 0) (h1 : x < 100) : ∃ o, o < 100 ∧ x = Int64.ofNat o := by
  have e : Int64.ofNat x.toNatClampNeg = x := Int64.ofNat_toNatClampNeg x (Int64.not_lt.mp h0)
  refine ⟨x.toNatClampNeg, ?_, e.symm⟩
  rw [Int64.lt_iff_toInt_lt] at h1
  have h2 : (100 : Int64).toInt = 100 := by decide
  rw [h2] at h1
  show x.toInt.toNat < 100
  omega
theorem zr_all_g {b : Nat} {f : Int32} {c : Nat} {es : List pe} (hrs : ∀ o, o < 100 → pRef es o → pRch P o) : ∀ (d k m : Nat) (S : mc_S) (rf qf : Nat → Int32) (n : Nat), k + d = es.length → d < m → slP S b f c es → rcR S r rf qf n → bI P rf qf n → ∃ (S' : mc_S) (rf' qf' : Nat → Int32) (n' : Nat), g_R_enqueueAll r m (some b) (nI k) S = some S' ∧ rcR S' r rf' qf' n' ∧ bI P rf' qf' n' ∧ bL rf qf n rf' qf' n' ∧ (∀ o, o < 100 → pRef (es.drop k) o → rf' o = 1) ∧ sfr S S' r := by
  intro d
  induction d with
  | zero =>
    intro k m S rf qf n hk hm hs h hb
    obtain ⟨m, rfl⟩ : ∃ q, m = q + 1 := ⟨m - 1, by omega⟩
    refine ⟨S, rf, qf, n, ?_, h, hb, bL.rf, fun o ho hp => ?_, rfl, fun _ _ _ _ => rfl⟩
    · show q_R_enqueueAll_0 r (g_R_enqueueAll r m) (some b) (nI k) S = _
      simp only [q_R_enqueueAll_0, hs.rd3, obind]
      rw [if_pos ((nI_lei hs.len (by have := hs.len; omega)).mpr (by omega))]
    · rw [List.drop_eq_nil_of_le (by omega)] at hp
      obtain ⟨q, hq, -⟩ := hp
      cases hq
  | succ d ih =>
    intro k m S rf qf n hk hm hs h hb
    obtain ⟨m, rfl⟩ : ∃ q, m = q + 1 := ⟨m - 1, by omega⟩
    have hlen := hs.len
    have hk1 : k < es.length := by omega
    have hd1 : es.drop k = es[k] :: es.drop (k + 1) := List.drop_eq_getElem_cons hk1
    have r3 := hs.rd3
    have r2 := hs.rd2
    obtain ⟨-, hcc, -, nf, vf, hn, hv, he⟩ := id hs
    have hll := hs.1
    have e1 := he k es[k] (List.getElem?_eq_getElem hk1)
    have hld := ldL_at (k := k) hv (by omega) (by omega)
    have hap := h.ap hs
    have goal0 : g_R_enqueueAll r (m + 1) (some b) (nI k) S = if (lg_cmp (vf k - 1099511627777) 0) < 0 then (g_R_enqueueAll r m (some b) (nI k + 1) S) else (if 0 ≤ (lg_cmp (vf k - 1099511627777) 100) then (g_R_enqueueAll r m (some b) (nI k + 1) S) else ((rcv S (some r) 3).bind fun b4 => (f_R_enqueue b4 ((vf k - 1099511627777)).toInt32 S).bind fun S5 => g_R_enqueueAll r m (some b) (nI k + 1) S5)) := by
      show q_R_enqueueAll_0 r (g_R_enqueueAll r m) (some b) (nI k) S = _
      simp only [q_R_enqueueAll_0, r3, r2, obind, hld]
      rw [if_neg (fun q => by have := (nI_lei hlen (by omega)).mp q; omega)]
    rw [goal0, nI_s]
    by_cases c0 : vf k - 1099511627777 < 0
    · rw [if_pos (lc_lt.mpr c0)]
      obtain ⟨S', rf', qf', n', g1, g2, g3, g4, g5, g6⟩ := ih (k + 1) m S rf qf n (by omega) (by omega) hs h hb
      refine ⟨S', rf', qf', n', g1, g2, g3, g4, fun o ho hp => ?_, g6⟩
      obtain ⟨q, hq, hv2⟩ := hp
      rw [hd1] at hq
      rcases List.mem_cons.mp hq with rfl | hq
      · rw [e1] at hv2
        have hv2 : vf k = pNIL + 1 + Int64.ofNat o := hv2
        rw [hv2, i64_c] at c0
        exact absurd c0 (i64_r o ho).2.1
      · exact g5 o ho ⟨q, hq, hv2⟩
    · rw [if_neg (fun q => c0 (lc_lt.mp q))]
      by_cases c1 : vf k - 1099511627777 < 100
      · rw [if_neg (fun q => (Int64.not_lt.mpr (lc_ge.mp q)) c1)]
        obtain ⟨x, hx, hxe⟩ := i64_n c0 c1
        have hvk : vf k = pNIL + 1 + Int64.ofNat x := by rw [← hxe]; exact i64_b _
        have hrx : pRch P x := hrs x hx ⟨es[k], List.getElem_mem hk1, by rw [e1]; exact hvk⟩
        obtain ⟨S1, rf1, qf1, n1, f1, f2, f3, f4, f5, f6⟩ := zr_enqueue h hb hx hrx
        have hs1 : slP S1 b f c es := hs.frame (f6.2 _ hap.1.1 hap.1.2.1 hap.1.2.2) (f6.2 _ hap.2.1.1 hap.2.1.2.1 hap.2.1.2.2) (f6.2 _ hap.2.2.1 hap.2.2.2.1 hap.2.2.2.2)
        obtain ⟨S', rf', qf', n', g1, g2, g3, g4, g5, g6⟩ := ih (k + 1) m S1 rf1 qf1 n1 (by omega) (by omega) hs1 f2 f3
        refine ⟨S', rf', qf', n', ?_, g2, g3, f4.tr g4, fun o ho hp => ?_, g6.1.trans f6.1, fun a q0 q1 q2 => (g6.2 a q0 q1 q2).trans (f6.2 a q0 q1 q2)⟩
        · rw [rcv_at h.1]
          simp only [obind]
          rw [hxe, (i64_r x hx).1, f1]
          exact g1
        · obtain ⟨q, hq, hv2⟩ := hp
          rw [hd1] at hq
          rcases List.mem_cons.mp hq with rfl | hq
          · rw [e1] at hv2
            have hv2 : vf k = pNIL + 1 + Int64.ofNat o := hv2
            have : Int64.ofNat o = Int64.ofNat x := by
              have h1 := hv2
              rw [hvk] at h1
              have h2 := congrArg (fun z => z - 1099511627777) h1
              simp only [i64_c] at h2
              exact h2.symm
            have : nI o = nI x := by rw [← (i64_r o ho).1, ← (i64_r x hx).1, this]
            have : o = x := (nI_eqi (by omega) (by omega)).mp this
            subst this
            exact g4.2.2 o f5
          · exact g5 o ho ⟨q, hq, hv2⟩
      · rw [if_pos (lc_ge.mpr (Int64.not_lt.mp c1))]
        obtain ⟨S', rf', qf', n', g1, g2, g3, g4, g5, g6⟩ := ih (k + 1) m S rf qf n (by omega) (by omega) hs h hb
        refine ⟨S', rf', qf', n', g1, g2, g3, g4, fun o ho hp => ?_, g6⟩
        obtain ⟨q, hq, hv2⟩ := hp
        rw [hd1] at hq
        rcases List.mem_cons.mp hq with rfl | hq
        · rw [e1] at hv2
          have hv2 : vf k = pNIL + 1 + Int64.ofNat o := hv2
          rw [hv2, i64_c] at c1
          exact absurd (i64_r o ho).2.2 c1
        · exact g5 o ho ⟨q, hq, hv2⟩
theorem zr_all {b : Nat} {f : Int32} {c : Nat} {es : List pe} (hrs : ∀ o, o < 100 → pRef es o → pRch P o) (hs : slP S b f c es) (h : rcR S r rf qf n) (hb : bI P rf qf n) : ∃ (S' : mc_S) (rf' qf' : Nat → Int32) (n' : Nat), f_R_enqueueAll r (some b) S = some S' ∧ rcR S' r rf' qf' n' ∧ bI P rf' qf' n' ∧ bL rf qf n rf' qf' n' ∧ (∀ o, o < 100 → pRef es o → rf' o = 1) ∧ sfr S S' r := by
  obtain ⟨S', rf', qf', n', g1, g2, g3, g4, g5, g6⟩ := zr_all_g hrs es.length 0 5000 S rf qf n (by omega) (by have := hs.1; have := hs.2.1; omega) hs h hb
  refine ⟨S', rf', qf', n', ?_, g2, g3, g4, by simpa using g5, g6⟩
  unfold f_R_enqueueAll
  rw [if_neg (fun q => by cases q)]
  exact g1
theorem zr_all0 : f_R_enqueueAll r none S = some S := by
  unfold f_R_enqueueAll
  rw [if_pos rfl]
end RR
