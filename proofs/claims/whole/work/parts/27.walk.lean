theorem pRch_root {P : pS} {o : Nat} (ho : o < 100) (h : pRef P.2 o) : pRch P o := fun _ hT => hT.1 o ho h
theorem pRch_step {P : pS} {a : Nat} {q : Int32 × List pe} (ha : a < 100) (hr : pRch P a) (hq : P.1 a = some q) {o : Nat} (ho : o < 100) (h : pRef q.2 o) : pRch P o := fun T hT => hT.2 a q ha (hr T hT) hq o ho h
section RW
variable {P : pS} {S : mc_S} {r t : Nat} {rf qf : Nat → Int32} {n : Nat} {ob : Nat → Option Nat} {rp : Nat}
theorem cSt.ap (h : cSt S t ob rp) (hr : rcR S r rf qf n) : (t ≠ r ∧ t ≠ r + 1 ∧ t ≠ r + 2) ∧ (t + 1 ≠ r ∧ t + 1 ≠ r + 1 ∧ t + 1 ≠ r + 2) := by
  obtain ⟨h0, h1, h2⟩ := hr
  obtain ⟨a, f, b, -⟩ := h
  refine ⟨⟨fun e => ?_, fun e => ?_, fun e => ?_⟩, ⟨fun e => ?_, fun e => ?_, fun e => ?_⟩⟩
  · rw [e, h0] at a; cases a
  · rw [e, h1] at a; cases a
  · rw [e, h2] at a; cases a
  · rw [e, h0] at b; cases b
  · rw [e, h1] at b; cases b
  · rw [e, h2] at b; cases b
theorem cSt.fr (h : cSt S t ob rp) (hr : rcR S r rf qf n) {S' : mc_S} (hf : sfr S S' r) : cSt S' t ob rp := by
  have := h.ap hr
  exact h.frame (hf.2 _ this.1.1 this.1.2.1 this.1.2.2) (hf.2 _ this.2.1 this.2.2.1 this.2.2.2)
theorem cPS.fr (h : cPS S ob rp P) (hr : rcR S r rf qf n) {S' : mc_S} (hf : sfr S S' r) : cPS S' ob rp P := by
  refine h.frame (fun b hb => ?_)
  obtain ⟨f, c, es, hs⟩ := h.pt hb
  have hap := hr.ap hs
  exact ⟨hf.2 _ hap.1.1 hap.1.2.1 hap.1.2.2, hf.2 _ hap.2.1.1 hap.2.1.2.1 hap.2.1.2.2, hf.2 _ hap.2.2.1 hap.2.2.2.1 hap.2.2.2.2⟩
theorem sfr.tr {S S1 S2 : mc_S} {h : Nat} (a : sfr S S1 h) (b : sfr S1 S2 h) : sfr S S2 h := ⟨b.1.trans a.1, fun x h0 h1 h2 => (b.2 x h0 h1 h2).trans (a.2 x h0 h1 h2)⟩
def bC (P : pS) (rf qf : Nat → Int32) (k : Nat) : Prop := (∀ o, o < 100 → pRef P.2 o → rf o = 1) ∧ ∀ j, j < k → ∀ a, a < 100 → qf j = nI a → ∀ q, P.1 a = some q → ∀ o, o < 100 → pRef q.2 o → rf o = 1
theorem zr_walk1 : ∀ (d k m : Nat) (S : mc_S) (rf qf : Nat → Int32) (n : Nat), k + d = 100 → d < m → k ≤ n → cSt S t ob rp → cPS S ob rp P → rcR S r rf qf n → bI P rf qf n → bC P rf qf k → ∃ (S' : mc_S) (rf' qf' : Nat → Int32) (n' : Nat), g_R_walk r m 1 (some t) (nI k) S = some S' ∧ rcR S' r rf' qf' n' ∧ bI P rf' qf' n' ∧ bC P rf' qf' n' ∧ sfr S S' r := by
  intro d
  induction d with
  | zero =>
    intro k m S rf qf n hk hm hkn hT hP h hb hc
    obtain ⟨m, rfl⟩ : ∃ q, m = q + 1 := ⟨m - 1, by omega⟩
    have hle := hb.le
    have e2 : rdI S (some r) 3 2 = some (nI n) := rdI_at h.1 rfl
    have hnk : n = k := by omega
    refine ⟨S, rf, qf, n, ?_, h, hb, by rw [hnk]; exact hc, rfl, fun _ _ _ _ => rfl⟩
    show q_R_walk_1 r (g_R_walk r m) (some t) (nI k) S = _
    simp only [q_R_walk_1, e2, obind]
    rw [if_pos ((nI_lei (by omega) (by omega)).mpr (by omega))]
  | succ d ih =>
    intro k m S rf qf n hk hm hkn hT hP h hb hc
    obtain ⟨m, rfl⟩ : ∃ q, m = q + 1 := ⟨m - 1, by omega⟩
    have hle := hb.le
    have e2 : rdI S (some r) 3 2 = some (nI n) := rdI_at h.1 rfl
    by_cases hkn2 : n ≤ k
    · have hnk : n = k := by omega
      refine ⟨S, rf, qf, n, ?_, h, hb, by rw [hnk]; exact hc, rfl, fun _ _ _ _ => rfl⟩
      show q_R_walk_1 r (g_R_walk r m) (some t) (nI k) S = _
      simp only [q_R_walk_1, e2, obind]
      rw [if_pos ((nI_lei (by omega) (by omega)).mpr (by omega))]
    · have e1 : rdR S (some r) 3 1 = some (some (r + 2)) := rdR_at h.1 rfl
      obtain ⟨a, ha, hqa, hra⟩ := hb.2.2.1 k (by omega)
      have el := ldI_at (k := k) h.2.2 (by omega) (by decide)
      have goal0 : g_R_walk r (m + 1) 1 (some t) (nI k) S = (f_R_enqueueAll r (ob a) S).bind fun S7 => g_R_walk r m 1 (some t) (nI (k + 1)) S7 := by
        show q_R_walk_1 r (g_R_walk r m) (some t) (nI k) S = _
        simp only [q_R_walk_1, e2, e1, obind, hT.rd0, el]
        rw [if_neg (fun q => by have := (nI_lei (by omega) (by omega)).mp q; omega), if_neg (show ¬ (100 : Int32) ≤ nI k from fun q => by have := (nI_lei (a := 100) (by decide) (by omega)).mp q; omega)]
        rw [hqa, hT.ld ha]
        simp only [obind, rcv_at h.1, nI_s]
      rw [goal0]
      have hra2 := hb.2.2.2.2 a ha hra
      have hoa := hP.1 a ha
      cases hx : P.1 a with
      | none =>
        rw [hx] at hoa
        rw [show ob a = none from hoa, zr_all0]
        simp only [obind]
        refine ih (k + 1) m S rf qf n (by omega) (by omega) (by omega) hT hP h hb ⟨hc.1, fun j hj b hb2 hq q hPq => ?_⟩
        by_cases hjk : j = k
        · subst hjk
          rw [hqa] at hq
          have : a = b := (nI_eqi (by omega) (by omega)).mp hq
          subst this
          rw [hx] at hPq
          cases hPq
        · exact hc.2 j (by omega) b hb2 hq q hPq
      | some q0 =>
        rw [hx] at hoa
        obtain ⟨b, eb, hs⟩ := hoa
        obtain ⟨S1, rf1, qf1, n1, f1, f2, f3, f4, f5, f6⟩ := zr_all (P := P) (fun o ho hp => pRch_step ha hra2 hx ho hp) hs h hb
        rw [eb, f1]
        simp only [obind]
        obtain ⟨S', rf', qf', n', g1, g2, g3, g4, g5⟩ := ih (k + 1) m S1 rf1 qf1 n1 (by omega) (by omega) (by have := f4.1; omega) (hT.fr h f6) (hP.fr h f6) f2 f3 ⟨fun o ho hp => f4.2.2 o (hc.1 o ho hp), fun j hj c hc2 hq q hPq o ho hp => by
          rw [f4.2.1 j (by omega)] at hq
          by_cases hjk : j = k
          · subst hjk
            rw [hqa] at hq
            have : a = c := (nI_eqi (by omega) (by omega)).mp hq
            subst this
            rw [hx] at hPq
            cases hPq
            exact f5 o ho hp
          · exact f4.2.2 o (hc.2 j (by omega) c hc2 hq q hPq o ho hp)⟩
        exact ⟨S', rf', qf', n', g1, g2, g3, g4, f6.tr g5⟩
theorem zr_walk0 : ∀ (d k m : Nat) (S : mc_S) (rf : Nat → Int32), k + d = 100 → d + 102 < m → cSt S t ob rp → cPS S ob rp P → rcR S r rf qf 0 → (∀ o, o < k → rf o = 0) → ∃ (S' : mc_S) (rf' qf' : Nat → Int32) (n' : Nat), g_R_walk r m 0 (some t) (nI k) S = some S' ∧ rcR S' r rf' qf' n' ∧ bI P rf' qf' n' ∧ bC P rf' qf' n' ∧ sfr S S' r := by
  intro d
  induction d with
  | zero =>
    intro k m S rf hk hm hT hP h hz
    obtain ⟨m, rfl⟩ : ∃ q, m = q + 1 := ⟨m - 1, by omega⟩
    obtain rfl : k = 100 := by omega
    have hb : bI P rf qf 0 := by
      refine ⟨fun o ho => Or.inl (hz o ho), ?_, fun j hj => (by omega), fun o ho h1 => ?_, fun o ho h1 => ?_⟩
      · symm
        apply List.countP_eq_zero.mpr
        intro o ho
        rw [hz o (List.mem_range.mp ho)]
        decide
      · rw [hz o ho] at h1; exact absurd h1 (by decide)
      · rw [hz o ho] at h1; exact absurd h1 (by decide)
    obtain ⟨S1, rf1, qf1, n1, f1, f2, f3, f4, f5, f6⟩ := zr_all (P := P) (fun o ho hp => pRch_root ho hp) hP.2 h hb
    obtain ⟨S', rf', qf', n', g1, g2, g3, g4, g5⟩ := zr_walk1 (P := P) (r := r) (t := t) (ob := ob) (rp := rp) 100 0 m S1 rf1 qf1 n1 (by omega) (by omega) (by omega) (hT.fr h f6) (hP.fr h f6) f2 f3 ⟨f5, fun j hj => (by omega)⟩
    refine ⟨S', rf', qf', n', ?_, g2, g3, g4, f6.tr g5⟩
    show q_R_walk_0 r (g_R_walk r m) (some t) (nI 100) S = _
    simp only [q_R_walk_0, hT.rd1, obind, rcv_at h.1, f1]
    rw [if_pos (show (100 : Int32) ≤ nI 100 from by decide)]
    exact g1
  | succ d ih =>
    intro k m S rf hk hm hT hP h hz
    obtain ⟨m, rfl⟩ : ∃ q, m = q + 1 := ⟨m - 1, by omega⟩
    have hk1 : k < 100 := by omega
    have e0 : rdR S (some r) 3 0 = some (some (r + 1)) := rdR_at h.1 rfl
    have hfr : sfr S (va_up S.1 (r + 1) (some (.inl (2, 100, .inl (va_up rf k 0)))), S.2) r := ⟨rfl, fun a _ h1 _ => up_ne h1 rfl⟩
    obtain ⟨S', rf', qf', n', g1, g2, g3, g4, g5⟩ := ih (k + 1) m _ (va_up rf k 0) (by omega) (by omega) (hT.fr h hfr) (hP.fr h hfr) ⟨up_ne (by omega) h.1, up_eq, up_ne (by omega) h.2.2⟩ (fun o ho => by
      by_cases hok : o = k
      · subst hok; exact va_up_self _ _ _
      · rw [va_up_ne _ _ hok]; exact hz o (by omega))
    refine ⟨S', rf', qf', n', ?_, g2, g3, g4, hfr.tr g5⟩
    show q_R_walk_0 r (g_R_walk r m) (some t) (nI k) S = _
    simp only [q_R_walk_0, e0, obind]
    rw [if_neg (show ¬ (100 : Int32) ≤ nI k from fun q => by have := (nI_lei (a := 100) (by decide) (by omega)).mp q; omega), stI_at h.2.1 hk1 (by decide)]
    simp only [obind, nI_s]
    exact g1
theorem bI_end (hb : bI P rf qf n) (hc : bC P rf qf n) : ∀ o, o < 100 → (rf o = 1 ↔ pRch P o) := by
  intro o ho
  refine ⟨fun h => hb.2.2.2.2 o ho h, fun h => ?_⟩
  refine h (fun x => rf x = 1) ⟨fun x hx hp => hc.1 x hx hp, fun a q ha hT hq x hx hp => ?_⟩
  obtain ⟨j, hj, hqj⟩ := hb.2.2.2.1 a ha hT
  exact hc.2 j hj a ha hqj q hq x hx hp
theorem zr_walk (hT : cSt S t ob rp) (hP : cPS S ob rp P) (h : rcR S r rf qf n) : ∃ (S' : mc_S) (rf' qf' : Nat → Int32) (n' : Nat), f_R_walk r (some t) S = some S' ∧ rcR S' r rf' qf' n' ∧ (∀ o, o < 100 → (rf' o = 1 ↔ pRch P o)) ∧ (∀ o, o < 100 → rf' o = 0 ∨ rf' o = 1) ∧ sfr S S' r := by
  have hfr : sfr S (va_up S.1 r (some (.inr (3, [.ref (r + 1), .ref (r + 2), .int (nI 0)]))), S.2) r := ⟨rfl, fun a h0 _ _ => up_ne h0 rfl⟩
  obtain ⟨S', rf', qf', n', g1, g2, g3, g4, g5⟩ := zr_walk0 (P := P) (r := r) (t := t) (ob := ob) (rp := rp) (qf := qf) 100 0 5000 _ rf (by omega) (by omega) (hT.fr h hfr) (hP.fr h hfr) ⟨up_eq, up_ne (by omega) h.2.1, up_ne (by omega) h.2.2⟩ (fun o ho => by omega)
  refine ⟨S', rf', qf', n', ?_, g2, bI_end g3 g4, g3.1, hfr.tr g5⟩
  unfold f_R_walk
  rw [wr_at h.1 (by simp)]
  exact g1
theorem zr_drop_g : ∀ (d k m c : Nat) (S : mc_S) (ob : Nat → Option Nat), k + d = 100 → d < m → (∀ o, o < 100 → rf o = 0 ∨ rf o = 1) → cSt S t ob rp → rcR S r rf qf n → ∃ S', g_R_dropUnreached r m (some t) (nI c) (nI k) S = some (nI (c + ((List.range 100).drop k).countP (fun o => decide (¬ ob o = none ∧ ¬ rf o = 1))), S') ∧ cSt S' t (fun o => if k ≤ o ∧ ¬ rf o = 1 then none else ob o) rp ∧ S'.2 = S.2 ∧ ∀ a, a ≠ t + 1 → S'.1 a = S.1 a := by
  intro d
  induction d with
  | zero =>
    intro k m c S ob hk hm hz hT h
    obtain ⟨m, rfl⟩ : ∃ q, m = q + 1 := ⟨m - 1, by omega⟩
    obtain rfl : k = 100 := by omega
    refine ⟨S, ?_, ?_, rfl, fun _ _ => rfl⟩
    · show q_R_dropUnreached_0 r (g_R_dropUnreached r m) (some t) (nI c) (nI 100) S = _
      simp only [q_R_dropUnreached_0]
      rw [if_pos (show (100 : Int32) ≤ nI 100 from by decide), List.drop_eq_nil_of_le (by simp)]
      rfl
    · obtain ⟨a, f, b, cc⟩ := hT
      exact ⟨a, f, b, fun o ho => by rw [cc o ho]; show ob o = if 100 ≤ o ∧ ¬ rf o = 1 then none else ob o; rw [if_neg (by omega)]⟩
  | succ d ih =>
    intro k m c S ob hk hm hz hT h
    obtain ⟨m, rfl⟩ : ∃ q, m = q + 1 := ⟨m - 1, by omega⟩
    have hk1 : k < 100 := by omega
    have hk2 : k < (List.range 100).length := by simp; omega
    have hd1 : (List.range 100).drop k = k :: (List.range 100).drop (k + 1) := by
      rw [List.drop_eq_getElem_cons hk2]
      simp
    have e0 : rdR S (some r) 3 0 = some (some (r + 1)) := rdR_at h.1 rfl
    have el := ldI_at (k := k) h.2.1 hk1 (by decide)
    have goal0 : g_R_dropUnreached r (m + 1) (some t) (nI c) (nI k) S = if ob k = none then (g_R_dropUnreached r m (some t) (nI c) (nI (k + 1)) S) else (if rf k = 0 then ((stR S (some (t + 1)) 3 1 (nI k) none).bind fun S6 => g_R_dropUnreached r m (some t) (nI (c + 1)) (nI (k + 1)) S6) else (g_R_dropUnreached r m (some t) (nI c) (nI (k + 1)) S)) := by
      show q_R_dropUnreached_0 r (g_R_dropUnreached r m) (some t) (nI c) (nI k) S = _
      simp only [q_R_dropUnreached_0, hT.rd0, e0, el, obind, hT.ld hk1, nI_s]
      rw [if_neg (show ¬ (100 : Int32) ≤ nI k from fun q => by have := (nI_lei (a := 100) (by decide) (by omega)).mp q; omega)]
    rw [goal0, hd1, List.countP_cons]
    by_cases c0 : ob k = none
    · rw [if_pos c0, if_neg (by simp [c0])]
      obtain ⟨S', g1, ⟨a2, f2, b2, c2⟩, g3, g4⟩ := ih (k + 1) m c S ob (by omega) (by omega) hz hT h
      refine ⟨S', g1, ⟨a2, f2, b2, fun o ho => ?_⟩, g3, g4⟩
      rw [c2 o ho]
      show (if k + 1 ≤ o ∧ ¬ rf o = 1 then none else ob o) = (if k ≤ o ∧ ¬ rf o = 1 then none else ob o)
      by_cases hok : o = k
      · subst hok
        rw [if_neg (by omega), c0]
        split <;> rfl
      · by_cases h1 : k ≤ o ∧ ¬ rf o = 1
        · rw [if_pos h1, if_pos ⟨by omega, h1.2⟩]
        · rw [if_neg h1, if_neg (fun q => h1 ⟨by omega, q.2⟩)]
    · rw [if_neg c0]
      rcases hz k hk1 with c1 | c1
      · rw [if_pos c1, if_pos (by simp [c0, c1])]
        obtain ⟨a, f, b, cc⟩ := id hT
        rw [stR_at b (Or.inl rfl) hk1 (by decide)]
        simp only [obind]
        have hfr : ∀ x, x ≠ t + 1 → (va_up S.1 (t + 1) (some (.inl (3, 100, .inr (.inr (.inr (.inr (va_up f k none))))))), S.2).1 x = S.1 x := fun x hx => up_ne hx rfl
        have hap := hT.ap h
        obtain ⟨S', g1, ⟨a2, f2, b2, c2⟩, g3, g4⟩ := ih (k + 1) m (c + 1) _ (va_up ob k none) (by omega) (by omega) hz ⟨(hfr t (by omega)).trans a, va_up f k none, up_eq, fun o ho => by
          by_cases hok : o = k
          · subst hok; rw [va_up_self, va_up_self]
          · rw [va_up_ne _ _ hok, va_up_ne _ _ hok, cc o ho]⟩ ⟨(hfr _ (Ne.symm hap.2.1)).trans h.1, (hfr _ (Ne.symm hap.2.2.1)).trans h.2.1, (hfr _ (Ne.symm hap.2.2.2)).trans h.2.2⟩
        refine ⟨S', ?_, ⟨a2, f2, b2, fun o ho => ?_⟩, g3, fun x hx => (g4 x hx).trans (hfr x hx)⟩
        · rw [g1]
          have hcc : ((List.range 100).drop (k + 1)).countP (fun o => decide (¬ va_up ob k none o = none ∧ ¬ rf o = 1)) = ((List.range 100).drop (k + 1)).countP (fun o => decide (¬ ob o = none ∧ ¬ rf o = 1)) := by
            apply List.countP_congr
            intro x hx
            have : x ≠ k := by
              intro e
              subst e
              have hnd : ((List.range 100).drop x).Nodup := List.Nodup.sublist (List.drop_sublist _ _) List.nodup_range
              rw [hd1] at hnd
              exact (List.nodup_cons.mp hnd).1 hx
            rw [va_up_ne _ _ this]
          rw [hcc]
          congr 3
          omega
        · rw [c2 o ho]
          show (if k + 1 ≤ o ∧ ¬ rf o = 1 then none else va_up ob k none o) = (if k ≤ o ∧ ¬ rf o = 1 then none else ob o)
          by_cases hok : o = k
          · subst hok
            rw [if_neg (by omega), va_up_self, if_pos ⟨Nat.le_refl _, by rw [c1]; decide⟩]
          · rw [va_up_ne _ _ hok]
            by_cases h1 : k ≤ o ∧ ¬ rf o = 1
            · rw [if_pos h1, if_pos ⟨by omega, h1.2⟩]
            · rw [if_neg h1, if_neg (fun q => h1 ⟨by omega, q.2⟩)]
      · rw [if_neg (by rw [c1]; decide), if_neg (by simp [c1])]
        obtain ⟨S', g1, ⟨a2, f2, b2, c2⟩, g3, g4⟩ := ih (k + 1) m c S ob (by omega) (by omega) hz hT h
        refine ⟨S', g1, ⟨a2, f2, b2, fun o ho => ?_⟩, g3, g4⟩
        rw [c2 o ho]
        show (if k + 1 ≤ o ∧ ¬ rf o = 1 then none else ob o) = (if k ≤ o ∧ ¬ rf o = 1 then none else ob o)
        by_cases hok : o = k
        · subst hok
          rw [if_neg (by omega), if_neg (fun q => q.2 c1)]
        · by_cases h1 : k ≤ o ∧ ¬ rf o = 1
          · rw [if_pos h1, if_pos ⟨by omega, h1.2⟩]
          · rw [if_neg h1, if_neg (fun q => h1 ⟨by omega, q.2⟩)]
theorem zr_drop (hT : cSt S t ob rp) (hP : cPS S ob rp P) (h : rcR S r rf qf n) : ∃ (S' : mc_S) (ob' : Nat → Option Nat) (rf' qf' : Nat → Int32) (n' : Nat), f_R_dropUnreached r (some t) S = some (nI (pGone P), S') ∧ cSt S' t ob' rp ∧ cPS S' ob' rp (pSw P) ∧ rcR S' r rf' qf' n' ∧ (∀ o, o < 100 → ob' o = none ∨ ob' o = ob o) ∧ S'.2 = S.2 ∧ ∀ a, a ≠ t + 1 → a ≠ r → a ≠ r + 1 → a ≠ r + 2 → S'.1 a = S.1 a := by
  obtain ⟨S1, rf', qf', n', w1, w2, w3, w4, w5⟩ := zr_walk hT hP h
  have hT1 := hT.fr h w5
  have hP1 := hP.fr h w5
  obtain ⟨S', g1, g2, g3, g4⟩ := zr_drop_g (r := r) (t := t) (rp := rp) (rf := rf') (qf := qf') (n := n') 100 0 5000 0 S1 ob (by omega) (by omega) w4 hT1 w2
  have hap := hT1.ap w2
  have hapS : ∀ b, cPt ob rp b → S'.1 b = S1.1 b ∧ S'.1 (b + 1) = S1.1 (b + 1) ∧ S'.1 (b + 2) = S1.1 (b + 2) := by
    intro b hb
    obtain ⟨f, c, es, hs⟩ := hP1.pt hb
    obtain ⟨-, -, hM, nf, vf, hn, hv, -⟩ := hs
    obtain ⟨-, ff, bb, -⟩ := hT1
    refine ⟨g4 _ (fun e => ?_), g4 _ (fun e => ?_), g4 _ (fun e => ?_)⟩
    · rw [e, bb] at hM; cases hM
    · rw [e, bb] at hn; cases hn
    · rw [e, bb] at hv; cases hv
  have hP2 := hP1.frame hapS
  refine ⟨S', fun o => if 0 ≤ o ∧ ¬ rf' o = 1 then none else ob o, rf', qf', n', ?_, g2, ⟨fun o ho => ?_, hP2.2⟩, ⟨(g4 _ (Ne.symm hap.2.1)).trans w2.1, (g4 _ (Ne.symm hap.2.2.1)).trans w2.2.1, (g4 _ (Ne.symm hap.2.2.2)).trans w2.2.2⟩, fun o ho => ?_, g3.trans w5.1, fun a ha h0 h1 h2 => (g4 a ha).trans (w5.2 a h0 h1 h2)⟩
  · unfold f_R_dropUnreached
    rw [rcv_at h.1]
    simp only [obind, w1]
    rw [show (0 : Int32) = nI 0 from rfl, g1]
    have : ((List.range 100).drop 0).countP (fun o => decide (¬ ob o = none ∧ ¬ rf' o = 1)) = pGone P := by
      unfold pGone
      rw [List.drop_zero]
      apply List.countP_congr
      intro x hx
      have hx := List.mem_range.mp hx
      have h1 := (hP.1 x hx).none_iff
      have h2 := w3 x hx
      simp only [decide_eq_true_eq]
      exact ⟨fun q => ⟨fun e => q.1 (h1.mpr e), fun e => q.2 (h2.mpr e)⟩, fun q => ⟨fun e => q.1 (h1.mp e), fun e => q.2 (h2.mp e)⟩⟩
    rw [this, Nat.zero_add]
  · show cOb S' (if 0 ≤ o ∧ ¬ rf' o = 1 then none else ob o) (@ite pO (pRch P o) (Classical.propDecidable _) (P.1 o) none)
    by_cases hr : pRch P o
    · rw [if_neg (fun q => q.2 ((w3 o ho).mpr hr)), if_pos hr]
      exact hP2.1 o ho
    · rw [if_pos ⟨Nat.zero_le _, fun q => hr ((w3 o ho).mp q)⟩, if_neg hr]
      rfl
  · show (if 0 ≤ o ∧ ¬ rf' o = 1 then none else ob o) = none ∨ (if 0 ≤ o ∧ ¬ rf' o = 1 then none else ob o) = ob o
    by_cases hr : 0 ≤ o ∧ ¬ rf' o = 1
    · rw [if_pos hr]; exact Or.inl rfl
    · rw [if_neg hr]; exact Or.inr rfl
end RW
