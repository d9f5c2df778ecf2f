def cSt (S : mc_S) (t : Nat) (ob : Nat → Option Nat) (rp : Nat) : Prop := S.1 t = some (.inr (2, [.ref (t + 1), .ref rp])) ∧ ∃ f : Nat → Option Nat, S.1 (t + 1) = some (.inl (3, 100, .inr (.inr (.inr (.inr f))))) ∧ ∀ o, o < 100 → f o = ob o
def cCap (f : Int32) : Nat := if f = 1 then 8 else 20
def cOb (S : mc_S) (r : Option Nat) (x : pO) : Prop := match x with
  | none => r = none
  | some q => ∃ h, r = some h ∧ slP S h q.1 (cCap q.1) q.2
def cPt (ob : Nat → Option Nat) (rp h : Nat) : Prop := (∃ o, o < 100 ∧ ob o = some h) ∨ h = rp
def cPS (S : mc_S) (ob : Nat → Option Nat) (rp : Nat) (P : pS) : Prop := (∀ o, o < 100 → cOb S (ob o) (P.1 o)) ∧ slP S rp 1 12 P.2
theorem cSt.frame {S S' : mc_S} {t : Nat} {ob : Nat → Option Nat} {rp : Nat} (h : cSt S t ob rp) (h0 : S'.1 t = S.1 t) (h1 : S'.1 (t + 1) = S.1 (t + 1)) : cSt S' t ob rp := by
  obtain ⟨a, f, b, c⟩ := h
  exact ⟨h0.trans a, f, h1.trans b, c⟩
theorem cOb.frame {S S' : mc_S} {r : Option Nat} {x : pO} (h : cOb S r x) (hf : ∀ b, r = some b → S'.1 b = S.1 b ∧ S'.1 (b + 1) = S.1 (b + 1) ∧ S'.1 (b + 2) = S.1 (b + 2)) : cOb S' r x := by
  cases x with
  | none => exact h
  | some q =>
    obtain ⟨b, e, hs⟩ := h
    obtain ⟨g0, g1, g2⟩ := hf b e
    exact ⟨b, e, hs.frame g0 g1 g2⟩
theorem cPS.frame {S S' : mc_S} {ob : Nat → Option Nat} {rp : Nat} {P : pS} (h : cPS S ob rp P) (hf : ∀ b, cPt ob rp b → S'.1 b = S.1 b ∧ S'.1 (b + 1) = S.1 (b + 1) ∧ S'.1 (b + 2) = S.1 (b + 2)) : cPS S' ob rp P := by
  refine ⟨fun o ho => (h.1 o ho).frame (fun b hb => hf b (Or.inl ⟨o, ho, hb⟩)), ?_⟩
  obtain ⟨g0, g1, g2⟩ := hf rp (Or.inr rfl)
  exact h.2.frame g0 g1 g2
theorem cPS.pt {S : mc_S} {ob : Nat → Option Nat} {rp : Nat} {P : pS} (h : cPS S ob rp P) {b : Nat} (hb : cPt ob rp b) : ∃ (f : Int32) (c : Nat) (es : List pe), slP S b f c es := by
  rcases hb with ⟨o, ho, e⟩ | rfl
  · have := h.1 o ho
    cases hx : P.1 o with
    | none => rw [hx] at this; rw [show ob o = none from this] at e; cases e
    | some q =>
      rw [hx] at this
      obtain ⟨b', e', hs⟩ := this
      rw [e] at e'
      cases e'
      exact ⟨_, _, _, hs⟩
  · exact ⟨_, _, _, h.2⟩
theorem cOb.none_iff {S : mc_S} {r : Option Nat} {x : pO} (h : cOb S r x) : r = none ↔ x = none := by
  cases x with
  | none => exact ⟨fun _ => rfl, fun _ => h⟩
  | some q =>
    obtain ⟨b, e, -⟩ := h
    rw [e]
    exact ⟨fun z => (by cases z), fun z => (by cases z)⟩
section CT
variable {S : mc_S} {t : Nat} {ob : Nat → Option Nat} {rp : Nat} {P : pS}
theorem cSt.rd0 (h : cSt S t ob rp) : rdR S (some t) 2 0 = some (some (t + 1)) := rdR_at h.1 rfl
theorem cSt.rd1 (h : cSt S t ob rp) : rdR S (some t) 2 1 = some (some rp) := rdR_at h.1 rfl
theorem cSt.rc (h : cSt S t ob rp) : rcv S (some t) 2 = some t := rcv_at h.1
theorem cSt.ld (h : cSt S t ob rp) {o : Nat} (ho : o < 100) : ldR S (some (t + 1)) 3 (nI o) = some (ob o) := by
  obtain ⟨-, f, b, c⟩ := h
  rw [ldR_at b ho (by decide), c o ho]
theorem cSt.ldx (h : cSt S t ob rp) {v : Int32} (h0 : ¬ v < 0) (h1 : v < 100) : ldR S (some (t + 1)) 3 v = some (ob v.toNatClampNeg) := by
  have := h.ld (nI_lt100 h0 h1)
  rw [nI_at h0] at this
  exact this
theorem zt_has (h : cSt S t ob rp) (hP : cPS S ob rp P) (v : Int32) : ∃ r : Int32, f_T_has t v S = some (r, S) ∧ (r = 1 ∧ pHas P v ∨ r = 0 ∧ ¬ pHas P v) := by
  by_cases h0 : v < 0
  · exact ⟨0, by simp only [f_T_has]; rw [if_pos h0], Or.inr ⟨rfl, fun q => q.1 h0⟩⟩
  · by_cases h1 : v < 100
    · have hl := h.ldx h0 h1
      have hb := (hP.1 _ (nI_lt100 h0 h1)).none_iff
      by_cases h2 : ob v.toNatClampNeg = none
      · refine ⟨0, ?_, Or.inr ⟨rfl, fun q => q.2.2 (hb.mp h2)⟩⟩
        simp only [f_T_has, h.rd0, obind, hl]
        rw [if_neg h0, if_neg (Int32.not_le.mpr h1), if_pos h2]
      · refine ⟨1, ?_, Or.inl ⟨rfl, h0, h1, fun q => h2 (hb.mpr q)⟩⟩
        simp only [f_T_has, h.rd0, obind, hl]
        rw [if_neg h0, if_neg (Int32.not_le.mpr h1), if_neg h2]
    · refine ⟨0, ?_, Or.inr ⟨rfl, fun q => h1 q.2.1⟩⟩
      simp only [f_T_has]
      rw [if_neg h0, if_pos (Int32.not_lt.mp h1)]
theorem zt_find0 (h : cSt S t ob rp) (hP : cPS S ob rp P) {o form : Int32} (hf : pFind P o form = none) : f_T_find t o form S = some (none, S) := by
  obtain ⟨r, e, hr⟩ := zt_has h hP o
  simp only [f_T_find, h.rc, obind, e]
  rcases hr with ⟨rfl, h0, h1, h2⟩ | ⟨rfl, -⟩
  · rw [if_neg (by decide)]
    simp only [h.rd0, obind, h.ldx h0 h1]
    have hb := hP.1 _ (nI_lt100 h0 h1)
    unfold pFind at hf
    rw [if_pos ⟨h0, h1⟩] at hf
    cases hx : P.1 o.toNatClampNeg with
    | none => exact absurd hx h2
    | some q =>
      rw [hx] at hb hf
      obtain ⟨b, eb, hs⟩ := hb
      simp only at hf
      rw [eb]
      simp only [hs.rd0, obind]
      by_cases hq : q.1 = form
      · rw [if_pos hq] at hf
        cases hf
      · rw [if_neg hq]
  · rw [if_pos rfl]
theorem zt_find1 (h : cSt S t ob rp) (hP : cPS S ob rp P) {o form : Int32} {es : List pe} (hf : pFind P o form = some es) : (¬ o < 0 ∧ o < 100 ∧ P.1 o.toNatClampNeg = some (form, es)) ∧ ∃ b, ob o.toNatClampNeg = some b ∧ slP S b form (cCap form) es ∧ f_T_find t o form S = some (some b, S) := by
  unfold pFind at hf
  by_cases hr : ¬ o < 0 ∧ o < 100
  · obtain ⟨h0, h1⟩ := hr
    rw [if_pos ⟨h0, h1⟩] at hf
    have hb := hP.1 _ (nI_lt100 h0 h1)
    cases hx : P.1 o.toNatClampNeg with
    | none => rw [hx] at hf; cases hf
    | some q =>
      rw [hx] at hb hf
      obtain ⟨b, eb, hs⟩ := hb
      obtain ⟨qf, qe⟩ := q
      simp only at hf hs
      by_cases hq : qf = form
      · rw [if_pos hq] at hf
        cases hf
        subst hq
        refine ⟨⟨h0, h1, rfl⟩, b, eb, hs, ?_⟩
        obtain ⟨r, e, hr⟩ := zt_has h hP o
        simp only [f_T_find, h.rc, obind, e]
        rcases hr with ⟨rfl, -⟩ | ⟨rfl, hn⟩
        · rw [if_neg (by decide)]
          simp only [h.rd0, obind, h.ldx h0 h1, eb, hs.rd0]
          rw [if_pos trivial]
        · exact absurd ⟨h0, h1, fun z => by rw [hx] at z; cases z⟩ hn
      · rw [if_neg hq] at hf
        cases hf
  · rw [if_neg hr] at hf
    cases hf
theorem zt_there_g (h : cSt S t ob rp) (hP : cPS S ob rp P) : ∀ (d k n c : Nat), k + d = 100 → d < n → g_T_objectsThere t n (nI c) (nI k) S = some (nI (c + ((List.range 100).drop k).countP (fun o => (P.1 o).isSome)), S) := by
  intro d
  induction d with
  | zero =>
    intro k n c hk hn
    obtain ⟨n, rfl⟩ : ∃ q, n = q + 1 := ⟨n - 1, by omega⟩
    show q_T_objectsThere_0 t (g_T_objectsThere t n) (nI c) (nI k) S = _
    obtain rfl : k = 100 := by omega
    simp only [q_T_objectsThere_0]
    rw [if_pos (show (100 : Int32) ≤ nI 100 from by decide), List.drop_eq_nil_of_le (by simp)]
    rfl
  | succ d ih =>
    intro k n c hk hn
    obtain ⟨n, rfl⟩ : ∃ q, n = q + 1 := ⟨n - 1, by omega⟩
    show q_T_objectsThere_0 t (g_T_objectsThere t n) (nI c) (nI k) S = _
    have hk1 : k < (List.range 100).length := by simp; omega
    have hd1 : (List.range 100).drop k = k :: (List.range 100).drop (k + 1) := by
      rw [List.drop_eq_getElem_cons hk1]
      simp
    have hb := (hP.1 k (by omega)).none_iff
    simp only [q_T_objectsThere_0, h.rd0, obind, h.ld (show k < 100 by omega)]
    rw [if_neg (show ¬ (100 : Int32) ≤ nI k from fun q => by have := (nI_lei (a := 100) (by decide) (by omega)).mp q; omega), hd1, List.countP_cons]
    by_cases hc : ob k = none
    · rw [if_pos hc, nI_s, ih (k + 1) n c (by omega) (by omega), if_neg (by rw [hb.mp hc]; simp)]
      rfl
    · rw [if_neg hc, nI_s, nI_s, ih (k + 1) n (c + 1) (by omega) (by omega), if_pos (by
        cases hx : P.1 k with
        | none => exact absurd (hb.mpr hx) hc
        | some q => rfl)]
      congr 3
      omega
theorem zt_there (h : cSt S t ob rp) (hP : cPS S ob rp P) : f_T_objectsThere t S = some (nI (pCnt P), S) := by
  have := zt_there_g h hP 100 0 5000 0 (by omega) (by omega)
  unfold f_T_objectsThere
  rw [show (0 : Int32) = nI 0 from rfl, this]
  simp [pCnt]
theorem zt_become_g {t' : Nat} {ob' : Nat → Option Nat} {rp' : Nat} (htt : t' ≠ t ∧ t' + 1 ≠ t ∧ t' ≠ t + 1) : ∀ (d k n : Nat) (S : mc_S) (ob : Nat → Option Nat), k + d = 100 → d < n → cSt S t ob rp → cSt S t' ob' rp' → (∀ o, o < 100 → ∀ b, ob' o = some b → ∃ fs, S.1 b = some (.inr (1, fs))) → ∃ S', g_T_become t n (some t') (nI k) S = some S' ∧ cSt S' t (fun o => if k ≤ o then ob' o else ob o) rp' ∧ S'.2 = S.2 ∧ ∀ a, a ≠ t → a ≠ t + 1 → S'.1 a = S.1 a := by
  intro d
  induction d with
  | zero =>
    intro k n S ob hk hn h h' hv
    obtain ⟨n, rfl⟩ : ∃ q, n = q + 1 := ⟨n - 1, by omega⟩
    obtain rfl : k = 100 := by omega
    refine ⟨(va_up S.1 t (some (.inr (2, [.ref (t + 1), .ref rp']))), S.2), ?_, ?_, rfl, fun a h0 _ => up_ne h0 rfl⟩
    · show q_T_become_0 t (g_T_become t n) (some t') (nI 100) S = _
      simp only [q_T_become_0, h'.rd1, obind]
      rw [if_pos (show (100 : Int32) ≤ nI 100 from by decide), wr_at h.1 (by simp)]
      rfl
    · obtain ⟨a, f, b, c⟩ := h
      exact ⟨up_eq, f, up_ne (by omega) b, fun o ho => by rw [c o ho]; show ob o = if 100 ≤ o then ob' o else ob o; rw [if_neg (by omega)]⟩
  | succ d ih =>
    intro k n S ob hk hn h h' hv
    obtain ⟨n, rfl⟩ : ∃ q, n = q + 1 := ⟨n - 1, by omega⟩
    obtain ⟨a, f, b, c⟩ := id h
    have hk1 : k < 100 := by omega
    have hfr : ∀ x, x ≠ t + 1 → (va_up S.1 (t + 1) (some (.inl (3, 100, .inr (.inr (.inr (.inr (va_up f k (ob' k)))))))), S.2).1 x = S.1 x := fun x hx => up_ne hx rfl
    obtain ⟨S', e1, e2, e3, e4⟩ := ih (k + 1) n (va_up S.1 (t + 1) (some (.inl (3, 100, .inr (.inr (.inr (.inr (va_up f k (ob' k)))))))), S.2) (va_up ob k (ob' k)) (by omega) (by omega)
      ⟨(hfr t (by omega)).trans a, va_up f k (ob' k), up_eq, fun o ho => by
        by_cases hok : o = k
        · subst hok; rw [va_up_self, va_up_self]
        · rw [va_up_ne _ _ hok, va_up_ne _ _ hok, c o ho]⟩
      (h'.frame (hfr _ (by omega)) (hfr _ (by omega)))
      (fun o ho y hy => by
        obtain ⟨fs, hfs⟩ := hv o ho y hy
        refine ⟨fs, (hfr y (fun e => ?_)).trans hfs⟩
        rw [e, b] at hfs
        cases hfs)
    refine ⟨S', ?_, ?_, e3, fun x h0 h1 => (e4 x h0 h1).trans (hfr x h1)⟩
    · show q_T_become_0 t (g_T_become t n) (some t') (nI k) S = _
      simp only [q_T_become_0, h.rd0, h'.rd0, obind, h'.ld hk1]
      rw [if_neg (show ¬ (100 : Int32) ≤ nI k from fun q => by have := (nI_lei (a := 100) (by decide) (by omega)).mp q; omega)]
      rw [stR_at b (by
        cases hx : ob' k with
        | none => exact Or.inl rfl
        | some y =>
          obtain ⟨fs, hfs⟩ := hv k hk1 y hx
          exact Or.inr (rcv_at hfs)) hk1 (by decide)]
      simp only [obind, nI_s]
      exact e1
    · obtain ⟨a2, f2, b2, c2⟩ := e2
      refine ⟨a2, f2, b2, fun o ho => ?_⟩
      rw [c2 o ho]
      show (if k + 1 ≤ o then ob' o else va_up ob k (ob' k) o) = (if k ≤ o then ob' o else ob o)
      by_cases h1 : k + 1 ≤ o
      · rw [if_pos h1, if_pos (by omega)]
      · rw [if_neg h1]
        by_cases h2 : o = k
        · subst h2
          rw [va_up_self, if_pos (Nat.le_refl _)]
        · rw [va_up_ne _ _ h2, if_neg (by omega)]
theorem zt_become {t' : Nat} {ob' : Nat → Option Nat} {rp' : Nat} (htt : t' ≠ t ∧ t' + 1 ≠ t ∧ t' ≠ t + 1) (h : cSt S t ob rp) (h' : cSt S t' ob' rp') (hP : cPS S ob' rp' P) : ∃ S', f_T_become t (some t') S = some S' ∧ cSt S' t ob' rp' ∧ S'.2 = S.2 ∧ ∀ a, a ≠ t → a ≠ t + 1 → S'.1 a = S.1 a := by
  obtain ⟨S', e1, e2, e3, e4⟩ := zt_become_g (rp := rp) htt 100 0 5000 S ob (by omega) (by omega) h h' (fun o ho b hb => by
    obtain ⟨f, c, es, hs⟩ := hP.pt (Or.inl ⟨o, ho, hb⟩)
    exact ⟨_, hs.2.2.1⟩)
  refine ⟨S', e1, ?_, e3, e4⟩
  simpa using e2
end CT
