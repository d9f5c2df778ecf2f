abbrev rD : Type := (Nat → Int32) × (Nat → Int32) × (Nat → Int32) × (Nat → Int32) × (Nat → Int64) × (Nat → Int64) × Int32
def rSt (S : mc_S) (t : Nat) (D : rD) (b : Int32) : Prop :=
  S.1 t = some (.inr (5, [.ref (t + 1), .ref (t + 2), .ref (t + 3), .ref (t + 4), .ref (t + 5), .ref (t + 6), .int D.2.2.2.2.2.2, .int b])) ∧ S.1 (t + 1) = some (.inl (0, 100, .inl D.1)) ∧ S.1 (t + 2) = some (.inl (0, 100, .inl D.2.1)) ∧ S.1 (t + 3) = some (.inl (0, 800, .inl D.2.2.1)) ∧ S.1 (t + 4) = some (.inl (0, 12, .inl D.2.2.2.1)) ∧ S.1 (t + 5) = some (.inl (1, 2000, .inr (.inl D.2.2.2.2.1))) ∧ S.1 (t + 6) = some (.inl (1, 12, .inr (.inl D.2.2.2.2.2.1)))
def rAg (D D' : rD) : Prop := (∀ k, k < 100 → D'.1 k = D.1 k) ∧ (∀ k, k < 100 → D'.2.1 k = D.2.1 k) ∧ (∀ k, k < 800 → D'.2.2.1 k = D.2.2.1 k) ∧ (∀ k, k < 12 → D'.2.2.2.1 k = D.2.2.2.1 k) ∧ (∀ k, k < 2000 → D'.2.2.2.2.1 k = D.2.2.2.2.1 k) ∧ (∀ k, k < 12 → D'.2.2.2.2.2.1 k = D.2.2.2.2.2.1 k) ∧ D'.2.2.2.2.2.2 = D.2.2.2.2.2.2
def rOb (K Z : Int32) (nf : Nat → Int32) (lf : Nat → Int64) (x : pO) : Prop := match x with
  | none => K = 0
  | some q => K = q.1 ∧ Z = nI q.2.length ∧ ∀ k z, q.2[k]? = some z → lf k = z.2 ∧ (q.1 = 1 → nf k = z.1)
def rRt (R : Nat → Int32) (V : Nat → Int64) (nr : Int32) (rt : List pe) : Prop := ∃ rs : List pe, rs.Perm rt ∧ nr = nI rs.length ∧ ∀ k z, rs[k]? = some z → R k = z.1 ∧ V k = z.2
def rPS (D : rD) (P : pS) : Prop := (∀ o, o < 100 → rOb (D.1 o) (D.2.1 o) (fun k => D.2.2.1 (8 * o + k)) (fun k => D.2.2.2.2.1 (20 * o + k)) (P.1 o)) ∧ rRt D.2.2.2.1 D.2.2.2.2.2.1 D.2.2.2.2.2.2 P.2
theorem pWf.len {P : pS} (h : pWf P) {o : Nat} {q : Int32 × List pe} (ho : o < 100) (hq : P.1 o = some q) : q.2.length ≤ 20 ∧ (q.1 = 1 → q.2.length ≤ 8) ∧ (q.1 = 1 ∨ q.1 = 2) ∧ (q.1 = 2 → ∀ z ∈ q.2, z.1 = 0) := by
  rcases (h.1 o q ho hq).1 with ⟨a, b⟩ | ⟨a, b, c⟩
  · exact ⟨by omega, fun _ => b, Or.inl a, fun e => absurd (a.symm.trans e) (by decide)⟩
  · exact ⟨b, fun e => absurd (a.symm.trans e) (by decide), Or.inr a, fun _ => c⟩
theorem rPS.ag {D D' : rD} {P : pS} (h : rPS D P) (hw : pWf P) (ha : rAg D D') : rPS D' P := by
  obtain ⟨a1, a2, a3, a4, a5, a6, a7⟩ := ha
  refine ⟨fun o ho => ?_, ?_⟩
  · have hx := h.1 o ho
    cases hp : P.1 o with
    | none =>
      rw [hp] at hx
      show D'.1 o = 0
      rw [a1 o ho]
      exact hx
    | some q =>
      rw [hp] at hx
      obtain ⟨h1, h2, h3⟩ := hx
      have hl := hw.len ho hp
      refine ⟨(a1 o ho).trans h1, (a2 o ho).trans h2, fun k z hk => ?_⟩
      have hk1 : k < q.2.length := (List.getElem?_eq_some_iff.mp hk).1
      obtain ⟨g1, g2⟩ := h3 k z hk
      refine ⟨?_, fun e => ?_⟩
      · show D'.2.2.2.2.1 (20 * o + k) = z.2
        rw [a5 _ (by omega)]
        exact g1
      · show D'.2.2.1 (8 * o + k) = z.1
        have := hl.2.1 e
        rw [a3 _ (by omega)]
        exact g2 e
  · obtain ⟨rs, p1, p2, p3⟩ := h.2
    have hl : rs.length ≤ 12 := by rw [p1.length_eq]; exact hw.2.1
    refine ⟨rs, p1, a7.trans p2, fun k z hk => ?_⟩
    have hk1 : k < rs.length := (List.getElem?_eq_some_iff.mp hk).1
    obtain ⟨g1, g2⟩ := p3 k z hk
    exact ⟨(a4 k (by omega)).trans g1, (a6 k (by omega)).trans g2⟩
def tfr (S S' : mc_S) (t : Nat) : Prop := S'.2 = S.2 ∧ ∀ a, (a < t ∨ t + 6 < a) → S'.1 a = S.1 a
theorem tfr.tr {S S1 S2 : mc_S} {t : Nat} (a : tfr S S1 t) (b : tfr S1 S2 t) : tfr S S2 t := ⟨b.1.trans a.1, fun x h => (b.2 x h).trans (a.2 x h)⟩
section RN
variable {S : mc_S} {t : Nat} {D : rD} {b : Int32} {P : pS}
theorem rSt.frame (h : rSt S t D b) {S' : mc_S} (hf : ∀ a, t ≤ a → a ≤ t + 6 → S'.1 a = S.1 a) : rSt S' t D b := by
  obtain ⟨h0, h1, h2, h3, h4, h5, h6⟩ := h
  exact ⟨(hf _ (by omega) (by omega)).trans h0, (hf _ (by omega) (by omega)).trans h1, (hf _ (by omega) (by omega)).trans h2, (hf _ (by omega) (by omega)).trans h3, (hf _ (by omega) (by omega)).trans h4, (hf _ (by omega) (by omega)).trans h5, (hf _ (by omega) (by omega)).trans h6⟩
theorem rSt.rd0 (h : rSt S t D b) : rdR S (some t) 5 0 = some (some (t + 1)) := rdR_at h.1 rfl
theorem rSt.rd1 (h : rSt S t D b) : rdR S (some t) 5 1 = some (some (t + 2)) := rdR_at h.1 rfl
theorem rSt.rd2 (h : rSt S t D b) : rdR S (some t) 5 2 = some (some (t + 3)) := rdR_at h.1 rfl
theorem rSt.rd3 (h : rSt S t D b) : rdR S (some t) 5 3 = some (some (t + 4)) := rdR_at h.1 rfl
theorem rSt.rd4 (h : rSt S t D b) : rdR S (some t) 5 4 = some (some (t + 5)) := rdR_at h.1 rfl
theorem rSt.rd5 (h : rSt S t D b) : rdR S (some t) 5 5 = some (some (t + 6)) := rdR_at h.1 rfl
theorem rSt.rd6 (h : rSt S t D b) : rdI S (some t) 5 6 = some D.2.2.2.2.2.2 := rdI_at h.1 rfl
theorem rSt.rd7 (h : rSt S t D b) : rdI S (some t) 5 7 = some b := rdI_at h.1 rfl
theorem rSt.rc (h : rSt S t D b) : rcv S (some t) 5 = some t := rcv_at h.1
theorem rSt.ldK (h : rSt S t D b) {k : Nat} (hk : k < 100) : ldI S (some (t + 1)) 0 (nI k) = some (D.1 k) := ldI_at h.2.1 hk (by decide)
theorem rSt.ldZ (h : rSt S t D b) {k : Nat} (hk : k < 100) : ldI S (some (t + 2)) 0 (nI k) = some (D.2.1 k) := ldI_at h.2.2.1 hk (by decide)
theorem rSt.ldN (h : rSt S t D b) {k : Nat} (hk : k < 800) : ldI S (some (t + 3)) 0 (nI k) = some (D.2.2.1 k) := ldI_at h.2.2.2.1 hk (by decide)
theorem rSt.ldRR (h : rSt S t D b) {k : Nat} (hk : k < 12) : ldI S (some (t + 4)) 0 (nI k) = some (D.2.2.2.1 k) := ldI_at h.2.2.2.2.1 hk (by decide)
theorem rSt.ldLL (h : rSt S t D b) {k : Nat} (hk : k < 2000) : ldL S (some (t + 5)) 1 (nI k) = some (D.2.2.2.2.1 k) := ldL_at h.2.2.2.2.2.1 hk (by decide)
theorem rSt.ldV (h : rSt S t D b) {k : Nat} (hk : k < 12) : ldL S (some (t + 6)) 1 (nI k) = some (D.2.2.2.2.2.1 k) := ldL_at h.2.2.2.2.2.2 hk (by decide)
theorem rSt.stK (h : rSt S t D b) {k : Nat} {v : Int32} (hk : k < 100) : ∃ S', stI S (some (t + 1)) 0 (nI k) v = some S' ∧ rSt S' t (va_up D.1 k v, D.2) b ∧ tfr S S' t := by
  obtain ⟨h0, h1, h2, h3, h4, h5, h6⟩ := h
  exact ⟨_, stI_at h1 hk (by decide), ⟨up_ne (by omega) h0, up_eq, up_ne (by omega) h2, up_ne (by omega) h3, up_ne (by omega) h4, up_ne (by omega) h5, up_ne (by omega) h6⟩, rfl, fun a ha => up_ne (by omega) rfl⟩
theorem rSt.stZ (h : rSt S t D b) {k : Nat} {v : Int32} (hk : k < 100) : ∃ S', stI S (some (t + 2)) 0 (nI k) v = some S' ∧ rSt S' t (D.1, va_up D.2.1 k v, D.2.2) b ∧ tfr S S' t := by
  obtain ⟨h0, h1, h2, h3, h4, h5, h6⟩ := h
  exact ⟨_, stI_at h2 hk (by decide), ⟨up_ne (by omega) h0, up_ne (by omega) h1, up_eq, up_ne (by omega) h3, up_ne (by omega) h4, up_ne (by omega) h5, up_ne (by omega) h6⟩, rfl, fun a ha => up_ne (by omega) rfl⟩
theorem rSt.stN (h : rSt S t D b) {k : Nat} {v : Int32} (hk : k < 800) : ∃ S', stI S (some (t + 3)) 0 (nI k) v = some S' ∧ rSt S' t (D.1, D.2.1, va_up D.2.2.1 k v, D.2.2.2) b ∧ tfr S S' t := by
  obtain ⟨h0, h1, h2, h3, h4, h5, h6⟩ := h
  exact ⟨_, stI_at h3 hk (by decide), ⟨up_ne (by omega) h0, up_ne (by omega) h1, up_ne (by omega) h2, up_eq, up_ne (by omega) h4, up_ne (by omega) h5, up_ne (by omega) h6⟩, rfl, fun a ha => up_ne (by omega) rfl⟩
theorem rSt.stRR (h : rSt S t D b) {k : Nat} {v : Int32} (hk : k < 12) : ∃ S', stI S (some (t + 4)) 0 (nI k) v = some S' ∧ rSt S' t (D.1, D.2.1, D.2.2.1, va_up D.2.2.2.1 k v, D.2.2.2.2) b ∧ tfr S S' t := by
  obtain ⟨h0, h1, h2, h3, h4, h5, h6⟩ := h
  exact ⟨_, stI_at h4 hk (by decide), ⟨up_ne (by omega) h0, up_ne (by omega) h1, up_ne (by omega) h2, up_ne (by omega) h3, up_eq, up_ne (by omega) h5, up_ne (by omega) h6⟩, rfl, fun a ha => up_ne (by omega) rfl⟩
theorem rSt.stLL (h : rSt S t D b) {k : Nat} {v : Int64} (hk : k < 2000) : ∃ S', stL S (some (t + 5)) 1 (nI k) v = some S' ∧ rSt S' t (D.1, D.2.1, D.2.2.1, D.2.2.2.1, va_up D.2.2.2.2.1 k v, D.2.2.2.2.2) b ∧ tfr S S' t := by
  obtain ⟨h0, h1, h2, h3, h4, h5, h6⟩ := h
  exact ⟨_, stL_at h5 hk (by decide), ⟨up_ne (by omega) h0, up_ne (by omega) h1, up_ne (by omega) h2, up_ne (by omega) h3, up_ne (by omega) h4, up_eq, up_ne (by omega) h6⟩, rfl, fun a ha => up_ne (by omega) rfl⟩
theorem rSt.stV (h : rSt S t D b) {k : Nat} {v : Int64} (hk : k < 12) : ∃ S', stL S (some (t + 6)) 1 (nI k) v = some S' ∧ rSt S' t (D.1, D.2.1, D.2.2.1, D.2.2.2.1, D.2.2.2.2.1, va_up D.2.2.2.2.2.1 k v, D.2.2.2.2.2.2) b ∧ tfr S S' t := by
  obtain ⟨h0, h1, h2, h3, h4, h5, h6⟩ := h
  exact ⟨_, stL_at h6 hk (by decide), ⟨up_ne (by omega) h0, up_ne (by omega) h1, up_ne (by omega) h2, up_ne (by omega) h3, up_ne (by omega) h4, up_ne (by omega) h5, up_eq⟩, rfl, fun a ha => up_ne (by omega) rfl⟩
theorem rSt.wr6 (h : rSt S t D b) {v : Int32} : ∃ S', wrV S (some t) 5 6 (.int v) = some S' ∧ rSt S' t (D.1, D.2.1, D.2.2.1, D.2.2.2.1, D.2.2.2.2.1, D.2.2.2.2.2.1, v) b ∧ tfr S S' t := by
  obtain ⟨h0, h1, h2, h3, h4, h5, h6⟩ := h
  exact ⟨_, wr_at h0 (by simp), ⟨up_eq, up_ne (by omega) h1, up_ne (by omega) h2, up_ne (by omega) h3, up_ne (by omega) h4, up_ne (by omega) h5, up_ne (by omega) h6⟩, rfl, fun a ha => up_ne (by omega) rfl⟩
theorem rSt.wr7 (h : rSt S t D b) {v : Int32} : ∃ S', wrV S (some t) 5 7 (.int v) = some S' ∧ rSt S' t D v ∧ tfr S S' t := by
  obtain ⟨h0, h1, h2, h3, h4, h5, h6⟩ := h
  exact ⟨_, wr_at h0 (by simp), ⟨up_eq, up_ne (by omega) h1, up_ne (by omega) h2, up_ne (by omega) h3, up_ne (by omega) h4, up_ne (by omega) h5, up_ne (by omega) h6⟩, rfl, fun a ha => up_ne (by omega) rfl⟩
theorem zn_copy {t' : Nat} {D' : rD} {b' : Int32} (htt : t' + 7 ≤ t ∨ t + 7 ≤ t') (h : rSt S t D b) (h' : rSt S t' D' b') : ∃ (S' : mc_S) (D2 : rD), f_N_copy t (some t') S = some S' ∧ rSt S' t D2 b ∧ rAg D' D2 ∧ tfr S S' t := by
  obtain ⟨h0, h1, h2, h3, h4, h5, h6⟩ := id h
  obtain ⟨g0, g1, g2, g3, g4, g5, g6⟩ := id h'
  have e1 := cpI_at (j := 100) g1 h1 (by omega) (by omega) (by decide)
  obtain ⟨S1, hS1⟩ : ∃ S1 : mc_S, S1 = (va_up S.1 (t + 1) (some (.inl (0, 100, .inl (va_cpy D'.1 D.1 0 0 100)))), S.2) := ⟨_, rfl⟩
  rw [← hS1] at e1
  have s1 : rSt S1 t (va_cpy D'.1 D.1 0 0 100, D.2) b := by
    rw [hS1]
    exact ⟨up_ne (by omega) h0, up_eq, up_ne (by omega) h2, up_ne (by omega) h3, up_ne (by omega) h4, up_ne (by omega) h5, up_ne (by omega) h6⟩
  have f1 : tfr S S1 t := by rw [hS1]; exact ⟨rfl, fun a ha => up_ne (by omega) rfl⟩
  have k1 : rSt S1 t' D' b' := h'.frame (fun a _ _ => f1.2 a (by omega))
  have e2 := cpI_at (j := 100) k1.2.2.1 s1.2.2.1 (by omega) (by omega) (by decide)
  obtain ⟨S2, hS2⟩ : ∃ S2 : mc_S, S2 = (va_up S1.1 (t + 2) (some (.inl (0, 100, .inl (va_cpy D'.2.1 D.2.1 0 0 100)))), S1.2) := ⟨_, rfl⟩
  rw [← hS2] at e2
  have s2 : rSt S2 t (va_cpy D'.1 D.1 0 0 100, va_cpy D'.2.1 D.2.1 0 0 100, D.2.2) b := by
    obtain ⟨h0, h1, h2, h3, h4, h5, h6⟩ := s1
    rw [hS2]
    exact ⟨up_ne (by omega) h0, up_ne (by omega) h1, up_eq, up_ne (by omega) h3, up_ne (by omega) h4, up_ne (by omega) h5, up_ne (by omega) h6⟩
  have f2 : tfr S1 S2 t := by rw [hS2]; exact ⟨rfl, fun a ha => up_ne (by omega) rfl⟩
  have k2 : rSt S2 t' D' b' := k1.frame (fun a _ _ => f2.2 a (by omega))
  have e3 := cpI_at (j := 800) k2.2.2.2.1 s2.2.2.2.1 (by omega) (by omega) (by decide)
  obtain ⟨S3, hS3⟩ : ∃ S3 : mc_S, S3 = (va_up S2.1 (t + 3) (some (.inl (0, 800, .inl (va_cpy D'.2.2.1 D.2.2.1 0 0 800)))), S2.2) := ⟨_, rfl⟩
  rw [← hS3] at e3
  have s3 : rSt S3 t (va_cpy D'.1 D.1 0 0 100, va_cpy D'.2.1 D.2.1 0 0 100, va_cpy D'.2.2.1 D.2.2.1 0 0 800, D.2.2.2) b := by
    obtain ⟨h0, h1, h2, h3, h4, h5, h6⟩ := s2
    rw [hS3]
    exact ⟨up_ne (by omega) h0, up_ne (by omega) h1, up_ne (by omega) h2, up_eq, up_ne (by omega) h4, up_ne (by omega) h5, up_ne (by omega) h6⟩
  have f3 : tfr S2 S3 t := by rw [hS3]; exact ⟨rfl, fun a ha => up_ne (by omega) rfl⟩
  have k3 : rSt S3 t' D' b' := k2.frame (fun a _ _ => f3.2 a (by omega))
  have e4 := cpL_at (j := 2000) k3.2.2.2.2.2.1 s3.2.2.2.2.2.1 (by omega) (by omega) (by decide)
  obtain ⟨S4, hS4⟩ : ∃ S4 : mc_S, S4 = (va_up S3.1 (t + 5) (some (.inl (1, 2000, .inr (.inl (va_cpy D'.2.2.2.2.1 D.2.2.2.2.1 0 0 2000))))), S3.2) := ⟨_, rfl⟩
  rw [← hS4] at e4
  have s4 : rSt S4 t (va_cpy D'.1 D.1 0 0 100, va_cpy D'.2.1 D.2.1 0 0 100, va_cpy D'.2.2.1 D.2.2.1 0 0 800, D.2.2.2.1, va_cpy D'.2.2.2.2.1 D.2.2.2.2.1 0 0 2000, D.2.2.2.2.2) b := by
    obtain ⟨h0, h1, h2, h3, h4, h5, h6⟩ := s3
    rw [hS4]
    exact ⟨up_ne (by omega) h0, up_ne (by omega) h1, up_ne (by omega) h2, up_ne (by omega) h3, up_ne (by omega) h4, up_eq, up_ne (by omega) h6⟩
  have f4 : tfr S3 S4 t := by rw [hS4]; exact ⟨rfl, fun a ha => up_ne (by omega) rfl⟩
  have k4 : rSt S4 t' D' b' := k3.frame (fun a _ _ => f4.2 a (by omega))
  have e5 := cpI_at (j := 12) k4.2.2.2.2.1 s4.2.2.2.2.1 (by omega) (by omega) (by decide)
  obtain ⟨S5, hS5⟩ : ∃ S5 : mc_S, S5 = (va_up S4.1 (t + 4) (some (.inl (0, 12, .inl (va_cpy D'.2.2.2.1 D.2.2.2.1 0 0 12)))), S4.2) := ⟨_, rfl⟩
  rw [← hS5] at e5
  have s5 : rSt S5 t (va_cpy D'.1 D.1 0 0 100, va_cpy D'.2.1 D.2.1 0 0 100, va_cpy D'.2.2.1 D.2.2.1 0 0 800, va_cpy D'.2.2.2.1 D.2.2.2.1 0 0 12, va_cpy D'.2.2.2.2.1 D.2.2.2.2.1 0 0 2000, D.2.2.2.2.2) b := by
    obtain ⟨h0, h1, h2, h3, h4, h5, h6⟩ := s4
    rw [hS5]
    exact ⟨up_ne (by omega) h0, up_ne (by omega) h1, up_ne (by omega) h2, up_ne (by omega) h3, up_eq, up_ne (by omega) h5, up_ne (by omega) h6⟩
  have f5 : tfr S4 S5 t := by rw [hS5]; exact ⟨rfl, fun a ha => up_ne (by omega) rfl⟩
  have k5 : rSt S5 t' D' b' := k4.frame (fun a _ _ => f5.2 a (by omega))
  have e6 := cpL_at (j := 12) k5.2.2.2.2.2.2 s5.2.2.2.2.2.2 (by omega) (by omega) (by decide)
  obtain ⟨S6, hS6⟩ : ∃ S6 : mc_S, S6 = (va_up S5.1 (t + 6) (some (.inl (1, 12, .inr (.inl (va_cpy D'.2.2.2.2.2.1 D.2.2.2.2.2.1 0 0 12))))), S5.2) := ⟨_, rfl⟩
  rw [← hS6] at e6
  have s6 : rSt S6 t (va_cpy D'.1 D.1 0 0 100, va_cpy D'.2.1 D.2.1 0 0 100, va_cpy D'.2.2.1 D.2.2.1 0 0 800, va_cpy D'.2.2.2.1 D.2.2.2.1 0 0 12, va_cpy D'.2.2.2.2.1 D.2.2.2.2.1 0 0 2000, va_cpy D'.2.2.2.2.2.1 D.2.2.2.2.2.1 0 0 12, D.2.2.2.2.2.2) b := by
    obtain ⟨h0, h1, h2, h3, h4, h5, h6⟩ := s5
    rw [hS6]
    exact ⟨up_ne (by omega) h0, up_ne (by omega) h1, up_ne (by omega) h2, up_ne (by omega) h3, up_ne (by omega) h4, up_ne (by omega) h5, up_eq⟩
  have f6 : tfr S5 S6 t := by rw [hS6]; exact ⟨rfl, fun a ha => up_ne (by omega) rfl⟩
  have k6 : rSt S6 t' D' b' := k5.frame (fun a _ _ => f6.2 a (by omega))
  obtain ⟨S7, e7, s7, f7⟩ := s6.wr6 (v := D'.2.2.2.2.2.2)
  refine ⟨S7, _, ?_, s7, ⟨fun k hk => ?_, fun k hk => ?_, fun k hk => ?_, fun k hk => ?_, fun k hk => ?_, fun k hk => ?_, rfl⟩, f1.tr (f2.tr (f3.tr (f4.tr (f5.tr (f6.tr f7)))))⟩
  · simp only [f_N_copy, h'.rd0, h.rd0, obind]
    rw [show (100 : Int32) = nI 100 from rfl, e1]
    simp only [obind, k1.rd1, s1.rd1]
    rw [e2]
    simp only [obind, k2.rd2, s2.rd2]
    rw [show (800 : Int32) = nI 800 from rfl, e3]
    simp only [obind, k3.rd4, s3.rd4]
    rw [show (2000 : Int32) = nI 2000 from rfl, e4]
    simp only [obind, k4.rd3, s4.rd3]
    rw [show (12 : Int32) = nI 12 from rfl, e5]
    simp only [obind, k5.rd5, s5.rd5]
    rw [e6]
    simp only [obind, k6.rd6, e7]
  · show va_cpy D'.1 D.1 0 0 100 k = D'.1 k
    rw [va_cpy0, if_pos hk]
  · show va_cpy D'.2.1 D.2.1 0 0 100 k = D'.2.1 k
    rw [va_cpy0, if_pos hk]
  · show va_cpy D'.2.2.1 D.2.2.1 0 0 800 k = D'.2.2.1 k
    rw [va_cpy0, if_pos hk]
  · show va_cpy D'.2.2.2.1 D.2.2.2.1 0 0 12 k = D'.2.2.2.1 k
    rw [va_cpy0, if_pos hk]
  · show va_cpy D'.2.2.2.2.1 D.2.2.2.2.1 0 0 2000 k = D'.2.2.2.2.1 k
    rw [va_cpy0, if_pos hk]
  · show va_cpy D'.2.2.2.2.2.1 D.2.2.2.2.2.1 0 0 12 k = D'.2.2.2.2.2.1 k
    rw [va_cpy0, if_pos hk]
end RN
