section KO
variable {S : mc_S} {kb : Nat} {no : Nat → Option Nat} {nr : Nat} {ro : Nat → Nat → Option Nat} {rr : Nat → Nat} {sa : Nat} {rb : Nat → Int32} {X : pX}
theorem cPr.fresh {z wt : Nat} (h : cN kb z no nr ro rr sa wt) : cPr ro rr sa wt z := by
  intro i hi hp
  have := (h.2.1 i hi z hp).2
  omega
theorem slP.keep {S' : mc_S} {b b' : Nat} {f : Int32} {c : Nat} {es : List pe} {f' : Int32} {c' : Nat} {es' : List pe} (h : slP S b f c es) (h' : slP S b' f' c' es') (hne : b ≠ b') (hf : sfr S S' b') : S'.1 b = S.1 b ∧ S'.1 (b + 1) = S.1 (b + 1) ∧ S'.1 (b + 2) = S.1 (b + 2) := by
  have := h.ap h' hne
  exact ⟨hf.2 _ this.1.1 this.1.2.1 this.1.2.2, hf.2 _ this.2.1.1 this.2.1.2.1 this.2.1.2.2, hf.2 _ this.2.2.1 this.2.2.2.1 this.2.2.2.2⟩
theorem cY.mut (h : cY S kb X no nr ro rr sa rb) {S' : mc_S} {o b : Nat} {f : Int32} {es' : List pe} (ho : o < 100) (hb : no o = some b) (hp : cPr ro rr sa X.2.2.1.length b) (hf : sfr S S' b) (hs' : slP S' b f (cCap f) es') : cY S' kb ((va_up X.1.1 o (some (f, es')), X.1.2), X.2) no nr ro rr sa rb ∧ kfr S S' kb := by
  obtain ⟨hM, hN, hP, hR, hB⟩ := h
  have hpt : cPt no nr b := Or.inl ⟨o, ho, hb⟩
  obtain ⟨f0, c0, es0, hs0⟩ := hP.pt hpt
  have hok := hN.1 b hpt
  have hz := hf.1
  refine ⟨⟨hM.frame (by omega) (fun a ha => hf.2 a (by have := hok.1; omega) (by have := hok.1; omega) (by have := hok.1; omega)), by rw [hz]; exact hN, ⟨fun o' ho' => ?_, ?_⟩, fun i hi => (hR i hi).frame (fun b' hb' => ?_), hB⟩, by omega, fun a h0 h1 => hf.2 a (by have := hok.1; omega) (by have := hok.1; omega) (by have := hok.1; omega)⟩
  · show cOb S' (no o') (va_up X.1.1 o (some (f, es')) o')
    by_cases hoo : o' = o
    · subst hoo
      rw [va_up_self]
      exact ⟨b, hb, hs'⟩
    · rw [va_up_ne _ _ hoo]
      refine (hP.1 o' ho').frame (fun b' hb' => ?_)
      obtain ⟨f1, c1, es1, hs1⟩ := hP.pt (Or.inl ⟨o', ho', hb'⟩)
      exact hs1.keep hs0 (fun e => hoo (hN.2.2.1.1 o' o b ho' ho (by rw [← e]; exact hb') hb)) hf
  · have hne : nr ≠ b := fun e => hN.2.2.1.2 o ho (by rw [e]; exact hb)
    obtain ⟨g0, g1, g2⟩ := hP.2.keep hs0 hne hf
    exact hP.2.frame g0 g1 g2
  · obtain ⟨f1, c1, es1, hs1⟩ := (hR i hi).pt hb'
    exact hs1.keep hs0 (fun e => hp i hi (by rw [← e]; exact hb')) hf
theorem cY.mutR (h : cY S kb X no nr ro rr sa rb) {S' : mc_S} {es' : List pe} (hp : cPr ro rr sa X.2.2.1.length nr) (hf : sfr S S' nr) (hs' : slP S' nr 1 12 es') : cY S' kb ((X.1.1, es'), X.2) no nr ro rr sa rb ∧ kfr S S' kb := by
  obtain ⟨hM, hN, hP, hR, hB⟩ := h
  have hpt : cPt no nr nr := Or.inr rfl
  have hs0 := hP.2
  have hok := hN.1 nr hpt
  have hz := hf.1
  refine ⟨⟨hM.frame (by omega) (fun a ha => hf.2 a (by have := hok.1; omega) (by have := hok.1; omega) (by have := hok.1; omega)), by rw [hz]; exact hN, ⟨fun o' ho' => ?_, hs'⟩, fun i hi => (hR i hi).frame (fun b' hb' => ?_), hB⟩, by omega, fun a h0 h1 => hf.2 a (by have := hok.1; omega) (by have := hok.1; omega) (by have := hok.1; omega)⟩
  · refine (hP.1 o' ho').frame (fun b' hb' => ?_)
    obtain ⟨f1, c1, es1, hs1⟩ := hP.pt (Or.inl ⟨o', ho', hb'⟩)
    exact hs1.keep hs0 (fun e => hN.2.2.1.2 o' ho' (by rw [← e]; exact hb')) hf
  · obtain ⟨f1, c1, es1, hs1⟩ := (hR i hi).pt hb'
    exact hs1.keep hs0 (fun e => hp i hi (by rw [← e]; exact hb')) hf
theorem cPt.upd {o h z : Nat} {ob : Nat → Option Nat} {rp : Nat} (hp : cPt (va_up ob o (some z)) rp h) : h = z ∨ cPt ob rp h := by
  rcases hp with ⟨o', ho', e⟩ | e
  · by_cases hoo : o' = o
    · subst hoo
      rw [va_up_self] at e
      cases e
      exact Or.inl rfl
    · rw [va_up_ne _ _ hoo] at e
      exact Or.inr (Or.inl ⟨o', ho', e⟩)
  · exact Or.inr (Or.inr e)
theorem cY.fresh (h : cY S kb X no nr ro rr sa rb) {S1 : mc_S} {o : Nat} {f : Int32} {es : List pe} (ho : o < 100) (hz : S1.2 = S.2 + 3) (hfr : ∀ a, a < S.2 → S1.1 a = S.1 a) (hs : slP S1 S.2 f (cCap f) es) : ∃ S', stR S1 (some (kb + 9 + 1)) 3 1 (nI o) (some S.2) = some S' ∧ cY S' kb ((va_up X.1.1 o (some (f, es)), X.1.2), X.2) (va_up no o (some S.2)) nr ro rr sa rb ∧ cPr ro rr sa X.2.2.1.length S.2 ∧ slP S' S.2 f (cCap f) es ∧ kfr S S' kb := by
  obtain ⟨hM, hN, hP, hR, hB⟩ := h
  have hzz := hM.2.2.2.2.2.2.2.2
  have hM1 : cM S1 kb no nr ro rr sa X.2.2.1.length X.2.2.2 rb := hM.frame (by omega) (fun a ha => hfr a (by omega))
  obtain ⟨t0, ff, t1, t2⟩ := id hM1.now
  have hN' : cN kb (S.2 + 3) (va_up no o (some S.2)) nr ro rr sa X.2.2.1.length := by
    refine ⟨fun b hb => ?_, fun i hi b hb => ?_, ⟨fun o1 o2 b h1 h2 e1 e2 => ?_, fun o1 h1 e1 => ?_⟩, hN.2.2.2.1, fun o1 b h1 e1 => ?_, hN.2.2.2.2.2⟩
    · rcases hb.upd with rfl | hb
      · exact ⟨Or.inr hzz, by omega⟩
      · have := hN.1 b hb
        exact ⟨this.1, by have := this.2; omega⟩
    · have := hN.2.1 i hi b hb
      exact ⟨this.1, by have := this.2; omega⟩
    · by_cases q1 : o1 = o
      · subst q1
        rw [va_up_self] at e1
        cases e1
        by_cases q2 : o2 = o1
        · exact q2.symm
        · rw [va_up_ne _ _ q2] at e2
          have := (hN.1 _ (Or.inl ⟨o2, h2, e2⟩)).2
          omega
      · rw [va_up_ne _ _ q1] at e1
        by_cases q2 : o2 = o
        · subst q2
          rw [va_up_self] at e2
          cases e2
          have := (hN.1 _ (Or.inl ⟨o1, h1, e1⟩)).2
          omega
        · rw [va_up_ne _ _ q2] at e2
          exact hN.2.2.1.1 o1 o2 b h1 h2 e1 e2
    · by_cases q1 : o1 = o
      · subst q1
        rw [va_up_self] at e1
        have := (hN.1 nr (Or.inr rfl)).2
        have : S.2 = nr := Option.some.inj e1
        omega
      · rw [va_up_ne _ _ q1] at e1
        exact hN.2.2.1.2 o1 h1 e1
    · by_cases q1 : o1 = o
      · subst q1
        rw [va_up_self] at e1
        cases e1
        exact Or.inr (cPr.fresh hN)
      · rw [va_up_ne _ _ q1] at e1
        exact hN.2.2.2.2.1 o1 b h1 e1
  have hup : ∀ a, a ≠ kb + 9 + 1 → (va_up S1.1 (kb + 9 + 1) (some (.inl (3, 100, .inr (.inr (.inr (.inr (va_up ff o (some S.2)))))))), S1.2).1 a = S1.1 a := fun a ha => up_ne ha rfl
  have hkeep : ∀ b, cOk kb S.2 b → (va_up S1.1 (kb + 9 + 1) (some (.inl (3, 100, .inr (.inr (.inr (.inr (va_up ff o (some S.2)))))))), S1.2).1 b = S.1 b ∧ (va_up S1.1 (kb + 9 + 1) (some (.inl (3, 100, .inr (.inr (.inr (.inr (va_up ff o (some S.2)))))))), S1.2).1 (b + 1) = S.1 (b + 1) ∧ (va_up S1.1 (kb + 9 + 1) (some (.inl (3, 100, .inr (.inr (.inr (.inr (va_up ff o (some S.2)))))))), S1.2).1 (b + 2) = S.1 (b + 2) := by
    intro b hb
    have h1 := hb.1
    have h2 := hb.2
    exact ⟨(hup b (by omega)).trans (hfr _ (by omega)), (hup (b + 1) (by omega)).trans (hfr _ (by omega)), (hup (b + 2) (by omega)).trans (hfr _ (by omega))⟩
  have hs' : slP (va_up S1.1 (kb + 9 + 1) (some (.inl (3, 100, .inr (.inr (.inr (.inr (va_up ff o (some S.2)))))))), S1.2) S.2 f (cCap f) es := hs.frame (hup _ (by omega)) (hup _ (by omega)) (hup _ (by omega))
  refine ⟨_, stR_at t1 (Or.inr hs.rc) ho (by decide), ⟨?_, ?_, ⟨fun o' ho' => ?_, ?_⟩, fun i hi => (hR i hi).frame (fun b hb => hkeep b (hN.2.1 i hi b hb)), hB⟩, cPr.fresh hN, hs', by show S.2 ≤ S1.2; omega, fun a h0 h1 => (hup a (by omega)).trans (hfr a (by omega))⟩
  · obtain ⟨m0, ⟨f1, m1, n1⟩, ⟨f2, m2, n2⟩, ⟨rf, qf, n, hRR⟩, hT, hJ, hs3, hw, hz0⟩ := hM1
    refine ⟨(hup _ (by omega)).trans m0, ⟨f1, (hup _ (by omega)).trans m1, n1⟩, ⟨f2, (hup _ (by omega)).trans m2, n2⟩, ⟨rf, qf, n, hRR.frame (fun a _ _ => hup a (by omega))⟩, ⟨(hup _ (by omega)).trans t0, va_up ff o (some S.2), up_eq, fun o' ho' => ?_⟩, fun j hj => (hJ j hj).frame (hup _ (by omega)) (hup _ (by omega)), hs3, hw, by show kb + 110 ≤ S1.2; omega⟩
    by_cases hoo : o' = o
    · subst hoo; rw [va_up_self, va_up_self]
    · rw [va_up_ne _ _ hoo, va_up_ne _ _ hoo, t2 o' ho']
  · show cN kb S1.2 _ _ _ _ _ _
    rw [hz]
    exact hN'
  · show cOb _ (va_up no o (some S.2) o') (va_up X.1.1 o (some (f, es)) o')
    by_cases hoo : o' = o
    · subst hoo
      rw [va_up_self, va_up_self]
      exact ⟨S.2, rfl, hs'⟩
    · rw [va_up_ne _ _ hoo, va_up_ne _ _ hoo]
      exact (hP.1 o' ho').frame (fun b hb => hkeep b (hN.1 b (Or.inl ⟨o', ho', hb⟩)))
  · obtain ⟨g0, g1, g2⟩ := hkeep nr (hN.1 nr (Or.inr rfl))
    exact hP.2.frame g0 g1 g2
theorem cY.freshR (h : cY S kb X no nr ro rr sa rb) {S1 : mc_S} {es : List pe} (hz : S1.2 = S.2 + 3) (hfr : ∀ a, a < S.2 → S1.1 a = S.1 a) (hs : slP S1 S.2 1 12 es) : ∃ S', wrV S1 (some (kb + 9)) 2 1 (va_rf (some S.2)) = some S' ∧ cY S' kb ((X.1.1, es), X.2) no S.2 ro rr sa rb ∧ cPr ro rr sa X.2.2.1.length S.2 ∧ slP S' S.2 1 12 es ∧ kfr S S' kb := by
  obtain ⟨hM, hN, hP, hR, hB⟩ := h
  have hzz := hM.2.2.2.2.2.2.2.2
  have hM1 : cM S1 kb no nr ro rr sa X.2.2.1.length X.2.2.2 rb := hM.frame (by omega) (fun a ha => hfr a (by omega))
  obtain ⟨t0, ff, t1, t2⟩ := id hM1.now
  have hN' : cN kb (S.2 + 3) no S.2 ro rr sa X.2.2.1.length := by
    refine ⟨fun b hb => ?_, fun i hi b hb => ?_, ⟨hN.2.2.1.1, fun o1 h1 e1 => ?_⟩, hN.2.2.2.1, hN.2.2.2.2.1, Or.inr (cPr.fresh hN)⟩
    · rcases hb with hb | rfl
      · have := hN.1 b (Or.inl hb)
        exact ⟨this.1, by have := this.2; omega⟩
      · exact ⟨Or.inr hzz, by omega⟩
    · have := hN.2.1 i hi b hb
      exact ⟨this.1, by have := this.2; omega⟩
    · have := (hN.1 _ (Or.inl ⟨o1, h1, e1⟩)).2
      omega
  have hup : ∀ a, a ≠ kb + 9 → (va_up S1.1 (kb + 9) (some (.inr (2, [.ref (kb + 9 + 1), .ref S.2]))), S1.2).1 a = S1.1 a := fun a ha => up_ne ha rfl
  have hkeep : ∀ b, cOk kb S.2 b → (va_up S1.1 (kb + 9) (some (.inr (2, [.ref (kb + 9 + 1), .ref S.2]))), S1.2).1 b = S.1 b ∧ (va_up S1.1 (kb + 9) (some (.inr (2, [.ref (kb + 9 + 1), .ref S.2]))), S1.2).1 (b + 1) = S.1 (b + 1) ∧ (va_up S1.1 (kb + 9) (some (.inr (2, [.ref (kb + 9 + 1), .ref S.2]))), S1.2).1 (b + 2) = S.1 (b + 2) := by
    intro b hb
    have h1 := hb.1
    have h2 := hb.2
    exact ⟨(hup b (by omega)).trans (hfr _ (by omega)), (hup (b + 1) (by omega)).trans (hfr _ (by omega)), (hup (b + 2) (by omega)).trans (hfr _ (by omega))⟩
  have hs' : slP (va_up S1.1 (kb + 9) (some (.inr (2, [.ref (kb + 9 + 1), .ref S.2]))), S1.2) S.2 1 12 es := hs.frame (hup _ (by omega)) (hup _ (by omega)) (hup _ (by omega))
  refine ⟨_, by rw [wr_at t0 (by simp)]; rfl, ⟨?_, ?_, ⟨fun o' ho' => (hP.1 o' ho').frame (fun b hb => hkeep b (hN.1 b (Or.inl ⟨o', ho', hb⟩))), hs'⟩, fun i hi => (hR i hi).frame (fun b hb => hkeep b (hN.2.1 i hi b hb)), hB⟩, cPr.fresh hN, hs', by show S.2 ≤ S1.2; omega, fun a h0 h1 => (hup a (by omega)).trans (hfr a (by omega))⟩
  · obtain ⟨m0, ⟨f1, m1, n1⟩, ⟨f2, m2, n2⟩, ⟨rf, qf, n, hRR⟩, hT, hJ, hs3, hw, hz0⟩ := hM1
    exact ⟨(hup _ (by omega)).trans m0, ⟨f1, (hup _ (by omega)).trans m1, n1⟩, ⟨f2, (hup _ (by omega)).trans m2, n2⟩, ⟨rf, qf, n, hRR.frame (fun a _ _ => hup a (by omega))⟩, ⟨up_eq, ff, (hup _ (by omega)).trans t1, t2⟩, fun j hj => (hJ j hj).frame (hup _ (by omega)) (hup _ (by omega)), hs3, hw, by show kb + 110 ≤ S1.2; omega⟩
  · show cN kb S1.2 _ _ _ _ _ _
    rw [hz]
    exact hN'
theorem upd_same {α : Type} (f : Nat → α) (k : Nat) : va_up f k (f k) = f := by
  funext j
  by_cases h : j = k
  · subst h; exact va_up_self _ _ _
  · exact va_up_ne _ _ h
theorem zk_own0 (h : cY S kb X no nr ro rr sa rb) {o form : Int32} (hf : pFind X.1 o form = none) : f_K_own kb o form S = some (none, S) := by
  have hM := h.1
  simp only [f_K_own, hM.rd0, hM.now.rc, obind, zt_find0 hM.now h.2.2.1 hf]
  rw [if_pos trivial]
theorem zk_own1 (h : cY S kb X no nr ro rr sa rb) {o form : Int32} {es : List pe} (hf : pFind X.1 o form = some es) : ∃ (S' : mc_S) (no' : Nat → Option Nat) (b : Nat), f_K_own kb o form S = some (some b, S') ∧ cY S' kb X no' nr ro rr sa rb ∧ no' o.toNatClampNeg = some b ∧ cPr ro rr sa X.2.2.1.length b ∧ slP S' b form (cCap form) es ∧ (¬ o < 0 ∧ o < 100 ∧ X.1.1 o.toNatClampNeg = some (form, es)) ∧ kfr S S' kb := by
  have hM := h.1
  have hN := h.2.1
  obtain ⟨⟨h0, h1, hx⟩, b, hb, hs, hfd⟩ := zt_find1 hM.now h.2.2.1 hf
  have ho := nI_lt100 h0 h1
  have hkt := hM.ring (Nat.mod_lt (sa + X.2.2.1.length) (show 0 < 9 by omega))
  have hld := hkt.ldx h0 h1
  by_cases hsh : ro ((sa + X.2.2.1.length) % 9) o.toNatClampNeg = some b
  · have hok := hN.1 b (Or.inl ⟨_, ho, hb⟩)
    obtain ⟨S1, e1, e2, e3, e4⟩ := zs_twin hs hok.2
    obtain ⟨S', g1, g2, g3, g4, g5⟩ := cY.fresh h ho e3 e4 e2
    have hM1 : cM S1 kb no nr ro rr sa X.2.2.1.length X.2.2.2 rb := hM.frame (by omega) (fun a ha => e4 a (by have := hM.2.2.2.2.2.2.2.2; omega))
    refine ⟨S', va_up no o.toNatClampNeg (some S.2), S.2, ?_, ?_, va_up_self _ _ _, g3, g4, ⟨h0, h1, hx⟩, g5⟩
    · simp only [f_K_own, hM.rd0, hM.now.rc, obind, hfd]
      rw [if_neg (fun q => by cases q)]
      simp only [hM.rc, obind, zk_kept hM, hkt.rd0, hld]
      rw [if_pos hsh.symm]
      simp only [hs.rc, obind, e1, hM1.rd0, hM1.now.rd0]
      rw [nI_at h0] at g1
      rw [g1]
      rfl
    · have : ((va_up X.1.1 o.toNatClampNeg (some (form, es)), X.1.2), X.2) = X := by rw [← hx, upd_same]
      rw [this] at g2
      exact g2
  · refine ⟨S, no, b, ?_, h, hb, ?_, hs, ⟨h0, h1, hx⟩, kfr.rf⟩
    · simp only [f_K_own, hM.rd0, hM.now.rc, obind, hfd]
      rw [if_neg (fun q => by cases q)]
      simp only [hM.rc, obind, zk_kept hM, hkt.rd0, hld]
      rw [if_neg (fun q => hsh q.symm)]
    · rcases hN.2.2.2.2.1 _ b ho hb with q | q
      · exact absurd q hsh
      · exact q
theorem zk_ownRoots (h : cY S kb X no nr ro rr sa rb) : ∃ (S' : mc_S) (b : Nat), f_K_ownRoots kb S = some (some b, S') ∧ cY S' kb X no b ro rr sa rb ∧ cPr ro rr sa X.2.2.1.length b ∧ slP S' b 1 12 X.1.2 ∧ kfr S S' kb := by
  have hM := h.1
  have hN := h.2.1
  have hkt := hM.ring (Nat.mod_lt (sa + X.2.2.1.length) (show 0 < 9 by omega))
  by_cases hsh : nr = rr ((sa + X.2.2.1.length) % 9)
  · have hs := h.2.2.1.2
    have hok := hN.1 nr (Or.inr rfl)
    obtain ⟨S1, e1, e2, e3, e4⟩ := zs_twin hs hok.2
    obtain ⟨S', g1, g2, g3, g4, g5⟩ := cY.freshR h e3 e4 e2
    refine ⟨S', S.2, ?_, g2, g3, g4, g5⟩
    simp only [f_K_ownRoots, hM.rd0, hM.now.rd1, hM.rc, obind, zk_kept hM, hkt.rd1]
    rw [if_pos (by rw [hsh])]
    simp only [hs.rc, obind, e1, g1, g2.1.rd0, g2.1.now.rd1]
  · refine ⟨S, nr, ?_, h, ?_, h.2.2.1.2, kfr.rf⟩
    · simp only [f_K_ownRoots, hM.rd0, hM.now.rd1, hM.rc, obind, zk_kept hM, hkt.rd1]
      rw [if_neg (fun q => hsh (Option.some.inj q))]
    · rcases hN.2.2.2.2.2 with q | q
      · exact absurd q hsh
      · exact q
end KO
