theorem wrS {S : mc_S} {b ci k : Nat} {fs : List Value} (v : Value) (h : S.1 b = some (.inr (ci, fs))) (hk : k < fs.length) : ∃ S', wrV S (some b) ci k v = some S' ∧ S'.1 b = some (.inr (ci, fs.set k v)) ∧ S'.2 = S.2 ∧ ∀ a, a ≠ b → S'.1 a = S.1 a := ⟨_, wr_at h hk, up_eq, rfl, fun _ ha => up_ne ha rfl⟩
theorem nwS (S : mc_S) (t cap k : Nat) (n : Int32) (z : (Nat → Int32) ⊕ (Nat → Int64) ⊕ (Nat → UInt32) ⊕ (Nat → UInt64) ⊕ (Nat → Option Nat)) (hn : n = nI k) (hk : k ≤ cap) (hc : cap < 2 ^ 31) : ∃ S', nwA t cap n z S = some S' ∧ S'.1 S.2 = some (.inl (t, k, z)) ∧ S'.2 = S.2 + 1 ∧ ∀ a, a ≠ S.2 → S'.1 a = S.1 a := by
  subst hn
  exact ⟨_, nwA_at hk hc, up_eq, rfl, fun _ ha => up_ne ha rfl⟩
theorem nwOS (S : mc_S) (ci : Nat) (fs : List Value) : (nwO ci fs S).1 S.2 = some (.inr (ci, fs)) ∧ (nwO ci fs S).2 = S.2 + 1 ∧ ∀ a, a ≠ S.2 → (nwO ci fs S).1 a = S.1 a := ⟨up_eq, rfl, fun _ ha => up_ne ha rfl⟩
def rD0 : rD := (fun _ => 0, fun _ => 0, fun _ => 0, fun _ => 0, fun _ => 0, fun _ => 0, 0)
theorem zn_init (S0 : mc_S) {t : Nat} (ht : S0.2 = t) : ∃ S', f_N_init t (nwO 5 [.null, .null, .null, .null, .null, .null, .int 0, .int 0] S0) = some S' ∧ rSt S' t rD0 0 ∧ S'.2 = t + 7 ∧ ∀ a, a < t → S'.1 a = S0.1 a := by
  subst ht
  obtain ⟨o0, z0, f0⟩ := nwOS S0 5 [.null, .null, .null, .null, .null, .null, .int 0, .int 0]
  generalize nwO 5 [.null, .null, .null, .null, .null, .null, .int 0, .int 0] S0 = S at o0 z0 f0 ⊢
  obtain ⟨S1, e1, a1, z1, f1⟩ := nwS S 0 100 100 100 (.inl (fun _ => 0)) rfl (by omega) (by decide)
  have h1 := (f1 S0.2 (by omega)).trans o0
  obtain ⟨S2, e2, o2, z2, f2⟩ := wrS (k := 0) (va_rf (some S.2)) h1 (by simp)
  obtain ⟨S3, e3, a3, z3, f3⟩ := nwS S2 0 100 100 100 (.inl (fun _ => 0)) rfl (by omega) (by decide)
  have h3 := (f3 S0.2 (by omega)).trans o2
  obtain ⟨S4, e4, o4, z4, f4⟩ := wrS (k := 1) (va_rf (some S2.2)) h3 (by simp)
  obtain ⟨S5, e5, a5, z5, f5⟩ := nwS S4 0 800 800 800 (.inl (fun _ => 0)) rfl (by omega) (by decide)
  have h5 := (f5 S0.2 (by omega)).trans o4
  obtain ⟨S6, e6, o6, z6, f6⟩ := wrS (k := 2) (va_rf (some S4.2)) h5 (by simp)
  obtain ⟨S7, e7, a7, z7, f7⟩ := nwS S6 0 12 12 12 (.inl (fun _ => 0)) rfl (by omega) (by decide)
  have h7 := (f7 S0.2 (by omega)).trans o6
  obtain ⟨S8, e8, o8, z8, f8⟩ := wrS (k := 3) (va_rf (some S6.2)) h7 (by simp)
  obtain ⟨S9, e9, a9, z9, f9⟩ := nwS S8 1 2000 2000 2000 (.inr (.inl (fun _ => 0))) rfl (by omega) (by decide)
  have h9 := (f9 S0.2 (by omega)).trans o8
  obtain ⟨S10, e10, o10, z10, f10⟩ := wrS (k := 4) (va_rf (some S8.2)) h9 (by simp)
  obtain ⟨S11, e11, a11, z11, f11⟩ := nwS S10 1 12 12 12 (.inr (.inl (fun _ => 0))) rfl (by omega) (by decide)
  have h11 := (f11 S0.2 (by omega)).trans o10
  obtain ⟨S12, e12, o12, z12, f12⟩ := wrS (k := 5) (va_rf (some S10.2)) h11 (by simp)
  have y0 : S.2 = S0.2 + 1 := z0
  have y2 : S2.2 = S0.2 + 2 := by omega
  have y4 : S4.2 = S0.2 + 3 := by omega
  have y6 : S6.2 = S0.2 + 4 := by omega
  have y8 : S8.2 = S0.2 + 5 := by omega
  have y10 : S10.2 = S0.2 + 6 := by omega
  rw [y0] at a1
  rw [y2] at a3
  rw [y4] at a5
  rw [y6] at a7
  rw [y8] at a9
  rw [y10] at a11
  refine ⟨S12, ?_, ⟨?_, ?_, ?_, ?_, ?_, ?_, ?_⟩, by omega, fun a ha => ?_⟩
  · unfold f_N_init
    rw [e1, obind, e2, obind, e3, obind, e4, obind, e5, obind, e6, obind, e7, obind, e8, obind, e9, obind, e10, obind, e11, obind, e12, obind]
  · rw [o12, y0, y2, y4, y6, y8, y10]
    rfl
  · rw [f12 _ (by omega), f11 _ (by omega), f10 _ (by omega), f9 _ (by omega), f8 _ (by omega), f7 _ (by omega), f6 _ (by omega), f5 _ (by omega), f4 _ (by omega), f3 _ (by omega), f2 _ (by omega), a1]
    rfl
  · rw [f12 _ (by omega), f11 _ (by omega), f10 _ (by omega), f9 _ (by omega), f8 _ (by omega), f7 _ (by omega), f6 _ (by omega), f5 _ (by omega), f4 _ (by omega), a3]
    rfl
  · rw [f12 _ (by omega), f11 _ (by omega), f10 _ (by omega), f9 _ (by omega), f8 _ (by omega), f7 _ (by omega), f6 _ (by omega), a5]
    rfl
  · rw [f12 _ (by omega), f11 _ (by omega), f10 _ (by omega), f9 _ (by omega), f8 _ (by omega), a7]
    rfl
  · rw [f12 _ (by omega), f11 _ (by omega), f10 _ (by omega), a9]
    rfl
  · rw [f12 _ (by omega), a11]
    rfl
  · rw [f12 _ (by omega), f11 _ (by omega), f10 _ (by omega), f9 _ (by omega), f8 _ (by omega), f7 _ (by omega), f6 _ (by omega), f5 _ (by omega), f4 _ (by omega), f3 _ (by omega), f2 _ (by omega), f1 _ (by omega), f0 _ (by omega)]
theorem zt_init (S0 : mc_S) (rp : Nat) {t : Nat} (ht : S0.2 = t) : ∃ S', f_T_init t (some rp) (nwO 2 [.null, .null] S0) = some S' ∧ cSt S' t (fun _ => none) rp ∧ S'.2 = t + 2 ∧ ∀ a, a < t → S'.1 a = S0.1 a := by
  subst ht
  obtain ⟨o0, z0, f0⟩ := nwOS S0 2 [.null, .null]
  generalize nwO 2 [.null, .null] S0 = S at o0 z0 f0 ⊢
  obtain ⟨S1, e1, a1, z1, f1⟩ := nwS S 3 100 100 100 (.inr (.inr (.inr (.inr (fun _ => none))))) rfl (by omega) (by decide)
  have h1 := (f1 S0.2 (by omega)).trans o0
  obtain ⟨S2, e2, o2, z2, f2⟩ := wrS (k := 0) (va_rf (some S.2)) h1 (by simp)
  obtain ⟨S3, e3, o3, z3, f3⟩ := wrS (k := 1) (va_rf (some rp)) o2 (by simp)
  have y0 : S.2 = S0.2 + 1 := z0
  rw [y0] at a1
  refine ⟨S3, ?_, ⟨?_, fun _ => none, ?_, fun _ _ => rfl⟩, by omega, fun a ha => ?_⟩
  · unfold f_T_init
    rw [e1, obind, e2, obind, e3, obind]
  · rw [o3, y0]
    rfl
  · rw [f3 _ (by omega), f2 _ (by omega), a1]
  · rw [f3 _ (by omega), f2 _ (by omega), f1 _ (by omega), f0 _ (by omega)]
theorem zr_init (S0 : mc_S) {t : Nat} (ht : S0.2 = t) : ∃ S', f_R_init t (nwO 3 [.null, .null, .int 0] S0) = some S' ∧ rcR S' t (fun _ => 0) (fun _ => 0) 0 ∧ S'.2 = t + 3 ∧ ∀ a, a < t → S'.1 a = S0.1 a := by
  subst ht
  obtain ⟨o0, z0, f0⟩ := nwOS S0 3 [.null, .null, .int 0]
  generalize nwO 3 [.null, .null, .int 0] S0 = S at o0 z0 f0 ⊢
  obtain ⟨S1, e1, a1, z1, f1⟩ := nwS S 2 100 100 100 (.inl (fun _ => 0)) rfl (by omega) (by decide)
  have h1 := (f1 S0.2 (by omega)).trans o0
  obtain ⟨S2, e2, o2, z2, f2⟩ := wrS (k := 0) (va_rf (some S.2)) h1 (by simp)
  obtain ⟨S3, e3, a3, z3, f3⟩ := nwS S2 0 100 100 100 (.inl (fun _ => 0)) rfl (by omega) (by decide)
  have h3 := (f3 S0.2 (by omega)).trans o2
  obtain ⟨S4, e4, o4, z4, f4⟩ := wrS (k := 1) (va_rf (some S2.2)) h3 (by simp)
  obtain ⟨S5, e5, o5, z5, f5⟩ := wrS (k := 2) (.int 0) o4 (by simp)
  have y0 : S.2 = S0.2 + 1 := z0
  have y2 : S2.2 = S0.2 + 2 := by omega
  rw [y0] at a1
  rw [y2] at a3
  refine ⟨S5, ?_, ⟨?_, ?_, ?_⟩, by omega, fun a ha => ?_⟩
  · unfold f_R_init
    rw [e1, obind, e2, obind, e3, obind, e4, obind, e5, obind]
  · rw [o5, y0, y2]
    rfl
  · rw [f5 _ (by omega), f4 _ (by omega), f3 _ (by omega), f2 _ (by omega), a1]
  · rw [f5 _ (by omega), f4 _ (by omega), a3]
  · rw [f5 _ (by omega), f4 _ (by omega), f3 _ (by omega), f2 _ (by omega), f1 _ (by omega), f0 _ (by omega)]
theorem zk_in_g {kb : Nat} {o : List Value} (ho : o[1]? = some (.ref (kb + 1))) : ∀ (d k n : Nat) (S : mc_S) (f : Nat → Option Nat), k + d = 9 → d < n → S.2 = kb + 11 + 2 * k → S.1 kb = some (.inr (0, o)) → S.1 (kb + 1) = some (.inl (4, 9, .inr (.inr (.inr (.inr f))))) → (∀ j, j < k → f j = some (kb + 11 + 2 * j)) → (∀ j, j < k → cSt S (kb + 11 + 2 * j) (fun _ => none) (kb + 6)) → ∃ (S' : mc_S) (f' : Nat → Option Nat), g_K_init kb n (some (kb + 6)) (nI k) S = some S' ∧ S'.2 = kb + 29 ∧ S'.1 (kb + 1) = some (.inl (4, 9, .inr (.inr (.inr (.inr f'))))) ∧ (∀ j, j < 9 → f' j = some (kb + 11 + 2 * j)) ∧ (∀ j, j < 9 → cSt S' (kb + 11 + 2 * j) (fun _ => none) (kb + 6)) ∧ ∀ a, a < kb + 11 → a ≠ kb + 1 → S'.1 a = S.1 a := by
  intro d
  induction d with
  | zero =>
    intro k n S f hk hn hz h0 h1 h2 h3
    obtain ⟨n, rfl⟩ : ∃ q, n = q + 1 := ⟨n - 1, by omega⟩
    obtain rfl : k = 9 := by omega
    refine ⟨S, f, ?_, hz, h1, h2, h3, fun _ _ _ => rfl⟩
    show q_K_init_0 kb (g_K_init kb n) (some (kb + 6)) (nI 9) S = _
    simp only [q_K_init_0]
    rw [if_pos (by decide)]
  | succ d ih =>
    intro k n S f hk hn hz h0 h1 h2 h3
    obtain ⟨n, rfl⟩ : ∃ q, n = q + 1 := ⟨n - 1, by omega⟩
    obtain ⟨S3, e3, c3, z3, f3⟩ := zt_init S (kb + 6) hz
    have h1' : S3.1 (kb + 1) = _ := (f3 _ (by omega)).trans h1
    have hst := stR_at (v := some (kb + 11 + 2 * k)) (ci := 2) (k := k) h1' (Or.inr c3.rc) (by omega) (by decide)
    obtain ⟨S', f', g1, g2, g3, g4, g5, g6⟩ := ih (k + 1) n (va_up S3.1 (kb + 1) (some (.inl (4, 9, .inr (.inr (.inr (.inr (va_up f k (some (kb + 11 + 2 * k))))))))), S3.2) (va_up f k (some (kb + 11 + 2 * k))) (by omega) (by omega) (by show S3.2 = _; omega) (up_ne (by omega) ((f3 _ (by omega)).trans h0)) up_eq (fun j hj => by
      by_cases e : j = k
      · subst e; exact va_up_self _ _ _
      · rw [va_up_ne _ _ e]; exact h2 j (by omega)) (fun j hj => by
      by_cases e : j = k
      · subst e
        exact c3.frame (up_ne (by omega) rfl) (up_ne (by omega) rfl)
      · exact (h3 j (by omega)).frame (up_ne (by omega) (f3 _ (by omega))) (up_ne (by omega) (f3 _ (by omega))))
    refine ⟨S', f', ?_, g2, g3, g4, g5, fun a ha ha1 => (g6 a ha ha1).trans (up_ne ha1 (f3 a (by omega)))⟩
    show q_K_init_0 kb (g_K_init kb n) (some (kb + 6)) (nI k) S = _
    simp only [q_K_init_0]
    rw [if_neg (show ¬ (9 : Int32) ≤ nI k from fun q => by have := (nI_lei (a := 9) (by decide) (by omega)).mp q; omega), rdR_at h0 ho, obind, hz, rcv_at (show (nwO 2 [.null, .null] S).1 (kb + 11 + 2 * k) = some (.inr (2, [.null, .null])) from by rw [← hz]; exact up_eq), obind, e3, obind, hst, obind, nI_s, g1]
theorem zk_init (S0 : mc_S) {kb : Nat} (ht : S0.2 = kb) : ∃ S', f_K_init kb (nwO 0 [.null, .null, .null, .null, .int 0, .int 0, .int 0] S0) = some S' ∧ S'.2 = kb + 29 ∧ S'.1 kb = some (.inr (0, [.ref (kb + 9), .ref (kb + 1), .ref (kb + 2), .ref (kb + 3), .int 0, .int 0, .int 0])) ∧ (∃ f : Nat → Option Nat, S'.1 (kb + 1) = some (.inl (4, 9, .inr (.inr (.inr (.inr f))))) ∧ ∀ j, j < 9 → f j = some (kb + 11 + 2 * j)) ∧ S'.1 (kb + 2) = some (.inl (0, 9, .inl (fun _ => 0))) ∧ rcR S' (kb + 3) (fun _ => 0) (fun _ => 0) 0 ∧ cSt S' (kb + 9) (fun _ => none) (kb + 6) ∧ (∀ j, j < 9 → cSt S' (kb + 11 + 2 * j) (fun _ => none) (kb + 6)) ∧ slP S' (kb + 6) 1 12 [] := by
  subst ht
  obtain ⟨o0, z0, f0⟩ := nwOS S0 0 [.null, .null, .null, .null, .int 0, .int 0, .int 0]
  generalize nwO 0 [.null, .null, .null, .null, .int 0, .int 0, .int 0] S0 = S at o0 z0 f0 ⊢
  generalize S0.2 = kb at o0 z0 f0 ⊢
  obtain ⟨S1, e1, a1, z1, f1⟩ := nwS S 4 9 9 9 (.inr (.inr (.inr (.inr (fun _ => none))))) rfl (by omega) (by decide)
  have h1 := (f1 kb (by omega)).trans o0
  obtain ⟨S2, e2, o2, z2, f2⟩ := wrS (k := 1) (va_rf (some S.2)) h1 (by simp)
  obtain ⟨S3, e3, a3, z3, f3⟩ := nwS S2 0 9 9 9 (.inl (fun _ => 0)) rfl (by omega) (by decide)
  have h3 := (f3 kb (by omega)).trans o2
  obtain ⟨S4, e4, o4, z4, f4⟩ := wrS (k := 2) (va_rf (some S2.2)) h3 (by simp)
  obtain ⟨S6, e6, c6, z6, f6⟩ := zr_init S4 (t := S4.2) rfl
  have h6 := (f6 kb (by omega)).trans o4
  obtain ⟨S7, e7, o7, z7, f7⟩ := wrS (k := 3) (va_rf (some S4.2)) h6 (by simp)
  obtain ⟨S8, e8, o8, z8, f8⟩ := wrS (k := 4) (.int 0) o7 (by simp)
  obtain ⟨S9, e9, o9, z9, f9⟩ := wrS (k := 5) (.int 0) o8 (by simp)
  obtain ⟨S10, e10, o10, z10, f10⟩ := wrS (k := 6) (.int 0) o9 (by simp)
  obtain ⟨S12, e12, c12, z12, f12⟩ := zs_init S10 1 (room := 12) (by omega)
  rw [show nI 12 = (12 : Int32) from rfl] at e12
  have h12 := (f12 kb (by omega)).trans o10
  obtain ⟨S14, e14, c14, z14, f14⟩ := zt_init S12 S10.2 (t := S12.2) rfl
  have h14 := (f14 kb (by omega)).trans h12
  obtain ⟨S15, e15, o15, z15, f15⟩ := wrS (k := 0) (va_rf (some S12.2)) h14 (by simp)
  have y0 : S.2 = kb + 1 := z0
  have y2 : S2.2 = kb + 2 := by omega
  have y4 : S4.2 = kb + 3 := by omega
  have y10 : S10.2 = kb + 6 := by omega
  have y12 : S12.2 = kb + 9 := by omega
  have y15 : S15.2 = kb + 11 := by omega
  rw [y0] at a1
  rw [y2] at a3
  rw [y4] at c6
  rw [y10] at c12 c14
  rw [y12] at c14
  have o15' : S15.1 kb = some (.inr (0, [.ref (kb + 9), .ref (kb + 1), .ref (kb + 2), .ref (kb + 3), .int 0, .int 0, .int 0])) := by
    rw [o15, y0, y2, y4, y12]
    rfl
  have a1' : S15.1 (kb + 1) = some (.inl (4, 9, .inr (.inr (.inr (.inr (fun _ => none)))))) := by
    rw [f15 _ (by omega), f14 _ (by omega), f12 _ (by omega), f10 _ (by omega), f9 _ (by omega), f8 _ (by omega), f7 _ (by omega), f6 _ (by omega), f4 _ (by omega), f3 _ (by omega), f2 _ (by omega), a1]
  obtain ⟨S', f', g1, g2, g3, g4, g5, g6⟩ := zk_in_g (kb := kb) (o := [.ref (kb + 9), .ref (kb + 1), .ref (kb + 2), .ref (kb + 3), .int 0, .int 0, .int 0]) rfl 9 0 12 S15 (fun _ => none) (by omega) (by omega) (by omega) o15' a1' (fun j hj => by omega) (fun j hj => by omega)
  rw [show nI 0 = (0 : Int32) from rfl] at g1
  refine ⟨S', ?_, g2, (g6 _ (by omega) (by omega)).trans o15', ⟨f', g3, g4⟩, ?_, ⟨?_, ?_, ?_⟩, ?_, g5, ?_⟩
  · unfold f_K_init
    rw [e1, obind, e2, obind, e3, obind, e4, obind, rcv_at (nwOS S4 3 [.null, .null, .int 0]).1, obind, e6, obind, e7, obind, e8, obind, e9, obind, e10, obind, rcv_at (nwOS S10 1 [.int 0, .null, .null, .int 0]).1, obind, e12, obind, rcv_at (nwOS S12 2 [.null, .null]).1, obind, e14, obind, e15, obind, y10, g1]
  · rw [g6 _ (by omega) (by omega), f15 _ (by omega), f14 _ (by omega), f12 _ (by omega), f10 _ (by omega), f9 _ (by omega), f8 _ (by omega), f7 _ (by omega), f6 _ (by omega), f4 _ (by omega), a3]
  · rw [g6 _ (by omega) (by omega), f15 _ (by omega), f14 _ (by omega), f12 _ (by omega), f10 _ (by omega), f9 _ (by omega), f8 _ (by omega), f7 _ (by omega), c6.1]
  · rw [g6 _ (by omega) (by omega), f15 _ (by omega), f14 _ (by omega), f12 _ (by omega), f10 _ (by omega), f9 _ (by omega), f8 _ (by omega), f7 _ (by omega), c6.2.1]
  · rw [g6 _ (by omega) (by omega), f15 _ (by omega), f14 _ (by omega), f12 _ (by omega), f10 _ (by omega), f9 _ (by omega), f8 _ (by omega), f7 _ (by omega), c6.2.2]
  · exact c14.frame (by rw [g6 _ (by omega) (by omega), f15 _ (by omega)]) (by rw [g6 _ (by omega) (by omega), f15 _ (by omega)])
  · obtain ⟨p1, p2, p3, nf, vf, p4, p5, p6⟩ := c12
    exact ⟨p1, p2, by rw [g6 _ (by omega) (by omega), f15 _ (by omega), f14 _ (by omega), p3], nf, vf, by rw [g6 _ (by omega) (by omega), f15 _ (by omega), f14 _ (by omega), p4], by rw [g6 _ (by omega) (by omega), f15 _ (by omega), f14 _ (by omega), p5], p6⟩
theorem zm_in_g {mb : Nat} {o : List Value} (ho : o[3]? = some (.ref (mb + 22))) : ∀ (d k n : Nat) (S : mc_S) (f : Nat → Option Nat), k + d = 8 → d < n → S.2 = mb + 25 + 7 * k → S.1 mb = some (.inr (4, o)) → S.1 (mb + 22) = some (.inl (5, 8, .inr (.inr (.inr (.inr f))))) → (∀ j, j < k → f j = some (mb + 25 + 7 * j)) → (∀ j, j < k → rSt S (mb + 25 + 7 * j) rD0 0) → ∃ (S' : mc_S) (f' : Nat → Option Nat), g_M_init mb n (nI k) S = some S' ∧ S'.2 = mb + 81 ∧ S'.1 (mb + 22) = some (.inl (5, 8, .inr (.inr (.inr (.inr f'))))) ∧ (∀ j, j < 8 → f' j = some (mb + 25 + 7 * j)) ∧ (∀ j, j < 8 → rSt S' (mb + 25 + 7 * j) rD0 0) ∧ ∀ a, a < mb + 25 → a ≠ mb + 22 → S'.1 a = S.1 a := by
  intro d
  induction d with
  | zero =>
    intro k n S f hk hn hz h0 h1 h2 h3
    obtain ⟨n, rfl⟩ : ∃ q, n = q + 1 := ⟨n - 1, by omega⟩
    obtain rfl : k = 8 := by omega
    refine ⟨S, f, ?_, hz, h1, h2, h3, fun _ _ _ => rfl⟩
    show q_M_init_0 mb (g_M_init mb n) (nI 8) S = _
    simp only [q_M_init_0]
    rw [if_pos (by decide)]
  | succ d ih =>
    intro k n S f hk hn hz h0 h1 h2 h3
    obtain ⟨n, rfl⟩ : ∃ q, n = q + 1 := ⟨n - 1, by omega⟩
    obtain ⟨S3, e3, c3, z3, f3⟩ := zn_init S hz
    have h1' : S3.1 (mb + 22) = _ := (f3 _ (by omega)).trans h1
    have hst := stR_at (v := some (mb + 25 + 7 * k)) (ci := 5) (k := k) h1' (Or.inr c3.rc) (by omega) (by decide)
    obtain ⟨S', f', g1, g2, g3, g4, g5, g6⟩ := ih (k + 1) n (va_up S3.1 (mb + 22) (some (.inl (5, 8, .inr (.inr (.inr (.inr (va_up f k (some (mb + 25 + 7 * k))))))))), S3.2) (va_up f k (some (mb + 25 + 7 * k))) (by omega) (by omega) (by show S3.2 = _; omega) (up_ne (by omega) ((f3 _ (by omega)).trans h0)) up_eq (fun j hj => by
      by_cases e : j = k
      · subst e; exact va_up_self _ _ _
      · rw [va_up_ne _ _ e]; exact h2 j (by omega)) (fun j hj => by
      by_cases e : j = k
      · subst e
        exact c3.frame (fun a _ _ => up_ne (by omega) rfl)
      · exact (h3 j (by omega)).frame (fun a _ _ => up_ne (by omega) (f3 _ (by omega))))
    refine ⟨S', f', ?_, g2, g3, g4, g5, fun a ha ha1 => (g6 a ha ha1).trans (up_ne ha1 (f3 a (by omega)))⟩
    show q_M_init_0 mb (g_M_init mb n) (nI k) S = _
    simp only [q_M_init_0]
    rw [if_neg (show ¬ (8 : Int32) ≤ nI k from fun q => by have := (nI_lei (a := 8) (by decide) (by omega)).mp q; omega), rdR_at h0 ho, obind, hz, rcv_at (show (nwO 5 [.null, .null, .null, .null, .null, .null, .int 0, .int 0] S).1 (mb + 25 + 7 * k) = some (.inr (5, [.null, .null, .null, .null, .null, .null, .int 0, .int 0])) from by rw [← hz]; exact up_eq), obind, e3, obind, hst, obind, nI_s, g1]
theorem zm_init (S0 : mc_S) {mb : Nat} (ht : S0.2 = mb) : ∃ S', f_M_init mb (nwO 4 [.null, .null, .null, .null, .int 0, .int 0, .null, .null] S0) = some S' ∧ S'.2 = mb + 81 ∧ rX S' mb pX0 ∧ ∀ a, a < mb → S'.1 a = S0.1 a := by
  subst ht
  obtain ⟨o0, z0, f0⟩ := nwOS S0 4 [.null, .null, .null, .null, .int 0, .int 0, .null, .null]
  generalize nwO 4 [.null, .null, .null, .null, .int 0, .int 0, .null, .null] S0 = S at o0 z0 f0 ⊢
  generalize S0.2 = mb at o0 z0 f0 ⊢
  obtain ⟨S2, e2, c2, z2, f2⟩ := zn_init S (t := S.2) rfl
  have h2 := (f2 mb (by omega)).trans o0
  obtain ⟨S3, e3, o3, z3, f3⟩ := wrS (k := 0) (va_rf (some S.2)) h2 (by simp)
  obtain ⟨S5, e5, c5, z5, f5⟩ := zn_init S3 (t := S3.2) rfl
  have h5 := (f5 mb (by omega)).trans o3
  obtain ⟨S6, e6, o6, z6, f6⟩ := wrS (k := 1) (va_rf (some S3.2)) h5 (by simp)
  obtain ⟨S8, e8, c8, z8, f8⟩ := zn_init S6 (t := S6.2) rfl
  have h8 := (f8 mb (by omega)).trans o6
  obtain ⟨S9, e9, o9, z9, f9⟩ := wrS (k := 2) (va_rf (some S6.2)) h8 (by simp)
  obtain ⟨S10, e10, a10, z10, f10⟩ := nwS S9 5 8 8 8 (.inr (.inr (.inr (.inr (fun _ => none))))) rfl (by omega) (by decide)
  have h10 := (f10 mb (by omega)).trans o9
  obtain ⟨S11, e11, o11, z11, f11⟩ := wrS (k := 3) (va_rf (some S9.2)) h10 (by simp)
  obtain ⟨S12, e12, a12, z12, f12⟩ := nwS S11 2 100 100 100 (.inl (fun _ => 0)) rfl (by omega) (by decide)
  have h12 := (f12 mb (by omega)).trans o11
  obtain ⟨S13, e13, o13, z13, f13⟩ := wrS (k := 6) (va_rf (some S11.2)) h12 (by simp)
  obtain ⟨S14, e14, a14, z14, f14⟩ := nwS S13 0 100 100 100 (.inl (fun _ => 0)) rfl (by omega) (by decide)
  have h14 := (f14 mb (by omega)).trans o13
  obtain ⟨S15, e15, o15, z15, f15⟩ := wrS (k := 7) (va_rf (some S13.2)) h14 (by simp)
  have y0 : S.2 = mb + 1 := z0
  have y3 : S3.2 = mb + 8 := by omega
  have y6 : S6.2 = mb + 15 := by omega
  have y9 : S9.2 = mb + 22 := by omega
  have y11 : S11.2 = mb + 23 := by omega
  have y13 : S13.2 = mb + 24 := by omega
  have y15 : S15.2 = mb + 25 := by omega
  rw [y0] at c2
  rw [y3] at c5
  rw [y6] at c8
  rw [y9] at a10
  rw [y11] at a12
  rw [y13] at a14
  have o15' : S15.1 mb = some (mO mb 0 0) := by
    rw [o15, y0, y3, y6, y9, y11, y13]
    rfl
  have a10' : S15.1 (mb + 22) = some (.inl (5, 8, .inr (.inr (.inr (.inr (fun _ => none)))))) := by
    rw [f15 _ (by omega), f14 _ (by omega), f13 _ (by omega), f12 _ (by omega), f11 _ (by omega), a10]
  obtain ⟨S', f', g1, g2, g3, g4, g5, g6⟩ := zm_in_g (mb := mb) (o := [.ref (mb + 1), .ref (mb + 8), .ref (mb + 15), .ref (mb + 22), .int (nI 0), .int 0, .ref (mb + 23), .ref (mb + 24)]) rfl 8 0 12 S15 (fun _ => none) (by omega) (by omega) (by omega) o15' a10' (fun j hj => by omega) (fun j hj => by omega)
  rw [show nI 0 = (0 : Int32) from rfl] at g1
  have q0 : rPS rD0 pE := ⟨fun o _ => rfl, [], List.Perm.refl _, rfl, fun k z hz => by simp at hz⟩
  refine ⟨S', ?_, g2, ⟨fun k => k, rD0, rD0, rD0, 0, 0, 0, fun _ => rD0, fun _ => 0, ⟨(g6 _ (by omega) (by omega)).trans o15', ⟨f', g3, g4⟩, fun k hk => hk, fun k j _ _ e => e, ⟨fun _ => 0, ?_⟩, ⟨fun _ => 0, ?_⟩, ?_, ?_, ?_, g5, by simp [pX0]⟩, q0, q0, q0, fun i q hq => by simp [pX0] at hq⟩, fun a ha => ?_⟩
  · unfold f_M_init
    rw [rcv_at (nwOS S 5 [.null, .null, .null, .null, .null, .null, .int 0, .int 0]).1, obind, e2, obind, e3, obind, rcv_at (nwOS S3 5 [.null, .null, .null, .null, .null, .null, .int 0, .int 0]).1, obind, e5, obind, e6, obind, rcv_at (nwOS S6 5 [.null, .null, .null, .null, .null, .null, .int 0, .int 0]).1, obind, e8, obind, e9, obind, e10, obind, e11, obind, e12, obind, e13, obind, e14, obind, e15, obind, g1]
  · rw [g6 _ (by omega) (by omega), f15 _ (by omega), f14 _ (by omega), f13 _ (by omega), a12]
  · rw [g6 _ (by omega) (by omega), f15 _ (by omega), a14]
  · refine c2.frame (fun a _ _ => ?_)
    rw [g6 _ (by omega) (by omega), f15 _ (by omega), f14 _ (by omega), f13 _ (by omega), f12 _ (by omega), f11 _ (by omega), f10 _ (by omega), f9 _ (by omega), f8 _ (by omega), f6 _ (by omega), f5 _ (by omega), f3 _ (by omega)]
  · refine c5.frame (fun a _ _ => ?_)
    rw [g6 _ (by omega) (by omega), f15 _ (by omega), f14 _ (by omega), f13 _ (by omega), f12 _ (by omega), f11 _ (by omega), f10 _ (by omega), f9 _ (by omega), f8 _ (by omega), f6 _ (by omega)]
  · refine c8.frame (fun a _ _ => ?_)
    rw [g6 _ (by omega) (by omega), f15 _ (by omega), f14 _ (by omega), f13 _ (by omega), f12 _ (by omega), f11 _ (by omega), f10 _ (by omega), f9 _ (by omega)]
  · rw [g6 _ (by omega) (by omega), f15 _ (by omega), f14 _ (by omega), f13 _ (by omega), f12 _ (by omega), f11 _ (by omega), f10 _ (by omega), f9 _ (by omega), f8 _ (by omega), f6 _ (by omega), f5 _ (by omega), f3 _ (by omega), f2 _ (by omega), f0 _ (by omega)]
theorem z_born (S0 : mc_S) {kb : Nat} (ht : S0.2 = kb) : ∃ S2 S4, f_K_init kb (nwO 0 [.null, .null, .null, .null, .int 0, .int 0, .int 0] S0) = some S2 ∧ S2.2 = kb + 29 ∧ f_M_init (kb + 29) (nwO 4 [.null, .null, .null, .null, .int 0, .int 0, .null, .null] S2) = some S4 ∧ cX S4 kb pX0 ∧ rX S4 (kb + 29) pX0 := by
  obtain ⟨S2, e2, z2, k1, ⟨f, k2, k2'⟩, k3, k4, k5, k6, k7⟩ := zk_init S0 ht
  obtain ⟨S4, e4, z4, r4, f4⟩ := zm_init S2 z2
  refine ⟨S2, S4, e2, z2, e4, ?_, r4⟩
  have hs : slP S4 (kb + 6) 1 12 [] := by
    obtain ⟨p1, p2, p3, nf, vf, p4, p5, p6⟩ := k7
    exact ⟨p1, p2, (f4 _ (by omega)).trans p3, nf, vf, (f4 _ (by omega)).trans p4, (f4 _ (by omega)).trans p5, p6⟩
  have hp : cPS S4 (fun _ => none) (kb + 6) pE := ⟨fun o _ => rfl, hs⟩
  have hpt : ∀ h, cPt (fun _ => none) (kb + 6) h → h = kb + 6 := by
    intro h hh
    rcases hh with ⟨o, _, e⟩ | e
    · cases e
    · exact e
  have hij : cInj (fun _ => none) (kb + 6) := ⟨fun o o' h _ _ e => (by cases e), fun o _ e => (by cases e)⟩
  refine ⟨fun _ => none, kb + 6, fun _ _ => none, fun _ => kb + 6, 0, fun _ => 0, ⟨(f4 _ (by omega)).trans k1, ⟨f, (f4 _ (by omega)).trans k2, k2'⟩, ⟨fun _ => 0, (f4 _ (by omega)).trans k3, fun _ _ => rfl⟩, ⟨fun _ => 0, fun _ => 0, 0, (f4 _ (by omega)).trans k4.1, (f4 _ (by omega)).trans k4.2.1, (f4 _ (by omega)).trans k4.2.2⟩, k5.frame (f4 _ (by omega)) (f4 _ (by omega)), fun j hj => (k6 j hj).frame (f4 _ (by omega)) (f4 _ (by omega)), by omega, by simp [pX0], by omega⟩, ⟨fun h hh => ?_, fun i _ h hh => ?_, hij, fun i _ => hij, fun o h _ e => (by cases e), Or.inl rfl⟩, hp, fun i hi => ?_, fun i q hq => by simp [pX0] at hq⟩
  · rw [hpt h hh]; exact ⟨Or.inl rfl, by omega⟩
  · rw [hpt h hh]; exact ⟨Or.inl rfl, by omega⟩
  · have : i = 0 := by simp [pX0] at hi; exact hi
    subst this
    exact hp
