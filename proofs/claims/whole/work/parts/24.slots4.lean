section SO
variable {S : mc_S} {h cap : Nat} {form : Int32} {es : List pe} {h' cap' : Nat} {form' : Int32} {es' : List pe}
theorem zs_same_g (hs : slP S h form cap es) (hs' : slP S h' form' cap' es') (hl : es'.length = es.length) : ∀ (d k n : Nat), k + d = es.length → d < n → g_S_sameAs h n (some h') (nI k) S = some (if es.drop k = es'.drop k then 1 else 0, S) := by
  have hlen := hs.len
  have r3 := hs.rd3
  have r1 := hs.rd1
  have r2 := hs.rd2
  have q1 := hs'.rd1
  have q2 := hs'.rd2
  obtain ⟨hl0, hc, hM, nf, vf, hn, hv, he⟩ := hs
  obtain ⟨hl0', hc', hM', nf', vf', hn', hv', he'⟩ := hs'
  intro d
  induction d with
  | zero =>
    intro k n hk hn0
    obtain ⟨n, rfl⟩ : ∃ q, n = q + 1 := ⟨n - 1, by omega⟩
    show q_S_sameAs_0 h (g_S_sameAs h n) (some h') (nI k) S = _
    simp only [q_S_sameAs_0, r3, obind]
    rw [if_pos ((nI_lei hlen (by omega)).mpr (by omega))]
    rw [List.drop_eq_nil_of_le (by omega), List.drop_eq_nil_of_le (by omega), if_pos rfl]
  | succ d ih =>
    intro k n hk hn0
    obtain ⟨n, rfl⟩ : ∃ q, n = q + 1 := ⟨n - 1, by omega⟩
    show q_S_sameAs_0 h (g_S_sameAs h n) (some h') (nI k) S = _
    have hk1 : k < es.length := by omega
    have hk2 : k < es'.length := by omega
    have e1 := he k es[k] (List.getElem?_eq_getElem hk1)
    have e2 := he' k es'[k] (List.getElem?_eq_getElem hk2)
    have hd1 : es.drop k = es[k] :: es.drop (k + 1) := List.drop_eq_getElem_cons hk1
    have hd2 : es'.drop k = es'[k] :: es'.drop (k + 1) := List.drop_eq_getElem_cons hk2
    simp only [q_S_sameAs_0, r3, r1, r2, q1, q2, obind]
    rw [if_neg (fun q => by have := (nI_lei hlen (by omega)).mp q; omega)]
    rw [ldI_at hn' (by omega) (by omega)]
    simp only [obind]
    rw [ldI_at hn (by omega) (by omega)]
    simp only [obind]
    rw [ldL_at hv' (by omega) (by omega)]
    simp only [obind]
    rw [ldL_at hv (by omega) (by omega)]
    simp only [obind]
    rw [hd1, hd2, e1, e2]
    by_cases c1 : nf' k = nf k
    · rw [if_pos c1]
      by_cases c2 : vf' k = vf k
      · rw [if_pos (lc_eq.mpr c2), nI_s, ih (k + 1) n (by omega) (by omega), c1, c2]
        by_cases c3 : es.drop (k + 1) = es'.drop (k + 1)
        · rw [if_pos c3, if_pos (by rw [c3])]
        · rw [if_neg c3, if_neg (fun q => c3 (List.cons.inj q).2)]
      · rw [if_neg (fun q => c2 (lc_eq.mp q)), if_neg (fun q => c2 (by have := (List.cons.inj q).1; exact (congrArg (fun z : pe => z.2) this).symm))]
    · rw [if_neg c1, if_neg (fun q => c1 (by have := (List.cons.inj q).1; exact (congrArg (fun z : pe => z.1) this).symm))]
theorem zs_sameAs (hs : slP S h form cap es) (hs' : slP S h' form' cap' es') : f_S_sameAs h (some h') S = some (if form = form' ∧ es = es' then 1 else 0, S) := by
  have hlen := hs.len
  have hlen' := hs'.len
  simp only [f_S_sameAs, hs.rd0, hs'.rd0, hs.rd3, hs'.rd3, obind]
  rw [if_neg (fun q => by cases q)]
  by_cases c1 : form' = form
  · rw [if_pos c1]
    by_cases c2 : es'.length = es.length
    · rw [if_pos (by rw [c2])]
      have := zs_same_g hs hs' c2 es.length 0 5000 (by omega) (by have := hs.1; have := hs.2.1; omega)
      rw [show (0 : Int32) = nI 0 from rfl, this]
      simp only [List.drop_zero]
      by_cases c3 : es = es'
      · rw [if_pos c3, if_pos ⟨c1.symm, c3⟩]
      · rw [if_neg c3, if_neg (fun q => c3 q.2)]
        rfl
    · rw [if_neg (fun q => c2 ((nI_eqi hlen' hlen).mp q)), if_neg (fun q => c2 (by rw [q.2]))]
  · rw [if_neg c1, if_neg (fun q => c1 q.1.symm)]
theorem zs_sameAs0 : f_S_sameAs h none S = some (0, S) := by
  simp only [f_S_sameAs]
  rw [if_pos trivial]
theorem zs_nc1 (hs : slP S h form cap es) (hs' : slP S h' form' cap' es') : ∀ (d k n c : Nat), k + d = es'.length → d < n → g_S_namesChangedFrom h n 1 (some h') (nI c) (nI k) S = some (nI (c + (es'.drop k).countP (fun q => pLook es q.1 == pNIL)), S) := by
  have hlen' := hs'.len
  have r3 := hs'.rd3
  have r1 := hs'.rd1
  have rc := hs.rc
  have hnm := fun x => zs_named hs x
  obtain ⟨hl0', hc', hM', nf', vf', hn', hv', he'⟩ := hs'
  intro d
  induction d with
  | zero =>
    intro k n c hk hn0
    obtain ⟨n, rfl⟩ : ∃ q, n = q + 1 := ⟨n - 1, by omega⟩
    show q_S_namesChangedFrom_1 h (g_S_namesChangedFrom h n) (some h') (nI c) (nI k) S = _
    simp only [q_S_namesChangedFrom_1, r3, obind]
    rw [if_pos ((nI_lei hlen' (by omega)).mpr (by omega))]
    rw [List.drop_eq_nil_of_le (by omega)]
    rfl
  | succ d ih =>
    intro k n c hk hn0
    obtain ⟨n, rfl⟩ : ∃ q, n = q + 1 := ⟨n - 1, by omega⟩
    show q_S_namesChangedFrom_1 h (g_S_namesChangedFrom h n) (some h') (nI c) (nI k) S = _
    have hk2 : k < es'.length := by omega
    have e2 := he' k es'[k] (List.getElem?_eq_getElem hk2)
    have hd2 : es'.drop k = es'[k] :: es'.drop (k + 1) := List.drop_eq_getElem_cons hk2
    simp only [q_S_namesChangedFrom_1, r3, r1, obind]
    rw [if_neg (fun q => by have := (nI_lei hlen' (by omega)).mp q; omega)]
    rw [ldI_at hn' (by omega) (by omega)]
    simp only [obind, rc, hnm]
    rw [hd2, e2, List.countP_cons]
    by_cases c1 : pLook es (nf' k) = pNIL
    · rw [if_pos (show lg_cmp (pLook es (nf' k)) 1099511627776 = 0 from lc_eq.mpr c1), nI_s, nI_s, ih (k + 1) n (c + 1) (by omega) (by omega), if_pos (by simp [c1])]
      congr 3
      omega
    · rw [if_neg (show ¬ lg_cmp (pLook es (nf' k)) 1099511627776 = 0 from fun q => c1 (lc_eq.mp q)), nI_s, ih (k + 1) n c (by omega) (by omega), if_neg (by simp [c1])]
      rfl
theorem zs_nc0 (hs : slP S h form cap es) (hs' : slP S h' form' cap' es') : ∀ (d k n c : Nat), k + d = es.length → d + es'.length + 1 < n → g_S_namesChangedFrom h n 0 (some h') (nI c) (nI k) S = some (nI (c + (es.drop k).countP (fun q => pLook es' q.1 != q.2) + es'.countP (fun q => pLook es q.1 == pNIL)), S) := by
  have hlen := hs.len
  have r3 := hs.rd3
  have r1 := hs.rd1
  have r2 := hs.rd2
  have rc := hs'.rc
  have hnm := fun x => zs_named hs' x
  have hn1 := zs_nc1 hs hs'
  obtain ⟨hl0, hc, hM, nf, vf, hn, hv, he⟩ := hs
  intro d
  induction d with
  | zero =>
    intro k n c hk hn0
    obtain ⟨n, rfl⟩ : ∃ q, n = q + 1 := ⟨n - 1, by omega⟩
    show q_S_namesChangedFrom_0 h (g_S_namesChangedFrom h n) (some h') (nI c) (nI k) S = _
    simp only [q_S_namesChangedFrom_0, r3, obind]
    rw [if_pos ((nI_lei hlen (by omega)).mpr (by omega))]
    rw [show (0 : Int32) = nI 0 from rfl, hn1 es'.length 0 n c (by omega) (by omega), show es.drop k = [] from List.drop_eq_nil_of_le (by omega)]
    simp
  | succ d ih =>
    intro k n c hk hn0
    obtain ⟨n, rfl⟩ : ∃ q, n = q + 1 := ⟨n - 1, by omega⟩
    show q_S_namesChangedFrom_0 h (g_S_namesChangedFrom h n) (some h') (nI c) (nI k) S = _
    have hk1 : k < es.length := by omega
    have e1 := he k es[k] (List.getElem?_eq_getElem hk1)
    have hd1 : es.drop k = es[k] :: es.drop (k + 1) := List.drop_eq_getElem_cons hk1
    simp only [q_S_namesChangedFrom_0, r3, r1, obind]
    rw [if_neg (fun q => by have := (nI_lei hlen (by omega)).mp q; omega)]
    rw [ldI_at hn (by omega) (by omega)]
    simp only [obind, rc, hnm, r2]
    rw [ldL_at hv (by omega) (by omega)]
    simp only [obind]
    rw [hd1, e1, List.countP_cons]
    by_cases c1 : pLook es' (nf k) = vf k
    · rw [if_pos (lc_eq.mpr c1), nI_s, ih (k + 1) n c (by omega) (by omega), if_neg (by simp [c1])]
      rfl
    · rw [if_neg (fun q => c1 (lc_eq.mp q)), nI_s, nI_s, ih (k + 1) n (c + 1) (by omega) (by omega), if_pos (by simp [c1])]
      congr 3
      omega
theorem zs_nc (hs : slP S h form cap es) (hs' : slP S h' form' cap' es') : f_S_namesChangedFrom h (some h') S = some (nI (es.countP (fun q => pLook es' q.1 != q.2) + es'.countP (fun q => pLook es q.1 == pNIL)), S) := by
  have h1 := hs.1
  have h2 := hs.2.1
  have h3 := hs'.1
  have h4 := hs'.2.1
  have := zs_nc0 hs hs' es.length 0 5000 0 (by omega) (by omega)
  unfold f_S_namesChangedFrom
  rw [show (0 : Int32) = nI 0 from rfl, this]
  simp
theorem zs_init (S0 : mc_S) (form : Int32) {room : Nat} (hr : room ≤ 20) : ∃ S', f_S_init S0.2 form (nI room) (nwO 1 [.int 0, .null, .null, .int 0] S0) = some S' ∧ slP S' S0.2 form room [] ∧ S'.2 = S0.2 + 3 ∧ ∀ a, a < S0.2 → S'.1 a = S0.1 a := by
  obtain ⟨M, z⟩ := S0
  refine ⟨(va_up (va_up (va_up (va_up (va_up (va_up (va_up M z (some (.inr (1, [.int 0, .null, .null, .int 0])))) z (some (.inr (1, [.int 0, .null, .null, .int 0])))) z (some (.inr (1, [.int form, .null, .null, .int 0])))) (z + 1) (some (.inl (0, room, .inl (fun _ => 0))))) z (some (.inr (1, [.int form, .ref (z + 1), .null, .int 0])))) (z + 1 + 1) (some (.inl (1, room, .inr (.inl (fun _ => 0)))))) z (some (.inr (1, [.int form, .ref (z + 1), .ref (z + 1 + 1), .int 0]))), z + 1 + 1 + 1), ?_, ⟨by simp, hr, up_eq, fun _ => 0, fun _ => 0, ?_, ?_, fun k q hk => by simp at hk⟩, rfl, fun a ha => ?_⟩
  · simp only [f_S_init, nwO]
    rw [wr_p up_eq (by simp)]
    simp only [obind, List.set_cons_succ, List.set_cons_zero]
    rw [wr_p up_eq (by simp)]
    simp only [obind, List.set_cons_succ, List.set_cons_zero]
    rw [nwA_p hr (by decide)]
    simp only [obind]
    rw [wr_p (up_ne (by omega) up_eq) (by simp)]
    simp only [obind, List.set_cons_succ, List.set_cons_zero]
    rw [nwA_p hr (by decide)]
    simp only [obind]
    rw [wr_p (up_ne (by omega) up_eq) (by simp)]
    rfl
  · exact up_ne (by omega) (up_ne (by omega) (up_ne (by omega) up_eq))
  · exact up_ne (by omega) up_eq
  · have ha : a < z := ha
    exact up_ne (by omega) (up_ne (by omega) (up_ne (by omega) (up_ne (by omega) (up_ne (by omega) (up_ne (by omega) (up_ne (by omega) rfl))))))
theorem zs_twin (hs : slP S h form cap es) (hb : h + 2 < S.2) : ∃ S', f_S_twin h S = some (some S.2, S') ∧ slP S' S.2 form cap es ∧ S'.2 = S.2 + 3 ∧ ∀ a, a < S.2 → S'.1 a = S.1 a := by
  have hlen := hs.len
  obtain ⟨hl, hc, hM, nf, vf, hn, hv, he⟩ := id hs
  obtain ⟨S5, e1, ⟨-, -, gM, gn0, gv0, gn, gv, -⟩, ez, ef⟩ := zs_init S form hc
  have m0 : (nwO 1 [.int 0, .null, .null, .int 0] S).1 h = some (.inr (1, [.int form, .ref (h + 1), .ref (h + 2), .int (nI es.length)])) := up_ne (by omega) hM
  have m2 : (nwO 1 [.int 0, .null, .null, .int 0] S).1 (h + 2) = some (.inl (1, cap, .inr (.inl vf))) := up_ne (by omega) hv
  have k0 : S5.1 h = some (.inr (1, [.int form, .ref (h + 1), .ref (h + 2), .int (nI es.length)])) := (ef h (by omega)).trans hM
  have k1 : S5.1 (h + 1) = some (.inl (0, cap, .inl nf)) := (ef (h + 1) (by omega)).trans hn
  have k2 : S5.1 (h + 2) = some (.inl (1, cap, .inr (.inl vf))) := (ef (h + 2) (by omega)).trans hv
  refine ⟨(va_up (va_up (va_up S5.1 (S.2 + 1) (some (.inl (0, cap, .inl (va_cpy nf gn0 0 0 es.length))))) (S.2 + 2) (some (.inl (1, cap, .inr (.inl (va_cpy vf gv0 0 0 es.length)))))) S.2 (some (.inr (1, [.int form, .ref (S.2 + 1), .ref (S.2 + 2), .int (nI es.length)]))), S5.2), ?_, ⟨hl, hc, up_eq, va_cpy nf gn0 0 0 es.length, va_cpy vf gv0 0 0 es.length, up_ne (by omega) (up_ne (by omega) up_eq), up_ne (by omega) up_eq, fun k q hk => ?_⟩, ez, fun a ha => up_ne (by omega) (up_ne (by omega) (up_ne (by omega) (ef a ha)))⟩
  · simp only [f_S_twin]
    rw [rdI_at (k := 0) m0 rfl]
    simp only [obind]
    rw [rdR_at (k := 2) m0 rfl]
    simp only [obind]
    rw [alen_at m2]
    simp only [obind]
    rw [rcv_at (show (nwO 1 [.int 0, .null, .null, .int 0] S).1 S.2 = _ from up_eq)]
    simp only [obind, e1]
    rw [rdR_at (k := 1) k0 rfl]
    simp only [obind]
    rw [rdR_at (k := 1) gM rfl]
    simp only [obind]
    rw [rdI_at (k := 3) k0 rfl]
    simp only [obind]
    rw [cpI_at k1 gn hl hl hlen]
    simp only [obind]
    rw [rdR_p (k := 2) (up_ne (by omega) k0) rfl]
    simp only [obind]
    rw [rdR_p (k := 2) (up_ne (by omega) gM) rfl]
    simp only [obind]
    rw [rdI_p (k := 3) (up_ne (by omega) k0) rfl]
    simp only [obind]
    rw [cpL_at (S := (va_up S5.1 (S.2 + 1) (some (.inl (0, cap, .inl (va_cpy nf gn0 0 0 es.length)))), S5.2)) (up_ne (by omega) k2) (up_ne (by omega) gv) hl hl hlen]
    simp only [obind]
    rw [rdI_p (k := 3) (up_ne (by omega) (up_ne (by omega) k0)) rfl]
    simp only [obind]
    rw [wr_p (up_ne (by omega) (up_ne (by omega) gM)) (by simp)]
    rfl
  · have hk1 : k < es.length := (List.getElem?_eq_some_iff.mp hk).1
    rw [va_cpy0, va_cpy0, if_pos hk1, if_pos hk1]
    exact he k q hk
end SO
