-- numbers
theorem nI_s (k : Nat) : nI k + 1 = nI (k + 1) := (nI_succ k).symm
theorem nI_lti {a b : Nat} (ha : a < 2 ^ 31) (hb : b < 2 ^ 31) : nI a < nI b ↔ a < b := Int32.ofNat_lt_iff_lt ha hb
theorem nI_lei {a b : Nat} (ha : a < 2 ^ 31) (hb : b < 2 ^ 31) : nI a ≤ nI b ↔ a ≤ b := Int32.ofNat_le_iff_le ha hb
theorem nI_eqi {a b : Nat} (ha : a < 2 ^ 31) (hb : b < 2 ^ 31) : nI a = nI b ↔ a = b := by
  constructor
  · intro h
    have := congrArg Int32.toNatClampNeg h
    rw [nI_clamp ha, nI_clamp hb] at this
    exact this
  · intro h
    rw [h]
theorem nI_p (k : Nat) : nI (k + 1) - 1 = nI k := nI_pred k
theorem nI_at {x : Int32} (h : ¬ x < 0) : nI x.toNatClampNeg = x := Int32.ofNat_toNatClampNeg x (Int32.not_lt.mp h)
theorem nI_lt100 {x : Int32} (h0 : ¬ x < 0) (h : x < 100) : x.toNatClampNeg < 100 := by
  rw [← nI_at h0] at h
  have h1 : x.toNatClampNeg < 2 ^ 31 := Int32.toNatClampNeg_lt x
  exact (nI_lti h1 (by decide)).mp (show nI x.toNatClampNeg < nI 100 from h)
-- reading and writing what is known
section RD
variable {S : mc_S} {a t n ci k : Nat}
theorem rdI_at {fs : List Value} {v : Int32} (h : S.1 a = some (.inr (ci, fs))) (hv : fs[k]? = some (.int v)) : rdI S (some a) ci k = some v := by
  simp [rdI, rdV, h, hv, mv_I]
theorem rdR_at {fs : List Value} {b : Nat} (h : S.1 a = some (.inr (ci, fs))) (hv : fs[k]? = some (.ref b)) : rdR S (some a) ci k = some (some b) := by
  simp [rdR, rdV, h, hv, mv_R]
theorem rdR_nl {fs : List Value} (h : S.1 a = some (.inr (ci, fs))) (hv : fs[k]? = some .null) : rdR S (some a) ci k = some none := by
  simp [rdR, rdV, h, hv, mv_R]
theorem rdR_rf {fs : List Value} {r : Option Nat} (h : S.1 a = some (.inr (ci, fs))) (hv : fs[k]? = some (va_rf r)) : rdR S (some a) ci k = some r := by
  cases r with
  | none => exact rdR_nl h hv
  | some b => exact rdR_at h hv
theorem wr_at {fs : List Value} {v : Value} (h : S.1 a = some (.inr (ci, fs))) (hk : k < fs.length) : wrV S (some a) ci k v = some (va_up S.1 a (some (.inr (ci, fs.set k v))), S.2) := by
  simp [wrV, h, hk]
theorem rcv_at {fs : List Value} (h : S.1 a = some (.inr (ci, fs))) : rcv S (some a) ci = some a := by
  simp [rcv, h]
theorem arr_at {x : vp_A} (h : S.1 a = some (.inl (t, x))) : arr S (some a) t = some x := by
  simp [arr, h]
theorem ldI_at {f : Nat → Int32} (h : S.1 a = some (.inl (t, n, .inl f))) (hk : k < n) (hn : n < 2 ^ 31) : ldI S (some a) t (nI k) = some (f k) := by
  have h1 : k < 2 ^ 31 := Nat.lt_trans hk hn
  simp only [ldI, arr_at h, nI_clamp h1]
  rw [if_pos ⟨nI_pos h1, hk⟩]
theorem ldL_at {f : Nat → Int64} (h : S.1 a = some (.inl (t, n, .inr (.inl f)))) (hk : k < n) (hn : n < 2 ^ 31) : ldL S (some a) t (nI k) = some (f k) := by
  have h1 : k < 2 ^ 31 := Nat.lt_trans hk hn
  simp only [ldL, arr_at h, nI_clamp h1]
  rw [if_pos ⟨nI_pos h1, hk⟩]
theorem ldR_at {f : Nat → Option Nat} (h : S.1 a = some (.inl (t, n, .inr (.inr (.inr (.inr f)))))) (hk : k < n) (hn : n < 2 ^ 31) : ldR S (some a) t (nI k) = some (f k) := by
  have h1 : k < 2 ^ 31 := Nat.lt_trans hk hn
  simp only [ldR, arr_at h, nI_clamp h1]
  rw [if_pos ⟨nI_pos h1, hk⟩]
theorem alen_at {x : vp_A} (h : S.1 a = some (.inl (t, x))) : alen S (some a) t = some (nI x.1) := by
  simp only [alen, arr_at h]
  rfl
theorem stI_at {f : Nat → Int32} {v : Int32} (h : S.1 a = some (.inl (t, n, .inl f))) (hk : k < n) (hn : n < 2 ^ 31) : stI S (some a) t (nI k) v = some (va_up S.1 a (some (.inl (t, n, .inl (va_up f k v)))), S.2) := by
  have h1 : k < 2 ^ 31 := Nat.lt_trans hk hn
  simp only [stI, arr_at h, nI_clamp h1]
  rw [if_pos ⟨nI_pos h1, hk⟩]
  rfl
theorem stL_at {f : Nat → Int64} {v : Int64} (h : S.1 a = some (.inl (t, n, .inr (.inl f)))) (hk : k < n) (hn : n < 2 ^ 31) : stL S (some a) t (nI k) v = some (va_up S.1 a (some (.inl (t, n, .inr (.inl (va_up f k v))))), S.2) := by
  have h1 : k < 2 ^ 31 := Nat.lt_trans hk hn
  simp only [stL, arr_at h, nI_clamp h1]
  rw [if_pos ⟨nI_pos h1, hk⟩]
  rfl
theorem stR_at {f : Nat → Option Nat} {v : Option Nat} (h : S.1 a = some (.inl (t, n, .inr (.inr (.inr (.inr f)))))) (hv : v = none ∨ rcv S v ci = v) (hk : k < n) (hn : n < 2 ^ 31) : stR S (some a) t ci (nI k) v = some (va_up S.1 a (some (.inl (t, n, .inr (.inr (.inr (.inr (va_up f k v))))))), S.2) := by
  have h1 : k < 2 ^ 31 := Nat.lt_trans hk hn
  simp only [stR, arr_at h, nI_clamp h1]
  rw [if_pos ⟨⟨nI_pos h1, hk⟩, hv⟩]
  rfl
theorem nwA_at {cap : Nat} {z : (Nat → Int32) ⊕ (Nat → Int64) ⊕ (Nat → UInt32) ⊕ (Nat → UInt64) ⊕ (Nat → Option Nat)} (hk : k ≤ cap) (hn : cap < 2 ^ 31) : nwA t cap (nI k) z S = some (va_up S.1 S.2 (some (.inl (t, k, z))), S.2 + 1) := by
  have h1 : k < 2 ^ 31 := Nat.lt_of_le_of_lt hk hn
  simp only [nwA, nI_clamp h1]
  rw [if_pos ⟨nI_pos h1, hk⟩]
theorem cpI_at {b n1 j : Nat} {f g : Nat → Int32} (h : S.1 a = some (.inl (t, n, .inl f))) (h2 : S.1 b = some (.inl (t, n1, .inl g))) (hj : j ≤ n) (hj1 : j ≤ n1) (hn : j < 2 ^ 31) : cpI S (some a) 0 (some b) 0 (nI j) t = some (va_up S.1 b (some (.inl (t, n1, .inl (va_cpy f g 0 0 j)))), S.2) := by
  have e0 : (0 : Int32).toNatClampNeg = 0 := rfl
  simp only [cpI, arr_at h, arr_at h2, nI_clamp hn, e0]
  rw [if_pos ⟨by decide, by decide, nI_pos hn, by omega, by omega⟩]
  rfl
theorem cpL_at {b n1 j : Nat} {f g : Nat → Int64} (h : S.1 a = some (.inl (t, n, .inr (.inl f)))) (h2 : S.1 b = some (.inl (t, n1, .inr (.inl g)))) (hj : j ≤ n) (hj1 : j ≤ n1) (hn : j < 2 ^ 31) : cpL S (some a) 0 (some b) 0 (nI j) t = some (va_up S.1 b (some (.inl (t, n1, .inr (.inl (va_cpy f g 0 0 j))))), S.2) := by
  have e0 : (0 : Int32).toNatClampNeg = 0 := rfl
  simp only [cpL, arr_at h, arr_at h2, nI_clamp hn, e0]
  rw [if_pos ⟨by decide, by decide, nI_pos hn, by omega, by omega⟩]
  rfl
theorem obind {α β : Type} (x : α) (f : α → Option β) : (some x).bind f = f x := rfl
theorem va_cpy0 {α : Type} (f g : Nat → α) (n k : Nat) : va_cpy f g 0 0 n k = if k < n then f k else g k := by
  unfold va_cpy
  by_cases h : k < n
  · rw [if_pos ⟨Nat.zero_le _, by omega⟩, if_pos h]
    congr 1
    omega
  · rw [if_neg (by omega), if_neg h]
end RD
section RP
variable {M : mc_M} {z a b t n ci k : Nat}
theorem up_ne {x : Option mc_E} {y : Option mc_E} (h : b ≠ a) (hb : M b = y) : va_up M a x b = y := by rw [va_up_ne _ _ h, hb]
theorem up_eq {x : Option mc_E} : va_up M a x a = x := va_up_self _ _ _
theorem rdI_p {fs : List Value} {v : Int32} (h : M a = some (.inr (ci, fs))) (hv : fs[k]? = some (.int v)) : rdI (M, z) (some a) ci k = some v := rdI_at (S := (M, z)) h hv
theorem rdR_p {fs : List Value} (h : M a = some (.inr (ci, fs))) (hv : fs[k]? = some (.ref b)) : rdR (M, z) (some a) ci k = some (some b) := rdR_at (S := (M, z)) h hv
theorem rdRf_p {fs : List Value} {r : Option Nat} (h : M a = some (.inr (ci, fs))) (hv : fs[k]? = some (va_rf r)) : rdR (M, z) (some a) ci k = some r := rdR_rf (S := (M, z)) h hv
theorem wr_p {fs : List Value} {v : Value} (h : M a = some (.inr (ci, fs))) (hk : k < fs.length) : wrV (M, z) (some a) ci k v = some (va_up M a (some (.inr (ci, fs.set k v))), z) := wr_at (S := (M, z)) h hk
theorem rcv_p {fs : List Value} (h : M a = some (.inr (ci, fs))) : rcv (M, z) (some a) ci = some a := rcv_at (S := (M, z)) h
theorem ldI_p {f : Nat → Int32} (h : M a = some (.inl (t, n, .inl f))) (hk : k < n) (hn : n < 2 ^ 31) : ldI (M, z) (some a) t (nI k) = some (f k) := ldI_at (S := (M, z)) h hk hn
theorem ldL_p {f : Nat → Int64} (h : M a = some (.inl (t, n, .inr (.inl f)))) (hk : k < n) (hn : n < 2 ^ 31) : ldL (M, z) (some a) t (nI k) = some (f k) := ldL_at (S := (M, z)) h hk hn
theorem ldR_p {f : Nat → Option Nat} (h : M a = some (.inl (t, n, .inr (.inr (.inr (.inr f)))))) (hk : k < n) (hn : n < 2 ^ 31) : ldR (M, z) (some a) t (nI k) = some (f k) := ldR_at (S := (M, z)) h hk hn
theorem alen_p {x : vp_A} (h : M a = some (.inl (t, x))) : alen (M, z) (some a) t = some (nI x.1) := alen_at (S := (M, z)) h
theorem stI_p {f : Nat → Int32} {v : Int32} (h : M a = some (.inl (t, n, .inl f))) (hk : k < n) (hn : n < 2 ^ 31) : stI (M, z) (some a) t (nI k) v = some (va_up M a (some (.inl (t, n, .inl (va_up f k v)))), z) := stI_at (S := (M, z)) h hk hn
theorem stL_p {f : Nat → Int64} {v : Int64} (h : M a = some (.inl (t, n, .inr (.inl f)))) (hk : k < n) (hn : n < 2 ^ 31) : stL (M, z) (some a) t (nI k) v = some (va_up M a (some (.inl (t, n, .inr (.inl (va_up f k v))))), z) := stL_at (S := (M, z)) h hk hn
theorem stR_p {f : Nat → Option Nat} {v : Option Nat} (h : M a = some (.inl (t, n, .inr (.inr (.inr (.inr f)))))) (hv : v = none ∨ rcv (M, z) v ci = v) (hk : k < n) (hn : n < 2 ^ 31) : stR (M, z) (some a) t ci (nI k) v = some (va_up M a (some (.inl (t, n, .inr (.inr (.inr (.inr (va_up f k v))))))), z) := stR_at (S := (M, z)) h hv hk hn
theorem nwA_p {cap : Nat} {w : (Nat → Int32) ⊕ (Nat → Int64) ⊕ (Nat → UInt32) ⊕ (Nat → UInt64) ⊕ (Nat → Option Nat)} (hk : k ≤ cap) (hn : cap < 2 ^ 31) : nwA t cap (nI k) w (M, z) = some (va_up M z (some (.inl (t, k, w))), z + 1) := nwA_at (S := (M, z)) hk hn
end RP
def pNIL : Int64 := 1099511627776
abbrev pe : Type := Int32 × Int64
abbrev pO : Type := Option (Int32 × List pe)
abbrev pS : Type := (Nat → pO) × List pe
def pIdx (es : List pe) (nm : Int32) : Nat := es.findIdx (fun q => q.1 == nm)
def pLook (es : List pe) (nm : Int32) : Int64 := match es[pIdx es nm]? with
  | some q => q.2
  | none => pNIL
def pAsg (es : List pe) (cap : Nat) (nm : Int32) (v : Int64) : Int32 × List pe :=
  if v = pNIL then (nI (es.eraseIdx (pIdx es nm)).length, es.eraseIdx (pIdx es nm))
  else if pIdx es nm = es.length then (if cap ≤ es.length then (-3, es) else (nI (es.length + 1), es ++ [(nm, v)]))
  else (nI es.length, es.set (pIdx es nm) (nm, v))
def pHas (P : pS) (v : Int32) : Prop := ¬ v < 0 ∧ v < 100 ∧ ¬ P.1 v.toNatClampNeg = none
def pFind (P : pS) (o form : Int32) : Option (List pe) := if ¬ o < 0 ∧ o < 100 then (match P.1 o.toNatClampNeg with
  | some q => if q.1 = form then some q.2 else none
  | none => none) else none
noncomputable def pVal (P : pS) (sort v : Int32) : Option Int64 := if sort = 0 then some pNIL else if sort = 1 then some v.toInt64 else if sort = 2 then (@ite _ (pHas P v) (Classical.propDecidable _) (some (pNIL + 1 + v.toInt64)) none) else none
def pPut (P : pS) (o form : Int32) (es : List pe) : pS := (va_up P.1 o.toNatClampNeg (some (form, es)), P.2)
def pFree (P : pS) : Nat → Nat → Nat
  | 0, k => k
  | d + 1, k => if P.1 k = none then k else pFree P d (k + 1)
noncomputable def pSet (P : pS) (o nm sort v : Int32) : Int32 × pS := match pVal P sort v, pFind P o 1 with
  | some x, some es => ((pAsg es 8 nm x).1, pPut P o 1 (pAsg es 8 nm x).2)
  | _, _ => (-1, P)
def pGet (P : pS) (o nm : Int32) : Int64 := match pFind P o 1 with
  | some es => pLook es nm
  | none => -pNIL
noncomputable def pPush (P : pS) (o sort v : Int32) : Int32 × pS := match pVal P sort v, pFind P o 2 with
  | some x, some es => if 20 ≤ es.length then (-3, P) else (nI (es.length + 1), pPut P o 2 (es ++ [(0, x)]))
  | _, _ => (-1, P)
def pPop (P : pS) (o : Int32) : Int64 × pS := match pFind P o 2 with
  | some es => (match es.getLast? with
    | some q => (q.2, pPut P o 2 es.dropLast)
    | none => (-pNIL, P))
  | none => (-pNIL, P)
def pIn (k : Int32) (n : Nat) : Prop := ¬ k < 0 ∧ k.toNatClampNeg < n
noncomputable def pPutAt (P : pS) (o k sort v : Int32) : Int32 × pS := match pVal P sort v, pFind P o 2 with
  | some x, some es => @ite _ (pIn k es.length) (Classical.propDecidable _) (0, pPut P o 2 (es.set k.toNatClampNeg (0, x))) (-1, P)
  | _, _ => (-1, P)
noncomputable def pItem (P : pS) (o k : Int32) : Int64 := match pFind P o 2 with
  | some es => @ite _ (pIn k es.length) (Classical.propDecidable _) ((es.getD k.toNatClampNeg (0, 0)).2) (-pNIL)
  | none => -pNIL
noncomputable def pRoot (P : pS) (nm sort v : Int32) : Int32 × pS := match pVal P sort v with
  | some x => ((pAsg P.2 12 nm x).1, (P.1, (pAsg P.2 12 nm x).2))
  | none => (-1, P)
def pMake (P : pS) (row : Int32) : Int32 × pS := if pFree P 100 0 < 100 then (nI (pFree P 100 0), (va_up P.1 (pFree P 100 0) (some (if row = 0 then 1 else 2, [])), P.2)) else (-3, P)
noncomputable def pCnt (P : pS) : Nat := (List.range 100).countP (fun o => (P.1 o).isSome)
noncomputable def pDif (P B : pS) : Nat := (List.range 100).countP (fun o => @decide (¬ P.1 o = none ∧ ¬ P.1 o = B.1 o) (Classical.propDecidable _))
def pNmd (P B : pS) : Nat := P.2.countP (fun q => pLook B.2 q.1 != q.2) + B.2.countP (fun q => pLook P.2 q.1 == pNIL)
noncomputable def pByt (P B : pS) : Nat := 16 * pDif P B + 6 * pNmd P B
-- what is reached
def pRef (es : List pe) (o : Nat) : Prop := ∃ q ∈ es, q.2 = pNIL + 1 + Int64.ofNat o
def pCl (P : pS) (T : Nat → Prop) : Prop := (∀ o, o < 100 → pRef P.2 o → T o) ∧ ∀ (a : Nat) (q : Int32 × List pe), a < 100 → T a → P.1 a = some q → ∀ o, o < 100 → pRef q.2 o → T o
def pRch (P : pS) (o : Nat) : Prop := ∀ T : Nat → Prop, pCl P T → T o
noncomputable def pSw (P : pS) : pS := (fun o => @ite pO (pRch P o) (Classical.propDecidable _) (P.1 o) none, P.2)
noncomputable def pGone (P : pS) : Nat := (List.range 100).countP (fun o => @decide (¬ P.1 o = none ∧ ¬ pRch P o) (Classical.propDecidable _))
-- the whole: now, safe, what waits (the first first) with its bytes, the log's bytes
abbrev pX : Type := pS × pS × List (pS × Nat) × Int32
def pKept (X : pX) : pS := match X.2.2.1.getLast? with
  | some q => q.1
  | none => X.2.1
def pKeep (X : pX) (b : Nat) : pX := match X.2.2.1 with
  | [] => (X.1, X.2.1, [(X.1, b)], X.2.2.2 + nI b)
  | q :: ws => if ws.length = 7 then (X.1, q.1, ws ++ [(X.1, b)], X.2.2.2 + nI b) else (X.1, X.2.1, q :: ws ++ [(X.1, b)], X.2.2.2 + nI b)
noncomputable def pCommit (X : pX) : Int32 × pX := (nI (8 + pByt X.1 (pKept X)), pKeep X (8 + pByt X.1 (pKept X)))
noncomputable def pUndo (X : pX) : Int32 × pX := (nI (pByt X.1 (pKept X)), (pKept X, X.2))
noncomputable def pSweep (X : pX) : Int32 × pX := if 0 < pGone (pKept X) then (nI (pGone (pKept X)), pKeep (pSw (pKept X), X.2) 8) else (0, (pKept X, X.2))
def pSync (X : pX) : Int32 × pX := (nI X.2.2.1.length, (X.1, pKept X, [], X.2.2.2))
def pLeft : List (pS × Nat) → Nat → Nat
  | [], _ => 0
  | q :: ws, n => if q.2 ≤ n then pLeft ws (n - q.2) + 1 else 0
def pLost (l : List (pS × Nat)) (lg : Int32) : Int32 := l.foldl (fun x q => x - nI q.2) lg
def pCrash (X : pX) (n : Int32) : Int32 × pX :=
  if n < 0 then (-1, X)
  else (nI (pLeft X.2.2.1 n.toNatClampNeg), (pKept (X.1, X.2.1, X.2.2.1.take (pLeft X.2.2.1 n.toNatClampNeg), X.2.2.2), pKept (X.1, X.2.1, X.2.2.1.take (pLeft X.2.2.1 n.toNatClampNeg), X.2.2.2), [], pLost (X.2.2.1.drop (pLeft X.2.2.1 n.toNatClampNeg)) X.2.2.2))
def pKind (P : pS) (o : Int32) : Int32 := if ¬ o < 0 ∧ o < 100 then (match P.1 o.toNatClampNeg with
  | some q => q.1
  | none => 0) else -1
def pSize (P : pS) (o : Int32) : Int32 := if ¬ o < 0 ∧ o < 100 then (match P.1 o.toNatClampNeg with
  | some q => nI q.2.length
  | none => -1) else -1
noncomputable def pCount (X : pX) (w : Int32) : Int32 := if w = 0 then nI (pCnt X.1) else if w = 1 then nI X.1.2.length else if w = 2 then nI X.2.2.1.length else if w = 3 then X.2.2.2 else -1
-- what is always so of a state
def pOkV (P : pS) (v : Int64) : Prop := v = pNIL ∨ (∃ i : Int32, v = i.toInt64) ∨ ∃ o : Nat, o < 100 ∧ v = pNIL + 1 + Int64.ofNat o ∧ ¬ P.1 o = none
def pWf (P : pS) : Prop := (∀ (o : Nat) (q : Int32 × List pe), o < 100 → P.1 o = some q → (q.1 = 1 ∧ q.2.length ≤ 8 ∨ q.1 = 2 ∧ q.2.length ≤ 20 ∧ ∀ z ∈ q.2, z.1 = 0) ∧ ∀ z ∈ q.2, pOkV P z.2) ∧ P.2.length ≤ 12 ∧ (P.2.map (fun q => q.1)).Nodup ∧ ∀ z ∈ P.2, pOkV P z.2 ∧ ¬ z.2 = pNIL
def pWX (X : pX) : Prop := pWf X.1 ∧ pWf X.2.1 ∧ (∀ q ∈ X.2.2.1, pWf q.1 ∧ q.2 ≤ 4000) ∧ X.2.2.1.length ≤ 8
