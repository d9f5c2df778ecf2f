abbrev mc_E : Type := (Nat × vp_A) ⊕ (Nat × List Value)
abbrev mc_M : Type := Nat → Option mc_E
abbrev mc_S : Type := mc_M × Nat
def mw_tr (dA : Nat → ClassId) (x : mc_E) : va_E := match x with
  | .inl a => .inl (dA a.1, a.2)
  | .inr o => .inr o
def mw_P (D : va_G) (dA : Nat → ClassId) (cl : List vw_C) (M : mc_M) (H : Heap) : Prop := ∀ (a : Nat) (x : mc_E), M a = some x → va_at D cl (a, mw_tr dA x) H
def mw_I (D : va_G) (dA : Nat → ClassId) (cl : List vw_C) (A : Nat → Prop) (S : mc_S) (H0 H : Heap) (locs : List Loc) : Prop := mw_P D dA cl S.1 H ∧ H.size = S.2 ∧ (∀ (a : Nat) (x : mc_E), S.1 a = some x → A a) ∧ (∀ q : Nat, H0.size ≤ q → A q) ∧ va_S A H0 H locs
abbrev mw_Z : Type := List (String × Nat × MethodName × String) × List String
def mw_K (D : va_G) (cl : List vw_C) (tys : List (ClassId × FieldType)) (Z : mw_Z) (U : State) : Prop := va_K D cl tys U ∧ (∀ z ∈ Z.1, va_Nw (.methodLinkNest z.1 z.2.1 z.2.2.1 z.2.2.2) U) ∧ ∀ C ∈ Z.2, va_AO C U
def mw_B (D : va_G) (dA : Nat → ClassId) (cl : List vw_C) (tys : List (ClassId × FieldType)) (Z : mw_Z) (A : Nat → Prop) (S : mc_S) (U : State) : Prop := mw_P D dA cl S.1 U.heap ∧ U.heap.size = S.2 ∧ (∀ (a : Nat) (x : mc_E), S.1 a = some x → A a) ∧ (∀ q : Nat, S.2 ≤ q → A q) ∧ mw_K D cl tys Z U
def mw_R (D : va_G) (dA : Nat → ClassId) (cl : List vw_C) (A : Nat → Prop) (S : mc_S) (t : State) : Prop := mw_P D dA cl S.1 t.heap ∧ t.heap.size = S.2 ∧ ∀ (a : Nat) (x : mc_E), S.1 a = some x → A a
theorem mw_K.warm {D : va_G} {cl : List vw_C} {tys : List (ClassId × FieldType)} {Z : mw_Z} {s U : State} (hW : s.WarmedH U.vm) (h : mw_K D cl tys Z s) : mw_K D cl tys Z U := ⟨va_K.moved hW.alike h.1, fun z hz => va_Nw.warmM hW (h.2.1 z hz), fun C hC => (h.2.2 C hC).moved hW.alike⟩
theorem mw_K.same {D : va_G} {cl : List vw_C} {tys : List (ClassId × FieldType)} {Z : mw_Z} {u U : State} (hv : u.vm = U.vm) (h : mw_K D cl tys Z u) : mw_K D cl tys Z U := ⟨va_K.moved (u := u) (U := U) (by rw [hv]; exact Vm.Alike.refl U.vm) h.1, fun z hz => va_Nw.same rfl hv (h.2.1 z hz), fun C hC => (h.2.2 C hC).moved (by rw [hv]; exact Vm.Alike.refl U.vm)⟩
theorem mw_P.lt {D : va_G} {dA : Nat → ClassId} {cl : List vw_C} {M : mc_M} {H : Heap} (h : mw_P D dA cl M H) {a : Nat} {x : mc_E} (ha : M a = some x) : a < H.size := (h a x ha).lt
theorem mw_I.set {D : va_G} {dA : Nat → ClassId} {cl : List vw_C} {A : Nat → Prop} {S : mc_S} {H0 H H1 : Heap} {locs : List Loc} (h : mw_I D dA cl A S H0 H locs) {a k : Nat} {x0 x1 : mc_E} (ha : S.1 a = some x0) (hx : va_at D cl (a, mw_tr dA x1) H1) (z : H1.size = H.size) (oq : ∀ q : Nat, q ≠ a → H1[q]? = H[q]?) : mw_I D dA cl A (va_up S.1 a (some x1), S.2) H0 H1 (locs ++ [⟨a, k⟩]) := by
  obtain ⟨hP, hz, hA, hN, hS⟩ := h
  refine ⟨fun b y hb => ?_, z.trans hz, fun b y hb => ?_, hN, hS.put z oq (hA a x0 ha)⟩
  · by_cases hba : b = a
    · subst hba
      have hb : va_up S.1 b (some x1) b = some y := hb
      rw [va_up_self] at hb
      cases hb
      exact hx
    · have hb : va_up S.1 a (some x1) b = some y := hb
      rw [va_up_ne _ _ hba] at hb
      exact (hP b y hb).kept (oq b hba)
  · by_cases hba : b = a
    · subst hba
      exact hA b x0 ha
    · have hb : va_up S.1 a (some x1) b = some y := hb
      rw [va_up_ne _ _ hba] at hb
      exact hA b y hb
theorem mw_I.push {D : va_G} {dA : Nat → ClassId} {cl : List vw_C} {A : Nat → Prop} {S : mc_S} {H0 H H1 : Heap} {locs : List Loc} (h : mw_I D dA cl A S H0 H locs) {x1 : mc_E} (hx : va_at D cl (S.2, mw_tr dA x1) H1) (z : H1.size = H.size + 1) (o1 : ∀ q : Nat, q < H.size → H1[q]? = H[q]?) : mw_I D dA cl A (va_up S.1 S.2 (some x1), S.2 + 1) H0 H1 locs := by
  obtain ⟨hP, hz, hA, hN, hS⟩ := h
  have hsz : A S.2 := hN S.2 (by rw [← hz]; exact hS.1)
  refine ⟨fun b y hb => ?_, by show H1.size = S.2 + 1; omega, fun b y hb => ?_, hN, ⟨Nat.le_trans hS.1 (by omega), fun q h1 h2 => (o1 q (Nat.lt_of_lt_of_le h1 hS.1)).trans (hS.2.1 q h1 h2), hS.2.2⟩⟩
  · have hb : va_up S.1 S.2 (some x1) b = some y := hb
    by_cases hba : b = S.2
    · subst hba
      rw [va_up_self] at hb
      cases hb
      exact hx
    · rw [va_up_ne _ _ hba] at hb
      exact (hP b y hb).kept (o1 b (hP.lt hb))
  · have hb : va_up S.1 S.2 (some x1) b = some y := hb
    by_cases hba : b = S.2
    · subst hba
      exact hsz
    · rw [va_up_ne _ _ hba] at hb
      exact hA b y hb
theorem mw_bind {α β : Type} {x : Option α} {f : α → Option β} {y : β} (h : x.bind f = some y) : ∃ a : α, x = some a ∧ f a = some y := Option.bind_eq_some_iff.mp h
def mv_I (v : Value) : Option Int32 := match v with
  | .int x => some x
  | _ => none
def mv_R (v : Value) : Option (Option Nat) := match v with
  | .null => some none
  | .ref a => some (some a)
  | _ => none
def rdV (S : mc_S) (r : Option Nat) (ci k : Nat) : Option Value := match r with
  | none => none
  | some a => match S.1 a with
    | some (.inr o) => if o.1 = ci then o.2[k]? else none
    | _ => none
def rdI (S : mc_S) (r : Option Nat) (ci k : Nat) : Option Int32 := (rdV S r ci k).bind mv_I
def rdR (S : mc_S) (r : Option Nat) (ci k : Nat) : Option (Option Nat) := (rdV S r ci k).bind mv_R
def wrV (S : mc_S) (r : Option Nat) (ci k : Nat) (v : Value) : Option mc_S := match r with
  | none => none
  | some a => match S.1 a with
    | some (.inr o) => if o.1 = ci ∧ k < o.2.length then some (va_up S.1 a (some (.inr (ci, o.2.set k v))), S.2) else none
    | _ => none
def rcv (S : mc_S) (r : Option Nat) (ci : Nat) : Option Nat := match r with
  | none => none
  | some a => match S.1 a with
    | some (.inr o) => if o.1 = ci then some a else none
    | _ => none
def arr (S : mc_S) (r : Option Nat) (t : Nat) : Option vp_A := match r with
  | none => none
  | some a => match S.1 a with
    | some (.inl x) => if x.1 = t then some x.2 else none
    | _ => none
def aix (i : Int32) (n : Nat) : Prop := ¬ i < 0 ∧ i.toNatClampNeg < n
def ldI (S : mc_S) (r : Option Nat) (t : Nat) (i : Int32) : Option Int32 := match arr S r t with
  | some (n, .inl f) => if ¬ i < 0 ∧ i.toNatClampNeg < n then some (f i.toNatClampNeg) else none
  | _ => none
def ldL (S : mc_S) (r : Option Nat) (t : Nat) (i : Int32) : Option Int64 := match arr S r t with
  | some (n, .inr (.inl f)) => if ¬ i < 0 ∧ i.toNatClampNeg < n then some (f i.toNatClampNeg) else none
  | _ => none
def ldR (S : mc_S) (r : Option Nat) (t : Nat) (i : Int32) : Option (Option Nat) := match arr S r t with
  | some (n, .inr (.inr (.inr (.inr f)))) => if ¬ i < 0 ∧ i.toNatClampNeg < n then some (f i.toNatClampNeg) else none
  | _ => none
def alen (S : mc_S) (r : Option Nat) (t : Nat) : Option Int32 := (arr S r t).map (fun x => Int32.ofNat x.1)
def stA (S : mc_S) (r : Option Nat) (x : mc_E) : mc_S := match r with
  | none => S
  | some a => (va_up S.1 a (some x), S.2)
def stI (S : mc_S) (r : Option Nat) (t : Nat) (i v : Int32) : Option mc_S := match arr S r t with
  | some (n, .inl f) => if ¬ i < 0 ∧ i.toNatClampNeg < n then some (stA S r (.inl (t, n, .inl (va_up f i.toNatClampNeg v)))) else none
  | _ => none
def stL (S : mc_S) (r : Option Nat) (t : Nat) (i : Int32) (v : Int64) : Option mc_S := match arr S r t with
  | some (n, .inr (.inl f)) => if ¬ i < 0 ∧ i.toNatClampNeg < n then some (stA S r (.inl (t, n, .inr (.inl (va_up f i.toNatClampNeg v))))) else none
  | _ => none
def stR (S : mc_S) (r : Option Nat) (t ci : Nat) (i : Int32) (v : Option Nat) : Option mc_S := match arr S r t with
  | some (n, .inr (.inr (.inr (.inr f)))) => if (¬ i < 0 ∧ i.toNatClampNeg < n) ∧ (v = none ∨ rcv S v ci = v) then some (stA S r (.inl (t, n, .inr (.inr (.inr (.inr (va_up f i.toNatClampNeg v))))))) else none
  | _ => none
def nwO (ci : Nat) (fs : List Value) (S : mc_S) : mc_S := (va_up S.1 S.2 (some (.inr (ci, fs))), S.2 + 1)
def nwA (t cap : Nat) (n : Int32) (z : (Nat → Int32) ⊕ (Nat → Int64) ⊕ (Nat → UInt32) ⊕ (Nat → UInt64) ⊕ (Nat → Option Nat)) (S : mc_S) : Option mc_S := if ¬ n < 0 ∧ n.toNatClampNeg ≤ cap then some (va_up S.1 S.2 (some (.inl (t, n.toNatClampNeg, z))), S.2 + 1) else none
def cpI (S : mc_S) (r0 : Option Nat) (sp : Int32) (r1 : Option Nat) (dp n : Int32) (t : Nat) : Option mc_S := match arr S r0 t, arr S r1 t with
  | some (n0, .inl f), some (n1, .inl g) => if ¬ sp < 0 ∧ ¬ dp < 0 ∧ ¬ n < 0 ∧ sp.toNatClampNeg + n.toNatClampNeg ≤ n0 ∧ dp.toNatClampNeg + n.toNatClampNeg ≤ n1 then some (stA S r1 (.inl (t, n1, .inl (va_cpy f g sp.toNatClampNeg dp.toNatClampNeg n.toNatClampNeg)))) else none
  | _, _ => none
def cpL (S : mc_S) (r0 : Option Nat) (sp : Int32) (r1 : Option Nat) (dp n : Int32) (t : Nat) : Option mc_S := match arr S r0 t, arr S r1 t with
  | some (n0, .inr (.inl f)), some (n1, .inr (.inl g)) => if ¬ sp < 0 ∧ ¬ dp < 0 ∧ ¬ n < 0 ∧ sp.toNatClampNeg + n.toNatClampNeg ≤ n0 ∧ dp.toNatClampNeg + n.toNatClampNeg ≤ n1 then some (stA S r1 (.inl (t, n1, .inr (.inl (va_cpy f g sp.toNatClampNeg dp.toNatClampNeg n.toNatClampNeg))))) else none
  | _, _ => none
def scI (L : Nat) (xs : Nat → Int32) (i : Int32) : Option Int32 := if ¬ i < 0 ∧ i.toNatClampNeg < L then some (xs i.toNatClampNeg) else none
theorem mv_I_inv {v : Value} {x : Int32} (h : mv_I v = some x) : v = .int x := by
  cases v <;> simp [mv_I] at h
  rw [h]
theorem mv_R_inv {v : Value} {x : Option Nat} (h : mv_R v = some x) : v = va_rf x := by
  cases v <;> simp [mv_R] at h <;> subst h <;> rfl
theorem rdV_inv {S : mc_S} {r : Option Nat} {ci k : Nat} {v : Value} (h : rdV S r ci k = some v) : ∃ (a : Nat) (fs : List Value), r = some a ∧ S.1 a = some (.inr (ci, fs)) ∧ fs[k]? = some v := by
  cases r with
  | none => simp [rdV] at h
  | some a =>
    cases e : S.1 a with
    | none => simp [rdV, e] at h
    | some x =>
      cases x with
      | inl y => simp [rdV, e] at h
      | inr o =>
        obtain ⟨c, fs⟩ := o
        simp only [rdV, e] at h
        by_cases hc : c = ci
        · subst hc
          rw [if_pos rfl] at h
          exact ⟨a, fs, rfl, e, h⟩
        · rw [if_neg hc] at h
          cases h
theorem wrV_inv {S S1 : mc_S} {r : Option Nat} {ci k : Nat} {v : Value} (h : wrV S r ci k v = some S1) : ∃ (a : Nat) (fs : List Value), r = some a ∧ S.1 a = some (.inr (ci, fs)) ∧ k < fs.length ∧ S1 = (va_up S.1 a (some (.inr (ci, fs.set k v))), S.2) := by
  cases r with
  | none => simp [wrV] at h
  | some a =>
    cases e : S.1 a with
    | none => simp [wrV, e] at h
    | some x =>
      cases x with
      | inl y => simp [wrV, e] at h
      | inr o =>
        obtain ⟨c, fs⟩ := o
        simp only [wrV, e] at h
        by_cases hc : c = ci ∧ k < fs.length
        · rw [if_pos hc] at h
          obtain ⟨rfl, hl⟩ := hc
          exact ⟨a, fs, rfl, e, hl, (Option.some.inj h).symm⟩
        · rw [if_neg hc] at h
          cases h
theorem rcv_inv {S : mc_S} {r : Option Nat} {ci b : Nat} (h : rcv S r ci = some b) : r = some b ∧ ∃ fs : List Value, S.1 b = some (.inr (ci, fs)) := by
  cases r with
  | none => simp [rcv] at h
  | some a =>
    cases e : S.1 a with
    | none => simp [rcv, e] at h
    | some x =>
      cases x with
      | inl y => simp [rcv, e] at h
      | inr o =>
        obtain ⟨c, fs⟩ := o
        simp only [rcv, e] at h
        by_cases hc : c = ci
        · subst hc
          rw [if_pos rfl] at h
          cases h
          exact ⟨rfl, fs, e⟩
        · rw [if_neg hc] at h
          cases h
theorem arr_inv {S : mc_S} {r : Option Nat} {t : Nat} {x : vp_A} (h : arr S r t = some x) : ∃ a : Nat, r = some a ∧ S.1 a = some (.inl (t, x)) := by
  cases r with
  | none => simp [arr] at h
  | some a =>
    cases e : S.1 a with
    | none => simp [arr, e] at h
    | some y =>
      cases y with
      | inr o => simp [arr, e] at h
      | inl o =>
        obtain ⟨c, y⟩ := o
        simp only [arr, e] at h
        by_cases hc : c = t
        · subst hc
          rw [if_pos rfl] at h
          cases h
          exact ⟨a, rfl, e⟩
        · rw [if_neg hc] at h
          cases h
theorem mw_ino {i : Int32} {n : Nat} (hc : ¬ i < 0 ∧ i.toNatClampNeg < n) : vp_in i n := fun q => q.elim hc.1 (fun h => Nat.not_le.mpr hc.2 h)
theorem ldI_inv {S : mc_S} {r : Option Nat} {t : Nat} {i v : Int32} (h : ldI S r t i = some v) : ∃ (a n : Nat) (f : Nat → Int32), r = some a ∧ S.1 a = some (.inl (t, n, .inl f)) ∧ vp_in i n ∧ v = f i.toNatClampNeg := by
  unfold ldI at h
  split at h
  · rename_i n f e
    obtain ⟨a, h1, h2⟩ := arr_inv e
    by_cases hc : ¬ i < 0 ∧ i.toNatClampNeg < n
    · rw [if_pos hc] at h
      exact ⟨a, n, f, h1, h2, mw_ino hc, (Option.some.inj h).symm⟩
    · rw [if_neg hc] at h
      cases h
  · cases h
theorem ldL_inv {S : mc_S} {r : Option Nat} {t : Nat} {i : Int32} {v : Int64} (h : ldL S r t i = some v) : ∃ (a n : Nat) (f : Nat → Int64), r = some a ∧ S.1 a = some (.inl (t, n, .inr (.inl f))) ∧ vp_in i n ∧ v = f i.toNatClampNeg := by
  unfold ldL at h
  split at h
  · rename_i n f e
    obtain ⟨a, h1, h2⟩ := arr_inv e
    by_cases hc : ¬ i < 0 ∧ i.toNatClampNeg < n
    · rw [if_pos hc] at h
      exact ⟨a, n, f, h1, h2, mw_ino hc, (Option.some.inj h).symm⟩
    · rw [if_neg hc] at h
      cases h
  · cases h
theorem ldR_inv {S : mc_S} {r : Option Nat} {t : Nat} {i : Int32} {v : Option Nat} (h : ldR S r t i = some v) : ∃ (a n : Nat) (f : Nat → Option Nat), r = some a ∧ S.1 a = some (.inl (t, n, .inr (.inr (.inr (.inr f))))) ∧ vp_in i n ∧ v = f i.toNatClampNeg := by
  unfold ldR at h
  split at h
  · rename_i n f e
    obtain ⟨a, h1, h2⟩ := arr_inv e
    by_cases hc : ¬ i < 0 ∧ i.toNatClampNeg < n
    · rw [if_pos hc] at h
      exact ⟨a, n, f, h1, h2, mw_ino hc, (Option.some.inj h).symm⟩
    · rw [if_neg hc] at h
      cases h
  · cases h
theorem alen_inv {S : mc_S} {r : Option Nat} {t : Nat} {v : Int32} (h : alen S r t = some v) : ∃ (a : Nat) (x : vp_A), r = some a ∧ S.1 a = some (.inl (t, x)) ∧ v = Int32.ofNat x.1 := by
  unfold alen at h
  cases e : arr S r t with
  | none => rw [e] at h; cases h
  | some x =>
    rw [e] at h
    obtain ⟨a, h1, h2⟩ := arr_inv e
    exact ⟨a, x, h1, h2, (Option.some.inj h).symm⟩
theorem stI_inv {S S1 : mc_S} {r : Option Nat} {t : Nat} {i v : Int32} (h : stI S r t i v = some S1) : ∃ (a n : Nat) (f : Nat → Int32), r = some a ∧ S.1 a = some (.inl (t, n, .inl f)) ∧ vp_in i n ∧ S1 = (va_up S.1 a (some (.inl (t, n, .inl (va_up f i.toNatClampNeg v)))), S.2) := by
  unfold stI at h
  split at h
  · rename_i n f e
    obtain ⟨a, h1, h2⟩ := arr_inv e
    subst h1
    by_cases hc : ¬ i < 0 ∧ i.toNatClampNeg < n
    · rw [if_pos hc] at h
      exact ⟨a, n, f, rfl, h2, mw_ino hc, (Option.some.inj h).symm⟩
    · rw [if_neg hc] at h
      cases h
  · cases h
theorem stL_inv {S S1 : mc_S} {r : Option Nat} {t : Nat} {i : Int32} {v : Int64} (h : stL S r t i v = some S1) : ∃ (a n : Nat) (f : Nat → Int64), r = some a ∧ S.1 a = some (.inl (t, n, .inr (.inl f))) ∧ vp_in i n ∧ S1 = (va_up S.1 a (some (.inl (t, n, .inr (.inl (va_up f i.toNatClampNeg v))))), S.2) := by
  unfold stL at h
  split at h
  · rename_i n f e
    obtain ⟨a, h1, h2⟩ := arr_inv e
    subst h1
    by_cases hc : ¬ i < 0 ∧ i.toNatClampNeg < n
    · rw [if_pos hc] at h
      exact ⟨a, n, f, rfl, h2, mw_ino hc, (Option.some.inj h).symm⟩
    · rw [if_neg hc] at h
      cases h
  · cases h
theorem stR_inv {S S1 : mc_S} {r : Option Nat} {t ci : Nat} {i : Int32} {v : Option Nat} (h : stR S r t ci i v = some S1) : ∃ (a n : Nat) (f : Nat → Option Nat), r = some a ∧ S.1 a = some (.inl (t, n, .inr (.inr (.inr (.inr f))))) ∧ vp_in i n ∧ (∀ y, v = some y → ∃ vs, S.1 y = some (.inr (ci, vs))) ∧ S1 = (va_up S.1 a (some (.inl (t, n, .inr (.inr (.inr (.inr (va_up f i.toNatClampNeg v))))))), S.2) := by
  unfold stR at h
  split at h
  · rename_i n f e
    obtain ⟨a, h1, h2⟩ := arr_inv e
    subst h1
    by_cases hc : (¬ i < 0 ∧ i.toNatClampNeg < n) ∧ (v = none ∨ rcv S v ci = v)
    · rw [if_pos hc] at h
      refine ⟨a, n, f, rfl, h2, fun q => ?_, fun y hy => ?_, (Option.some.inj h).symm⟩
      · exact mw_ino hc.1 q
      · subst hy
        rcases hc.2 with q | q
        · cases q
        · exact (rcv_inv q).2
    · rw [if_neg hc] at h
      cases h
  · cases h
theorem nwA_inv {S S1 : mc_S} {t cap : Nat} {n : Int32} {z : (Nat → Int32) ⊕ (Nat → Int64) ⊕ (Nat → UInt32) ⊕ (Nat → UInt64) ⊕ (Nat → Option Nat)} (h : nwA t cap n z S = some S1) : ¬ n < 0 ∧ n.toNatClampNeg ≤ cap ∧ S1 = (va_up S.1 S.2 (some (.inl (t, n.toNatClampNeg, z))), S.2 + 1) := by
  unfold nwA at h
  by_cases hc : ¬ n < 0 ∧ n.toNatClampNeg ≤ cap
  · rw [if_pos hc] at h
    exact ⟨hc.1, hc.2, (Option.some.inj h).symm⟩
  · rw [if_neg hc] at h
    cases h
theorem cpI_inv {S S1 : mc_S} {r0 r1 : Option Nat} {t : Nat} {sp dp n : Int32} (h : cpI S r0 sp r1 dp n t = some S1) : ∃ (a0 a n0 n1 : Nat) (f g : Nat → Int32), r0 = some a0 ∧ r1 = some a ∧ S.1 a0 = some (.inl (t, n0, .inl f)) ∧ S.1 a = some (.inl (t, n1, .inl g)) ∧ (¬ sp < 0 ∧ ¬ dp < 0 ∧ ¬ n < 0 ∧ sp.toNatClampNeg + n.toNatClampNeg ≤ n0 ∧ dp.toNatClampNeg + n.toNatClampNeg ≤ n1) ∧ S1 = (va_up S.1 a (some (.inl (t, n1, .inl (va_cpy f g sp.toNatClampNeg dp.toNatClampNeg n.toNatClampNeg)))), S.2) := by
  unfold cpI at h
  split at h
  · rename_i n0 f n1 g e0 e1
    obtain ⟨a0, h1, h2⟩ := arr_inv e0
    obtain ⟨a, h3, h4⟩ := arr_inv e1
    subst h1
    subst h3
    by_cases hc : ¬ sp < 0 ∧ ¬ dp < 0 ∧ ¬ n < 0 ∧ sp.toNatClampNeg + n.toNatClampNeg ≤ n0 ∧ dp.toNatClampNeg + n.toNatClampNeg ≤ n1
    · rw [if_pos hc] at h
      exact ⟨a0, a, n0, n1, f, g, rfl, rfl, h2, h4, hc, (Option.some.inj h).symm⟩
    · rw [if_neg hc] at h
      cases h
  · cases h
theorem cpL_inv {S S1 : mc_S} {r0 r1 : Option Nat} {t : Nat} {sp dp n : Int32} (h : cpL S r0 sp r1 dp n t = some S1) : ∃ (a0 a n0 n1 : Nat) (f g : Nat → Int64), r0 = some a0 ∧ r1 = some a ∧ S.1 a0 = some (.inl (t, n0, .inr (.inl f))) ∧ S.1 a = some (.inl (t, n1, .inr (.inl g))) ∧ (¬ sp < 0 ∧ ¬ dp < 0 ∧ ¬ n < 0 ∧ sp.toNatClampNeg + n.toNatClampNeg ≤ n0 ∧ dp.toNatClampNeg + n.toNatClampNeg ≤ n1) ∧ S1 = (va_up S.1 a (some (.inl (t, n1, .inr (.inl (va_cpy f g sp.toNatClampNeg dp.toNatClampNeg n.toNatClampNeg))))), S.2) := by
  unfold cpL at h
  split at h
  · rename_i n0 f n1 g e0 e1
    obtain ⟨a0, h1, h2⟩ := arr_inv e0
    obtain ⟨a, h3, h4⟩ := arr_inv e1
    subst h1
    subst h3
    by_cases hc : ¬ sp < 0 ∧ ¬ dp < 0 ∧ ¬ n < 0 ∧ sp.toNatClampNeg + n.toNatClampNeg ≤ n0 ∧ dp.toNatClampNeg + n.toNatClampNeg ≤ n1
    · rw [if_pos hc] at h
      exact ⟨a0, a, n0, n1, f, g, rfl, rfl, h2, h4, hc, (Option.some.inj h).symm⟩
    · rw [if_neg hc] at h
      cases h
  · cases h
theorem scI_inv {L : Nat} {xs : Nat → Int32} {i v : Int32} (h : scI L xs i = some v) : vp_in i L ∧ v = xs i.toNatClampNeg := by
  unfold scI at h
  by_cases hc : ¬ i < 0 ∧ i.toNatClampNeg < L
  · rw [if_pos hc] at h
    exact ⟨mw_ino hc, (Option.some.inj h).symm⟩
  · rw [if_neg hc] at h
    cases h
section MW
variable {p : Program} {l : Launch} {e : Env} {R : Room} {s : State} {m : MethodId} {args : Array Value} {below : List Frame} {meth : Method} {c : Code} {H : Heap} {locs : List Loc} {cells slots : Nat} {Q : State → Prop}
variable {cc : ByteArray} {pc nL : Nat} {ls : Array Slot} {rest : List Value} {D : va_G} {dA : Nat → ClassId} {cl : List vw_C} {A : Nat → Prop} {tys : List (ClassId × FieldType)} {Z : mw_Z} {H0 : Heap} {S S1 : mc_S} {Ts : List Cond} {own : String} {r : Option Nat}
theorem mw_getV (F : CallFix p m c cc nL s args Ts own) (hK : mw_K D cl tys Z s) (hI : mw_I D dA cl A S H0 H locs) {ref C : String} {T : u_T} {N ci index : Nat} (hin : ∀ w ∈ u_ws C T N, w ∈ Ts) (hc : cl[ci]? = some (C, T, N)) (k : Nat) (hk : k < N) (hlink : Cond.fieldLink own index ref (T k).2.1 (T k).2.2.1 ∈ Ts) (hsame : (T k).1 = ref) {v : Value} (h : rdV S r ci k = some v) (hdg : decode cc pc = .ok (.getfield index, 3))
    (kk : W p l e R s m args below meth c H locs cells slots Q (F0 m (pc + 3) ls (v :: rest))) : W p l e R s m args below meth c H locs cells slots Q (F0 m pc ls (va_rf r :: rest)) := by
  obtain ⟨a, fs, rfl, he, hv⟩ := rdV_inv h
  obtain ⟨hexec, hb, -, hown, hts⟩ := F
  obtain ⟨q, h1, cell, q1, q2, q3, q4⟩ := hI.1 a _ he
  have hr : q = (C, T, N) := Option.some.inj (h1.symm.trans hc)
  subst hr
  obtain ⟨hS, hfc, kC, hkC, hkind⟩ := hK.1.1 ci _ hc
  obtain ⟨cf, kf, fi, f, hi, hsl⟩ := hS k hk
  subst hsame
  refine W.getf hexec hb hown (hts _ hlink) hi (u_facts hfc hkC (u_lays hts hin hk) hi).1 q1 (by rw [q3]; exact fun h => by cases h) (v := v) ?_ rfl rfl hdg kk
  rw [hsl, q4 k hk]
  simp [vp_V, hv]
theorem mw_getI (F : CallFix p m c cc nL s args Ts own) (hK : mw_K D cl tys Z s) (hI : mw_I D dA cl A S H0 H locs) {ref C : String} {T : u_T} {N ci index : Nat} (hin : ∀ w ∈ u_ws C T N, w ∈ Ts) (hc : cl[ci]? = some (C, T, N)) (k : Nat) (hk : k < N) (hlink : Cond.fieldLink own index ref (T k).2.1 (T k).2.2.1 ∈ Ts) (hsame : (T k).1 = ref) {v : Int32} (h : rdI S r ci k = some v) (hdg : decode cc pc = .ok (.getfield index, 3))
    (kk : W p l e R s m args below meth c H locs cells slots Q (F0 m (pc + 3) ls (.int v :: rest))) : W p l e R s m args below meth c H locs cells slots Q (F0 m pc ls (va_rf r :: rest)) := by
  obtain ⟨x, h1, h2⟩ := mw_bind h
  cases mv_I_inv h2
  exact mw_getV F hK hI hin hc k hk hlink hsame h1 hdg kk
theorem mw_getR (F : CallFix p m c cc nL s args Ts own) (hK : mw_K D cl tys Z s) (hI : mw_I D dA cl A S H0 H locs) {ref C : String} {T : u_T} {N ci index : Nat} (hin : ∀ w ∈ u_ws C T N, w ∈ Ts) (hc : cl[ci]? = some (C, T, N)) (k : Nat) (hk : k < N) (hlink : Cond.fieldLink own index ref (T k).2.1 (T k).2.2.1 ∈ Ts) (hsame : (T k).1 = ref) {v : Option Nat} (h : rdR S r ci k = some v) (hdg : decode cc pc = .ok (.getfield index, 3))
    (kk : W p l e R s m args below meth c H locs cells slots Q (F0 m (pc + 3) ls (va_rf v :: rest))) : W p l e R s m args below meth c H locs cells slots Q (F0 m pc ls (va_rf r :: rest)) := by
  obtain ⟨x, h1, h2⟩ := mw_bind h
  rw [← mv_R_inv h2] at kk
  exact mw_getV F hK hI hin hc k hk hlink hsame h1 hdg kk
theorem mw_put (F : CallFix p m c cc nL s args Ts own) (hK : mw_K D cl tys Z s) (hI : mw_I D dA cl A S H0 H locs) {ref C : String} {T : u_T} {N ci index : Nat} (hin : ∀ w ∈ u_ws C T N, w ∈ Ts) (ty0 : Nat → FieldType) (hty : ∀ k, k < N → parseFieldDescriptor (T k).2.2.1 = some (ty0 k)) (hnm : ∀ a, a < N → ∀ b, b < N → a ≠ b → (T a).2.1 ≠ (T b).2.1) (hc : cl[ci]? = some (C, T, N)) (k : Nat) (hk : k < N) (hlink : Cond.fieldLink own index ref (T k).2.1 (T k).2.2.1 ∈ Ts) (hsame : (T k).1 = ref) (hfin : (T k).2.2.2 = false) {v : Value} (hn : narrow (ty0 k) v = v) (hfit : fits (ty0 k) v = true) (h : wrV S r ci k v = some S1) (hdg : decode cc pc = .ok (.putfield index, 3))
    (kk : ∀ (H1 : Heap) (locs1 : List Loc), mw_I D dA cl A S1 H0 H1 locs1 → W p l e R s m args below meth c H1 locs1 cells slots Q (F0 m (pc + 3) ls rest)) : W p l e R s m args below meth c H locs cells slots Q (F0 m pc ls (v :: va_rf r :: rest)) := by
  obtain ⟨a, fs, rfl, he, hl, rfl⟩ := wrV_inv h
  obtain ⟨hexec, hb, -, hown, hts⟩ := F
  have hap := va_apart (own := own) hts hin ty0 hty hnm hK.1 hc
  obtain ⟨q, h1, cell, q1, q2, q3, q4⟩ := hI.1 a _ he
  have hr : q = (C, T, N) := Option.some.inj (h1.symm.trans hc)
  subst hr
  obtain ⟨hS, hfc, kC, hkC, hkind⟩ := hK.1.1 ci _ hc
  obtain ⟨cf, kf, fi, f, hi, hsl⟩ := hS k hk
  subst hsame
  have hlay := hts _ (hin _ (u_in_lay hk))
  unfold u_lay at hlay
  rw [if_neg (by rw [hfin]; decide)] at hlay
  have hst := (u_facts hfc hkC (u_lays hts hin hk) hi).1
  have h6 := u_store hfc hkC hkind hlay hi (hty k hk) hn hfit
  refine W.putK hexec hb (f := f) ⟨hown, hts _ hlink, ⟨_, _, _, hi⟩, hst⟩ (by rw [q2]; exact h6) q1 q3 (by rw [hsl]; exact k2_hasslot (q4 k hk)) rfl rfl hdg fun H' e1 e2 e3 => ?_
  rw [hsl] at e1 ⊢
  exact kk H' _ (hI.set he ⟨_, hc, t_OB.to (V := updV (vp_V fs) k v) ⟨_, e1, q2, q3, t_set q4 hap hk v⟩ (fun j _ => vp_updV_set hl v j)⟩ e2 e3)
theorem mw_putF (F : CallFix p m c cc nL s args Ts own) (hK : mw_K D cl tys Z s) (hI : mw_I D dA cl A S H0 H locs) {C : String} {T : u_T} {N ci index : Nat} (hin : ∀ w ∈ u_ws C T N, w ∈ Ts) (ty0 : Nat → FieldType) (hty : ∀ k, k < N → parseFieldDescriptor (T k).2.2.1 = some (ty0 k)) (hnm : ∀ a, a < N → ∀ b, b < N → a ≠ b → (T a).2.1 ≠ (T b).2.1) (hc : cl[ci]? = some (C, T, N)) (k : Nat) (hk : k < N) (hlink : Cond.fieldLink own index own (T k).2.1 (T k).2.2.1 ∈ Ts) (hsame : (T k).1 = own) (hfin : (T k).2.2.2 = true) (hin2 : meth.name = "<init>") {v : Value} (hn : narrow (ty0 k) v = v) (hfit : fits (ty0 k) v = true) (h : wrV S r ci k v = some S1) (hdg : decode cc pc = .ok (.putfield index, 3))
    (kk : ∀ (H1 : Heap) (locs1 : List Loc), mw_I D dA cl A S1 H0 H1 locs1 → W p l e R s m args below meth c H1 locs1 cells slots Q (F0 m (pc + 3) ls rest)) : W p l e R s m args below meth c H locs cells slots Q (F0 m pc ls (v :: va_rf r :: rest)) := by
  obtain ⟨a, fs, rfl, he, hl, rfl⟩ := wrV_inv h
  obtain ⟨hexec, hb, -, hown, hts⟩ := F
  have hap := va_apart (own := own) hts hin ty0 hty hnm hK.1 hc
  obtain ⟨q, h1, cell, q1, q2, q3, q4⟩ := hI.1 a _ he
  have hr : q = (C, T, N) := Option.some.inj (h1.symm.trans hc)
  subst hr
  obtain ⟨hS, hfc, kC, hkC, hkind⟩ := hK.1.1 ci _ hc
  obtain ⟨cf, kf, fi, f, hi, hsl⟩ := hS k hk
  have hlay := hts _ (hin _ (u_in_lay hk))
  unfold u_lay at hlay
  rw [if_pos hfin] at hlay
  have hst := (u_facts hfc hkC (u_lays hts hin hk) hi).1
  have hcf : m.cls = cf := by
    obtain ⟨_, _, c', _, _, _, -, -, hf', -, -, -, hown2, -⟩ := Cond.laysFinal_spec hlay
    have e1 : c' = cf := by have := hi.symm.trans hf'; simp at this; exact this.1.symm
    rw [hsame] at hown2
    rw [← e1]; exact Option.some.inj (hown.symm.trans hown2)
  have h6 := u_fits hfc hkC hkind (Or.inr hlay) hi (hty k hk) hn hfit
  refine W.putFinK hexec hb hown (hts _ hlink) (by rw [← hsame]; exact hi) hst hcf hin2 (by rw [q2]; exact h6) q1 q3 (by rw [hsl]; exact k2_hasslot (q4 k hk)) rfl rfl hdg fun H' e1 e2 e3 => ?_
  rw [hsl] at e1 ⊢
  exact kk H' _ (hI.set he ⟨_, hc, t_OB.to (V := updV (vp_V fs) k v) ⟨_, e1, q2, q3, t_set q4 hap hk v⟩ (fun j _ => vp_updV_set hl v j)⟩ e2 e3)
theorem mw_iald (F : CallFix p m c cc nL s args Ts own) (hK : mw_K D cl tys Z s) (hI : mw_I D dA cl A S H0 H locs) {t0 : Nat} (ht : tys[t0]? = some (dA t0, .int)) {i v : Int32} (h : ldI S r t0 i = some v) (hdg : decode cc pc = .ok (.iaload, 1))
    (kk : W p l e R s m args below meth c H locs cells slots Q (F0 m (pc + 1) ls (.int v :: rest))) : W p l e R s m args below meth c H locs cells slots Q (F0 m pc ls (.int i :: va_rf r :: rest)) := by
  obtain ⟨a, n, f, rfl, he, hin, rfl⟩ := ldI_inv h
  have hlt : i.toNatClampNeg < n := Nat.not_le.mp fun q => hin (Or.inr q)
  exact W.iald (v := .int (f i.toNatClampNeg)) F.1 F.2.1 (hI.1 a _ he) ((hK.1.2 t0 _ ht).1 n (fun j => .int (f j))) (fun q => by cases q) (by show ¬ (i < 0 ∨ (arrV _ _ _).slots.size ≤ _); rw [arrV_size]; exact hin) (by show (arrV _ _ _).slots[_]? = _; rw [arrV_read _ _ hlt]) rfl rfl hdg kk
theorem mw_zald (F : CallFix p m c cc nL s args Ts own) (hK : mw_K D cl tys Z s) (hI : mw_I D dA cl A S H0 H locs) {t0 : Nat} (ht : tys[t0]? = some (dA t0, .boolean)) {i v : Int32} (h : ldI S r t0 i = some v) (hdg : decode cc pc = .ok (.baload, 1))
    (kk : W p l e R s m args below meth c H locs cells slots Q (F0 m (pc + 1) ls (.int v :: rest))) : W p l e R s m args below meth c H locs cells slots Q (F0 m pc ls (.int i :: va_rf r :: rest)) := by
  obtain ⟨a, n, f, rfl, he, hin, rfl⟩ := ldI_inv h
  have hlt : i.toNatClampNeg < n := Nat.not_le.mp fun q => hin (Or.inr q)
  exact W.zald (v := .int (f i.toNatClampNeg)) F.1 F.2.1 (hI.1 a _ he) ((hK.1.2 t0 _ ht).1 n (fun j => .int (f j))) (fun q => by cases q) (by show ¬ (i < 0 ∨ (arrV _ _ _).slots.size ≤ _); rw [arrV_size]; exact hin) (by show (arrV _ _ _).slots[_]? = _; rw [arrV_read _ _ hlt]) rfl rfl hdg kk
theorem mw_lald (F : CallFix p m c cc nL s args Ts own) (hK : mw_K D cl tys Z s) (hI : mw_I D dA cl A S H0 H locs) {t0 : Nat} (ht : tys[t0]? = some (dA t0, .long)) {i : Int32} {v : Int64} (h : ldL S r t0 i = some v) (hdg : decode cc pc = .ok (.laload, 1))
    (kk : W p l e R s m args below meth c H locs cells slots Q (F0 m (pc + 1) ls (.long v :: rest))) : W p l e R s m args below meth c H locs cells slots Q (F0 m pc ls (.int i :: va_rf r :: rest)) := by
  obtain ⟨a, n, f, rfl, he, hin, rfl⟩ := ldL_inv h
  have hlt : i.toNatClampNeg < n := Nat.not_le.mp fun q => hin (Or.inr q)
  exact W.lald (v := .long (f i.toNatClampNeg)) F.1 F.2.1 (hI.1 a _ he) ((hK.1.2 t0 _ ht).1 n (fun j => .long (f j))) (fun q => by cases q) (by show ¬ (i < 0 ∨ (arrV _ _ _).slots.size ≤ _); rw [arrV_size]; exact hin) (by show (arrV _ _ _).slots[_]? = _; rw [arrV_read _ _ hlt]) rfl rfl hdg kk
theorem mw_aald (F : CallFix p m c cc nL s args Ts own) (hK : mw_K D cl tys Z s) (hI : mw_I D dA cl A S H0 H locs) {t0 : Nat} {C : String} (ht : tys[t0]? = some (dA t0, .object C)) {i : Int32} {v : Option Nat} (h : ldR S r t0 i = some v) (hdg : decode cc pc = .ok (.aaload, 1))
    (kk : W p l e R s m args below meth c H locs cells slots Q (F0 m (pc + 1) ls (va_rf v :: rest))) : W p l e R s m args below meth c H locs cells slots Q (F0 m pc ls (.int i :: va_rf r :: rest)) := by
  obtain ⟨a, n, f, rfl, he, hin, rfl⟩ := ldR_inv h
  have hlt : i.toNatClampNeg < n := Nat.not_le.mp fun q => hin (Or.inr q)
  exact W.aald (v := va_rf (f i.toNatClampNeg)) (ty := .object C) F.1 F.2.1 (hI.1 a _ he) ((hK.1.2 t0 _ ht).1 n (fun j => va_rf (f j))) rfl (fun q => by cases q) (by show ¬ (i < 0 ∨ (arrV _ _ _).slots.size ≤ _); rw [arrV_size]; exact hin) (by show (arrV _ _ _).slots[_]? = _; rw [arrV_read _ _ hlt]) rfl rfl hdg kk
theorem mw_iast (F : CallFix p m c cc nL s args Ts own) (hK : mw_K D cl tys Z s) (hI : mw_I D dA cl A S H0 H locs) {t0 : Nat} (ht : tys[t0]? = some (dA t0, .int)) {i x : Int32} (h : stI S r t0 i x = some S1) (hdg : decode cc pc = .ok (.iastore, 1))
    (kk : ∀ (H1 : Heap) (locs1 : List Loc), mw_I D dA cl A S1 H0 H1 locs1 → W p l e R s m args below meth c H1 locs1 cells slots Q (F0 m (pc + 1) ls rest)) : W p l e R s m args below meth c H locs cells slots Q (F0 m pc ls (.int x :: .int i :: va_rf r :: rest)) := by
  obtain ⟨a, n, f, rfl, he, hin, rfl⟩ := stI_inv h
  refine W.iast F.1 F.2.1 (hI.1 a _ he) ((hK.1.2 t0 _ ht).1 n (fun j => .int (f j))) (fun q => by cases q) (by show ¬ (i < 0 ∨ (arrV _ _ _).slots.size ≤ _); rw [arrV_size]; exact hin) rfl rfl hdg fun H1 e z oq => ?_
  refine kk H1 _ (hI.set he ?_ z oq)
  show H1[a]? = some (vp_cell _ _)
  rw [e]
  show some ((vp_cell _ (n, .inl f)).setSlot _ _) = _
  rw [vp_cell_i, vp_cell_i, arrV_store]
  congr 2
  funext q
  by_cases hq : q = i.toNatClampNeg
  · subst hq
    simp [updV, va_up]
  · simp [updV, va_up, hq]
theorem mw_zast (F : CallFix p m c cc nL s args Ts own) (hK : mw_K D cl tys Z s) (hI : mw_I D dA cl A S H0 H locs) {t0 : Nat} (ht : tys[t0]? = some (dA t0, .boolean)) {i x : Int32} (hx : narrow .boolean (.int x) = .int x) (h : stI S r t0 i x = some S1) (hdg : decode cc pc = .ok (.bastore, 1))
    (kk : ∀ (H1 : Heap) (locs1 : List Loc), mw_I D dA cl A S1 H0 H1 locs1 → W p l e R s m args below meth c H1 locs1 cells slots Q (F0 m (pc + 1) ls rest)) : W p l e R s m args below meth c H locs cells slots Q (F0 m pc ls (.int x :: .int i :: va_rf r :: rest)) := by
  obtain ⟨a, n, f, rfl, he, hin, rfl⟩ := stI_inv h
  refine W.zast F.1 F.2.1 (hI.1 a _ he) ((hK.1.2 t0 _ ht).1 n (fun j => .int (f j))) (fun q => by cases q) (by show ¬ (i < 0 ∨ (arrV _ _ _).slots.size ≤ _); rw [arrV_size]; exact hin) rfl rfl hdg fun H1 e z oq => ?_
  refine kk H1 _ (hI.set he ?_ z oq)
  show H1[a]? = some (vp_cell _ _)
  rw [e]
  show some ((vp_cell _ (n, .inl f)).setSlot _ _) = _
  rw [hx]
  rw [vp_cell_i, vp_cell_i, arrV_store]
  congr 2
  funext q
  by_cases hq : q = i.toNatClampNeg
  · subst hq
    simp [updV, va_up]
  · simp [updV, va_up, hq]
theorem mw_last (F : CallFix p m c cc nL s args Ts own) (hK : mw_K D cl tys Z s) (hI : mw_I D dA cl A S H0 H locs) {t0 : Nat} (ht : tys[t0]? = some (dA t0, .long)) {i : Int32} {x : Int64} (h : stL S r t0 i x = some S1) (hdg : decode cc pc = .ok (.lastore, 1))
    (kk : ∀ (H1 : Heap) (locs1 : List Loc), mw_I D dA cl A S1 H0 H1 locs1 → W p l e R s m args below meth c H1 locs1 cells slots Q (F0 m (pc + 1) ls rest)) : W p l e R s m args below meth c H locs cells slots Q (F0 m pc ls (.long x :: .int i :: va_rf r :: rest)) := by
  obtain ⟨a, n, f, rfl, he, hin, rfl⟩ := stL_inv h
  refine W.last F.1 F.2.1 (hI.1 a _ he) ((hK.1.2 t0 _ ht).1 n (fun j => .long (f j))) (fun q => by cases q) (by show ¬ (i < 0 ∨ (arrV _ _ _).slots.size ≤ _); rw [arrV_size]; exact hin) rfl rfl hdg fun H1 e z oq => ?_
  refine kk H1 _ (hI.set he ?_ z oq)
  show H1[a]? = some (vp_cell _ _)
  rw [e]
  show some ((vp_cell _ (n, .inr (.inl f))).setSlot _ _) = _
  rw [vp_cell_l, vp_cell_l, arrV_store]
  congr 2
  funext q
  by_cases hq : q = i.toNatClampNeg
  · subst hq
    simp [updV, va_up]
  · simp [updV, va_up, hq]
theorem mw_aast (F : CallFix p m c cc nL s args Ts own) (hK : mw_K D cl tys Z s) (hI : mw_I D dA cl A S H0 H locs) {t0 ci : Nat} {q0 : vw_C} (ht : tys[t0]? = some (dA t0, .object q0.1)) (hc : cl[ci]? = some q0) {i : Int32} {v : Option Nat} (h : stR S r t0 ci i v = some S1) (hdg : decode cc pc = .ok (.aastore, 1))
    (kk : ∀ (H1 : Heap) (locs1 : List Loc), mw_I D dA cl A S1 H0 H1 locs1 → W p l e R s m args below meth c H1 locs1 cells slots Q (F0 m (pc + 1) ls rest)) : W p l e R s m args below meth c H locs cells slots Q (F0 m pc ls (va_rf v :: .int i :: va_rf r :: rest)) := by
  obtain ⟨a, n, f, rfl, he, hin, hv, rfl⟩ := stR_inv h
  have hlt : i.toNatClampNeg < n := Nat.not_le.mp fun q => hin (Or.inr q)
  have h0 : ¬ i < 0 := fun q => hin (Or.inl q)
  cases v with
  | none =>
    refine va_WaastN (C := q0.1) F.1 F.2.1 (hI.1 a _ he) ((hK.1.2 t0 _ ht).1 n (fun j => va_rf (f j))) (fun h => by cases h) (by show ¬ (i < 0 ∨ (arrV _ _ _).slots.size ≤ _); rw [arrV_size]; exact hin) rfl rfl hdg fun H1 e z oq => ?_
    refine kk H1 _ (hI.set he ?_ z oq)
    show H1[a]? = some (vp_cell _ _)
    rw [e]
    show some ((vp_cell _ (n, .inr (.inr (.inr (.inr f))))).setSlot _ _) = _
    rw [vp_cell_q, vp_cell_q, arrV_store]
    congr 2
    funext q
    by_cases hq : q = i.toNatClampNeg
    · subst hq
      simp [updV, va_up, va_rf]
    · simp [updV, va_up, hq]
  | some y =>
    obtain ⟨vs, hy⟩ := hv y rfl
    obtain ⟨r', hr', cellV, g1, g2, g3, -⟩ := hI.1 y _ hy
    have hcls := (hK.1.1 ci q0 hc).2
    obtain ⟨kA, comp, k1, k2, k3, -⟩ := (hK.1.2 t0 _ ht).2
    have hcomp : comp = D.1 ci := Option.some.inj (k3.symm.trans hcls.1)
    subst hcomp
    obtain ⟨kC, hkC, -⟩ := hcls.2
    refine W.aast F.1 F.2.1 (hI.1 a _ he) (fun q h => by cases h) (fun h => by cases h) k1 k2 rfl hkC ⟨h0, by show _ < (arrV _ _ _).slots.size; rw [arrV_size]; exact hlt⟩ g1 (fun q h => by rw [g3] at h; cases h) (by rw [g2]; exact hkC) (by rw [g2]; exact va_assign hcls) rfl rfl hdg fun H1 e z oq => ?_
    refine kk H1 _ (hI.set he ?_ z oq)
    show H1[a]? = some (vp_cell _ _)
    rw [e]
    show some ((vp_cell _ (n, .inr (.inr (.inr (.inr f))))).setSlot _ _) = _
    rw [vp_cell_q, vp_cell_q, arrV_store]
    congr 2
    funext q
    by_cases hq : q = i.toNatClampNeg
    · subst hq
      simp [updV, va_up, va_rf]
    · simp [updV, va_up, hq]
theorem mw_alen (F : CallFix p m c cc nL s args Ts own) (hK : mw_K D cl tys Z s) (hI : mw_I D dA cl A S H0 H locs) {t0 : Nat} {ty : FieldType} (ht : tys[t0]? = some (dA t0, ty)) {v : Int32} (h : alen S r t0 = some v) (hdg : decode cc pc = .ok (.arraylength, 1))
    (kk : W p l e R s m args below meth c H locs cells slots Q (F0 m (pc + 1) ls (.int v :: rest))) : W p l e R s m args below meth c H locs cells slots Q (F0 m pc ls (va_rf r :: rest)) := by
  obtain ⟨a, x, rfl, he, rfl⟩ := alen_inv h
  have hP : va_P D cl [(a, .inl (dA t0, x))] H := fun k q hk => by
    have hz : k < 1 := (List.getElem?_eq_some_iff.mp hk).1
    rw [show k = 0 by omega] at hk
    cases hk
    exact hI.1 a _ he
  exact va_alen F.1 F.2.1 hK.1 hP 0 t0 rfl ht rfl hdg kk
theorem mw_new (F : CallFix p m c cc nL s args Ts own) (hK : mw_K D cl tys Z s) (hI : mw_I D dA cl A S H0 H locs) {C : String} {T : u_T} {N ci index : Nat} (hin : ∀ w ∈ u_ws C T N, w ∈ Ts) (ty : Nat → FieldType) (hty : ∀ k, k < N → parseFieldDescriptor (T k).2.2.1 = some (ty k)) (hcl : Cond.classLink own index C ∈ Ts) (hinst : Cond.instantiable C N ∈ Ts) (hini : Cond.initialized C ∈ Ts) (hc : cl[ci]? = some (C, T, N)) {fs : List Value} (hfs : ∀ j, j < N → defaultValue (ty j) = vp_V fs j) (hcells : cells + 1 ≤ R.cells) (hslots : slots + N ≤ R.slots) (hdg : decode cc pc = .ok (.new index, 3))
    (kk : ∀ H1 : Heap, mw_I D dA cl A (nwO ci fs S) H0 H1 locs → W p l e R s m args below meth c H1 locs (cells + 1) (slots + N) Q (F0 m (pc + 3) ls (va_rf (some S.2) :: rest))) : W p l e R s m args below meth c H locs cells slots Q (F0 m pc ls rest) := by
  obtain ⟨hexec, hb, -, hown, hts⟩ := F
  have hKn := hK.1.1 ci _ hc
  have hz := hI.2.1
  refine W.newcK hexec hb hown (hts _ hcl) (hts _ hinst) (hts _ hini) rfl hdg hcells hslots hKn.2.1 hz fun H1 kC hkC e1 z1 o1 => ?_
  exact kk H1 (hI.push ⟨_, hc, (u_born ty hts hin hKn hkC e1 hty).to hfs⟩ (by omega) (fun q hq => o1 q (by omega)))
theorem mw_newa (F : CallFix p m c cc nL s args Ts own) (hK : mw_K D cl tys Z s) (hI : mw_I D dA cl A S H0 H locs) {atype : ArrayType} {ty : FieldType} (harr : Cond.arrayClass (newarray.typeOf atype) ∈ Ts) (hty : newarray.typeOf atype = ty) {t0 cap : Nat} (ht : tys[t0]? = some (dA t0, ty)) (hprim : ∀ cB : ClassId, va_RA s cB ty = (s.vm.findClass ("[" ++ ty.toString) = some cB)) {n : Int32} {z : (Nat → Int32) ⊕ (Nat → Int64) ⊕ (Nat → UInt32) ⊕ (Nat → UInt64) ⊕ (Nat → Option Nat)} (h : nwA t0 cap n z S = some S1) (ha : ∀ N : Nat, vp_cell (dA t0) (N, z) = arrV (dA t0) N (fun _ => defaultValue ty)) (hbytes : cap * componentBytes ty ≤ 536870912) (hcells : cells + 1 ≤ R.cells) (hslots : slots + cap ≤ R.slots) (hdg : decode cc pc = .ok (.newarray atype, 2))
    (kk : ∀ H1 : Heap, mw_I D dA cl A S1 H0 H1 locs → W p l e R s m args below meth c H1 locs (cells + 1) (slots + cap) Q (F0 m (pc + 2) ls (va_rf (some S.2) :: rest))) : W p l e R s m args below meth c H locs cells slots Q (F0 m pc ls (.int n :: rest)) := by
  obtain ⟨hn, hcap, rfl⟩ := nwA_inv h
  obtain ⟨hexec, hb, -, hown, hts⟩ := F
  have hz := hI.2.1
  subst hty
  refine va_newaK hexec hb (hts _ harr) rfl hdg rfl hn rfl (Nat.le_trans (Nat.mul_le_mul_right _ hcap) hbytes) hcells (Nat.le_trans (Nat.add_le_add_left hcap _) hslots) hz fun H1 cB e1 z1 o1 hAr hNm => ?_
  have h2 := (hK.1.2 t0 _ ht).2
  rw [hprim] at h2
  have hAB : cB = dA t0 := Option.some.inj (hNm.symm.trans h2)
  subst hAB
  refine W.widen (k := cells + 1) (n := slots + cap) (Nat.le_refl _) (Nat.add_le_add_left hcap _) (kk H1 (hI.push ?_ (by omega) (fun q hq => o1 q (by omega))))
  show H1[S.2]? = some (vp_cell _ _)
  rw [ha]
  exact e1
theorem mw_anew (F : CallFix p m c cc nL s args Ts own) (hK : mw_K D cl tys Z s) (hI : mw_I D dA cl A S H0 H locs) {C : String} {index : Nat} (hcl : Cond.classLink own index C ∈ Ts) (hov : C ∈ Z.2) {t0 cap : Nat} (ht : tys[t0]? = some (dA t0, .object C)) {n : Int32} (h : nwA t0 cap n (.inr (.inr (.inr (.inr (fun _ => none))))) S = some S1) (hbytes : cap * 4 ≤ 536870912) (hcells : cells + 1 ≤ R.cells) (hslots : slots + cap ≤ R.slots) (hdg : decode cc pc = .ok (.anewarray index, 3))
    (kk : ∀ H1 : Heap, mw_I D dA cl A S1 H0 H1 locs → W p l e R s m args below meth c H1 locs (cells + 1) (slots + cap) Q (F0 m (pc + 3) ls (va_rf (some S.2) :: rest))) : W p l e R s m args below meth c H locs cells slots Q (F0 m pc ls (.int n :: rest)) := by
  obtain ⟨hn, hcap, rfl⟩ := nwA_inv h
  obtain ⟨hexec, hb, -, hown, hts⟩ := F
  have hz := hI.2.1
  rw [← hz] at kk
  refine W.anew hexec hb hown (hts _ hcl) (hK.2.2 C hov).use rfl hdg rfl hn (Nat.le_trans (Nat.mul_le_mul_right _ hcap) hbytes) hcells (Nat.le_trans (Nat.add_le_add_left hcap _) hslots) fun cB kA comp f1 f2 f3 f4 => ?_
  obtain ⟨kA', comp', g1, g2, g3, g4⟩ := (hK.1.2 t0 _ ht).2
  have hAB : cB = dA t0 := Option.some.inj (f1.symm.trans g4)
  subst hAB
  generalize hH1 : H.push ({ cls := dA t0, slots := Array.replicate n.toNatClampNeg .null, vm := .none } : Cell) = H1
  have z1 : H1.size = H.size + 1 := by rw [← hH1, Array.size_push]
  have e1 : H1[H.size]? = some (arrV (dA t0) n.toNatClampNeg (fun _ => .null)) := by rw [← hH1, Array.getElem?_push_size, ← arrV_new]
  have o1 : ∀ q : Nat, q < H.size → H1[q]? = H[q]? := fun q hq => by rw [← hH1, Array.getElem?_push, if_neg (Nat.ne_of_lt hq)]
  refine W.widen (k := cells + 1) (n := slots + cap) (Nat.le_refl _) (Nat.add_le_add_left hcap _) (kk H1 ?_)
  have hh := hI.push (x1 := .inl (t0, n.toNatClampNeg, .inr (.inr (.inr (.inr (fun _ => none)))))) (by
    show H1[S.2]? = some (vp_cell _ _)
    rw [vp_cell_q, ← hz]
    exact e1) z1 o1
  rw [hz]
  exact hh
end MW
section MX
variable {p : Program} {l : Launch} {e : Env} {R : Room} {s : State} {m : MethodId} {args : Array Value} {below : List Frame} {meth : Method} {c : Code} {H : Heap} {locs : List Loc} {cells slots : Nat} {Q : State → Prop}
variable {cc : ByteArray} {pc nL : Nat} {ls : Array Slot} {rest : List Value} {D : va_G} {dA : Nat → ClassId} {cl : List vw_C} {A : Nat → Prop} {tys : List (ClassId × FieldType)} {Z : mw_Z} {H0 : Heap} {S S1 : mc_S} {Ts : List Cond} {own : String} {r : Option Nat}
theorem mw_aload_n (F : CallFix p m c cc nL s args Ts own) {k : Fin 4} {i : Nat} (hdg : decode cc pc = .ok (.aload_n k, 1)) (hi : (k : Nat) = i) (hl : ls[i]? = some (.val (va_rf r))) (kk : W p l e R s m args below meth c H locs cells slots Q (F0 m (pc + 1) ls (va_rf r :: rest))) : W p l e R s m args below meth c H locs cells slots Q (F0 m pc ls rest) := by
  cases r with
  | none => exact lv_aload_nN F.1 F.2.1 hdg hi hl kk
  | some y => exact lv_aload_n F.1 F.2.1 hdg hi hl kk
theorem mw_aload (F : CallFix p m c cc nL s args Ts own) {i : Nat} (hdg : decode cc pc = .ok (.aload i, 2)) (hl : ls[i]? = some (.val (va_rf r))) (kk : W p l e R s m args below meth c H locs cells slots Q (F0 m (pc + 2) ls (va_rf r :: rest))) : W p l e R s m args below meth c H locs cells slots Q (F0 m pc ls rest) := by
  cases r with
  | none => exact lv_aloadN F.1 F.2.1 hdg hl kk
  | some y => exact lv_aload F.1 F.2.1 hdg hl kk
theorem mw_cat (r : Option Nat) : (va_rf r).category = 1 := by cases r <;> rfl
theorem mw_cI (x : Int32) : (Value.int x).category = 1 := rfl
theorem mw_cL (x : Int64) : (Value.long x).category = 2 := rfl
theorem mw_null (F : CallFix p m c cc nL s args Ts own) (hdg : decode cc pc = .ok (.aconst_null, 1)) (kk : W p l e R s m args below meth c H locs cells slots Q (F0 m (pc + 1) ls (va_rf none :: rest))) : W p l e R s m args below meth c H locs cells slots Q (F0 m pc ls rest) := lv_null F.1 F.2.1 hdg kk
theorem mw_ifnull (F : CallFix p m c cc nL s args Ts own) {off : Int} {tgt : Nat} (hdg : decode cc pc = .ok (.ifnull off, 3)) (ht : (pc : Int) + off = (tgt : Int)) (kt : r = none → W p l e R s m args below meth c H locs cells slots Q (F0 m tgt ls rest)) (kf : ¬ r = none → W p l e R s m args below meth c H locs cells slots Q (F0 m (pc + 3) ls rest)) : W p l e R s m args below meth c H locs cells slots Q (F0 m pc ls (va_rf r :: rest)) := by
  cases r with
  | none => exact lv_ifnullN F.1 F.2.1 hdg ht (kt rfl)
  | some y => exact lv_ifnull F.1 F.2.1 hdg (kf (fun h => by cases h))
theorem mw_ifnonnull (F : CallFix p m c cc nL s args Ts own) {off : Int} {tgt : Nat} (hdg : decode cc pc = .ok (.ifnonnull off, 3)) (ht : (pc : Int) + off = (tgt : Int)) (kt : ¬ r = none → W p l e R s m args below meth c H locs cells slots Q (F0 m tgt ls rest)) (kf : r = none → W p l e R s m args below meth c H locs cells slots Q (F0 m (pc + 3) ls rest)) : W p l e R s m args below meth c H locs cells slots Q (F0 m pc ls (va_rf r :: rest)) := by
  cases r with
  | none => exact lv_ifnonnullN F.1 F.2.1 hdg (kf rfl)
  | some y => exact lv_ifnonnull F.1 F.2.1 hdg ht (kt (fun h => by cases h))
theorem mw_tabIn (F : CallFix p m c cc nL s args Ts own) {dflt lo hi : Int} {offs : Array Int} {len : Nat} {x k : Int32} {off : Int} {tgt : Nat} (hx : x = k) (hdg : decode cc pc = .ok (.tableswitch dflt lo hi offs, len)) (h1 : ¬ k.toInt < lo) (h2 : ¬ hi < k.toInt) (ho : offs[(k.toInt - lo).toNat]? = some off) (ht : (pc : Int) + off = (tgt : Int))
    (kk : W p l e R s m args below meth c H locs cells slots Q (F0 m tgt ls rest)) : W p l e R s m args below meth c H locs cells slots Q (F0 m pc ls (.int x :: rest)) := by
  subst hx
  exact lv_tableIn F.1 F.2.1 hdg h1 h2 ho ht kk
theorem mw_objInit (F : CallFix p m c cc nL s args Ts own) {idx a : Nat} (hlink : Cond.methodLink own idx Lib.objectInit ∈ Ts) (hinst : Cond.instanceMethod Lib.objectInit ∈ Ts) (hcode : Cond.code Lib.objectInit ⟨#[0xb1]⟩ 1 none ∈ Ts) (hls : ls.size = nL) (hdg : decode cc pc = .ok (.invokespecial idx, 3)) (hf : 1 ≤ R.frames) (hlo : (rest.map fun v => v.category).sum + 12 ≤ R.locals)
    (kk : W p l e R s m args below meth c H locs cells slots Q (F0 m (pc + 3) ls rest)) : W p l e R s m args below meth c H locs cells slots Q (F0 m pc ls (va_rf (some a) :: rest)) := by
  obtain ⟨hexec, hb, hml, hown, hts⟩ := F
  exact W.objInit hexec hb hown (hts _ hlink) (hts _ hinst) (hts _ hcode) rfl (by rw [hml]; exact hls) rfl hdg hf (by show 2 * 0 + _ + 12 ≤ _; omega) kk
theorem mw_nn {z : Int32} (hz : ¬ z < 0) : z.toInt = (z.toNatClampNeg : Int) := by
  have hz0 : (0 : Int) ≤ z.toInt := by
    have := Int32.not_lt.mp hz
    simpa using Int32.le_iff_toInt_le.mp this
  show z.toInt = ((z.toInt.toNat : Nat) : Int)
  omega
theorem mw_copyi (F : CallFix p m c cc nL s args Ts own) (hK : mw_K D cl tys Z s) (hI : mw_I D dA cl A S H0 H locs) {index t0 : Nat} (hlink : Cond.methodLink own index arraycopyName ∈ Ts) (hnat : Cond.native arraycopyName ∈ Ts) (hstat : Cond.static arraycopyName ∈ Ts) (hini : Cond.initialized "java/lang/System" ∈ Ts) (ht : tys[t0]? = some (dA t0, .int))
    {r0 r1 : Option Nat} {sp dp n : Int32} (h : cpI S r0 sp r1 dp n t0 = some S1) (hls : ls.size = nL) (hframes : 1 ≤ R.frames) (hlocals : (rest.map fun v => v.category).sum + (nativeFrameWords "java/lang/System" "arraycopy" 5 + 11) ≤ R.locals) (hdg : decode cc pc = .ok (.invokestatic index, 3))
    (kk : ∀ (H1 : Heap) (locs1 : List Loc), mw_I D dA cl A S1 H0 H1 locs1 → W p l e R s m args below meth c H1 locs1 cells slots Q (F0 m (pc + 3) ls rest)) : W p l e R s m args below meth c H locs cells slots Q (F0 m pc ls (.int n :: .int dp :: va_rf r1 :: .int sp :: va_rf r0 :: rest)) := by
  obtain ⟨a0, a, n0, n1, f, g, rfl, rfl, he0, he1, ⟨h1, h2, h3, h4, h5⟩, rfl⟩ := cpI_inv h
  obtain ⟨hexec, hb, hml, hown, hts⟩ := F
  intro T hT X
  have hc0 : H[a0]? = some (vp_cell (dA t0) (n0, .inl f)) := hI.1 a0 _ he0
  have hc1 : H[a]? = some (vp_cell (dA t0) (n1, .inl g)) := hI.1 a _ he1
  obtain ⟨-, k0, hk0, cm0, hkk0⟩ := (hK.1.2 t0 _ ht).1 n0 (fun j => .int (f j))
  obtain ⟨-, k1, hk1, cm1, hkk1⟩ := (hK.1.2 t0 _ ht).1 n1 (fun j => .int (g j))
  obtain ⟨vm', X', step⟩ := X.arraycopy hexec hown (hts _ hlink) (hts _ hnat) (hts _ hstat) (hts _ hini) (src := a0) (dst := a) (cs := vp_cell (dA t0) (n0, .inl f)) (cd := vp_cell (dA t0) (n1, .inl g)) (srcPos := sp) (destPos := dp) (n := n) (by rw [hT]; exact hc0) (by rw [hT]; exact hc1)
    (fun _ h => by cases h) (fun _ h => by cases h) (fun h => by cases h) (fun h => by cases h) hk0 hk1 hkk0 hkk1 (by simp [refKind]) h1 h2 h3
    (by rw [mw_nn h1, mw_nn h3]; show ¬ _ > ((arrV (dA t0) n0 (fun j => .int (f j))).slots.size : Int); rw [arrV_size]; omega)
    (by rw [mw_nn h2, mw_nn h3]; show ¬ _ > ((arrV (dA t0) n1 (fun j => .int (g j))).slots.size : Int); rw [arrV_size]; omega)
    (fun vm₁ _ i hi => by
      have e : (vp_cell (dA t0) (n0, .inl f)).slots.getD (sp.toNatClampNeg + i) .null = .int (f (sp.toNatClampNeg + i)) := by
        show (arrV (dA t0) n0 (fun j => .int (f j))).slots.getD _ _ = _
        rw [Array.getD_eq_getD_getElem?, arrV_read _ _ (by omega)]
        rfl
      refine ⟨?_, ?_⟩
      · rw [e]
        rfl
      · rw [e]
        exact trivial)
    (g := F0 m pc ls (.int n :: .int dp :: .ref a :: .int sp :: .ref a0 :: rest)) rfl (by rw [hml]; exact hls) (rest := rest) rfl (by rw [hb]; exact hdg) hframes (by show 2 * 0 + _ + _ ≤ _; omega)
  have e1 : copied (vp_cell (dA t0) (n0, .inl f)) (vp_cell (dA t0) (n1, .inl g)) sp dp n = vp_cell (dA t0) (n1, .inl (va_cpy f g sp.toNatClampNeg dp.toNatClampNeg n.toNatClampNeg)) := va_copied (fun z => .int z) (dA t0) (dA t0) f g h4
  rw [e1] at X' step
  have hl : a < H.size := (Array.getElem?_eq_some_iff.mp hc1).1
  have hheap : ((T.setVm vm').setCell a (vp_cell (dA t0) (n1, .inl (va_cpy f g sp.toNatClampNeg dp.toNatClampNeg n.toNatClampNeg)))).heap = H.setIfInBounds a (vp_cell (dA t0) (n1, .inl (va_cpy f g sp.toNatClampNeg dp.toNatClampNeg n.toNatClampNeg))) := by rw [← hT]; rfl
  have oq : ∀ q : Nat, q ≠ a → (H.setIfInBounds a (vp_cell (dA t0) (n1, .inl (va_cpy f g sp.toNatClampNeg dp.toNatClampNeg n.toNatClampNeg))))[q]? = H[q]? := fun q hq => by simp [Array.getElem?_setIfInBounds, Ne.symm hq]
  obtain ⟨hP, hz, hA, hN, hS⟩ := hI
  have hx : va_at D cl (a, mw_tr dA (.inl (t0, n1, .inl (va_cpy f g sp.toNatClampNeg dp.toNatClampNeg n.toNatClampNeg)))) (H.setIfInBounds a (vp_cell (dA t0) (n1, .inl (va_cpy f g sp.toNatClampNeg dp.toNatClampNeg n.toNatClampNeg)))) := by
    show (H.setIfInBounds a _)[a]? = some _
    simp [Array.getElem?_setIfInBounds, hl, mw_tr]
  have hI2 := mw_I.set (k := 0) ⟨hP, hz, hA, hN, hS⟩ he1 hx (by simp) oq
  obtain ⟨t, a1, b1⟩ := kk _ _ ⟨hI2.1, hI2.2.1, hI2.2.2.1, hI2.2.2.2.1, hI2.2.2.2.2.1, hI2.2.2.2.2.2.1, fun q hq => by
      rcases List.mem_append.mp hq with h | h
      · exact hS.2.2 q h
      · obtain ⟨z, -, hz⟩ := List.mem_map.mp h
        rw [← hz]
        exact hA a _ he1⟩ _ hheap X'
  exact ⟨t, step t a1, b1⟩
theorem mw_copyl (F : CallFix p m c cc nL s args Ts own) (hK : mw_K D cl tys Z s) (hI : mw_I D dA cl A S H0 H locs) {index t0 : Nat} (hlink : Cond.methodLink own index arraycopyName ∈ Ts) (hnat : Cond.native arraycopyName ∈ Ts) (hstat : Cond.static arraycopyName ∈ Ts) (hini : Cond.initialized "java/lang/System" ∈ Ts) (ht : tys[t0]? = some (dA t0, .long))
    {r0 r1 : Option Nat} {sp dp n : Int32} (h : cpL S r0 sp r1 dp n t0 = some S1) (hls : ls.size = nL) (hframes : 1 ≤ R.frames) (hlocals : (rest.map fun v => v.category).sum + (nativeFrameWords "java/lang/System" "arraycopy" 5 + 11) ≤ R.locals) (hdg : decode cc pc = .ok (.invokestatic index, 3))
    (kk : ∀ (H1 : Heap) (locs1 : List Loc), mw_I D dA cl A S1 H0 H1 locs1 → W p l e R s m args below meth c H1 locs1 cells slots Q (F0 m (pc + 3) ls rest)) : W p l e R s m args below meth c H locs cells slots Q (F0 m pc ls (.int n :: .int dp :: va_rf r1 :: .int sp :: va_rf r0 :: rest)) := by
  obtain ⟨a0, a, n0, n1, f, g, rfl, rfl, he0, he1, ⟨h1, h2, h3, h4, h5⟩, rfl⟩ := cpL_inv h
  obtain ⟨hexec, hb, hml, hown, hts⟩ := F
  intro T hT X
  have hc0 : H[a0]? = some (vp_cell (dA t0) (n0, .inr (.inl f))) := hI.1 a0 _ he0
  have hc1 : H[a]? = some (vp_cell (dA t0) (n1, .inr (.inl g))) := hI.1 a _ he1
  obtain ⟨-, k0, hk0, cm0, hkk0⟩ := (hK.1.2 t0 _ ht).1 n0 (fun j => .long (f j))
  obtain ⟨-, k1, hk1, cm1, hkk1⟩ := (hK.1.2 t0 _ ht).1 n1 (fun j => .long (g j))
  obtain ⟨vm', X', step⟩ := X.arraycopy hexec hown (hts _ hlink) (hts _ hnat) (hts _ hstat) (hts _ hini) (src := a0) (dst := a) (cs := vp_cell (dA t0) (n0, .inr (.inl f))) (cd := vp_cell (dA t0) (n1, .inr (.inl g))) (srcPos := sp) (destPos := dp) (n := n) (by rw [hT]; exact hc0) (by rw [hT]; exact hc1)
    (fun _ h => by cases h) (fun _ h => by cases h) (fun h => by cases h) (fun h => by cases h) hk0 hk1 hkk0 hkk1 (by simp [refKind]) h1 h2 h3
    (by rw [mw_nn h1, mw_nn h3]; show ¬ _ > ((arrV (dA t0) n0 (fun j => .long (f j))).slots.size : Int); rw [arrV_size]; omega)
    (by rw [mw_nn h2, mw_nn h3]; show ¬ _ > ((arrV (dA t0) n1 (fun j => .long (g j))).slots.size : Int); rw [arrV_size]; omega)
    (fun vm₁ _ i hi => by
      have e : (vp_cell (dA t0) (n0, .inr (.inl f))).slots.getD (sp.toNatClampNeg + i) .null = .long (f (sp.toNatClampNeg + i)) := by
        show (arrV (dA t0) n0 (fun j => .long (f j))).slots.getD _ _ = _
        rw [Array.getD_eq_getD_getElem?, arrV_read _ _ (by omega)]
        rfl
      refine ⟨?_, ?_⟩
      · rw [e]
        rfl
      · rw [e]
        exact trivial)
    (g := F0 m pc ls (.int n :: .int dp :: .ref a :: .int sp :: .ref a0 :: rest)) rfl (by rw [hml]; exact hls) (rest := rest) rfl (by rw [hb]; exact hdg) hframes (by show 2 * 0 + _ + _ ≤ _; omega)
  have e1 : copied (vp_cell (dA t0) (n0, .inr (.inl f))) (vp_cell (dA t0) (n1, .inr (.inl g))) sp dp n = vp_cell (dA t0) (n1, .inr (.inl (va_cpy f g sp.toNatClampNeg dp.toNatClampNeg n.toNatClampNeg))) := va_copied (fun z => .long z) (dA t0) (dA t0) f g h4
  rw [e1] at X' step
  have hl : a < H.size := (Array.getElem?_eq_some_iff.mp hc1).1
  have hheap : ((T.setVm vm').setCell a (vp_cell (dA t0) (n1, .inr (.inl (va_cpy f g sp.toNatClampNeg dp.toNatClampNeg n.toNatClampNeg))))).heap = H.setIfInBounds a (vp_cell (dA t0) (n1, .inr (.inl (va_cpy f g sp.toNatClampNeg dp.toNatClampNeg n.toNatClampNeg)))) := by rw [← hT]; rfl
  have oq : ∀ q : Nat, q ≠ a → (H.setIfInBounds a (vp_cell (dA t0) (n1, .inr (.inl (va_cpy f g sp.toNatClampNeg dp.toNatClampNeg n.toNatClampNeg)))))[q]? = H[q]? := fun q hq => by simp [Array.getElem?_setIfInBounds, Ne.symm hq]
  obtain ⟨hP, hz, hA, hN, hS⟩ := hI
  have hx : va_at D cl (a, mw_tr dA (.inl (t0, n1, .inr (.inl (va_cpy f g sp.toNatClampNeg dp.toNatClampNeg n.toNatClampNeg))))) (H.setIfInBounds a (vp_cell (dA t0) (n1, .inr (.inl (va_cpy f g sp.toNatClampNeg dp.toNatClampNeg n.toNatClampNeg))))) := by
    show (H.setIfInBounds a _)[a]? = some _
    simp [Array.getElem?_setIfInBounds, hl, mw_tr]
  have hI2 := mw_I.set (k := 0) ⟨hP, hz, hA, hN, hS⟩ he1 hx (by simp) oq
  obtain ⟨t, a1, b1⟩ := kk _ _ ⟨hI2.1, hI2.2.1, hI2.2.2.1, hI2.2.2.2.1, hI2.2.2.2.2.1, hI2.2.2.2.2.2.1, fun q hq => by
      rcases List.mem_append.mp hq with h | h
      · exact hS.2.2 q h
      · obtain ⟨z, -, hz⟩ := List.mem_map.mp h
        rw [← hz]
        exact hA a _ he1⟩ _ hheap X'
  exact ⟨t, step t a1, b1⟩
end MX
section MY
variable {p : Program} {l : Launch} {e : Env} {R : Room} {s : State} {m : MethodId} {args : Array Value} {below : List Frame} {meth : Method} {c : Code} {H : Heap} {locs : List Loc} {cells slots : Nat} {Q : State → Prop}
variable {cc bytes : ByteArray} {pc nL maxL index n mc ms : Nat} {ls : Array Slot} {rest st0 As : List Value} {D : va_G} {dA : Nat → ClassId} {cl : List vw_C} {A : Nat → Prop} {tys : List (ClassId × FieldType)} {Z : mw_Z} {H0 : Heap} {S S1 : mc_S} {Ts ws : List Cond} {own C : String} {r : Option Nat} {y : MethodName} {ret : Option FieldType} {rm : Room} {Qc : Array Value → State → Outcome → State → Prop} {b : Nat} {g : JFrame} {a : Array Value}
theorem mw_blind {av : List Value} : FrameBlind (va_Pc av (mw_B D dA cl tys Z A S)) := fun _ U _ _ q => ⟨q.1, q.2.1, q.2.2.1, q.2.2.2.1, q.2.2.2.2.1, mw_K.same (u := U) rfl q.2.2.2.2.2⟩
theorem mw_pre (hK : mw_K D cl tys Z s) (hI : mw_I D dA cl A S s.heap H locs) {U : State} (hU : U.heap = H) (hW : s.WarmedH U.vm) {av : List Value} : va_Pc av (mw_B D dA cl tys Z A S) av.toArray U :=
  ⟨rfl, by rw [hU]; exact hI.1, by rw [hU]; exact hI.2.1, hI.2.2.1, fun q hq => hI.2.2.2.1 q (Nat.le_trans hI.2.2.2.2.1 (by rw [hI.2.1]; exact hq)), hK.warm hW⟩
theorem mw_preS (hK : mw_K D cl tys Z s) (hI : mw_I D dA cl A S s.heap H locs) {av : List Value} : PreS s H (va_Pc av (mw_B D dA cl tys Z A S)) av := ⟨mw_blind, fun _ hU hW => mw_pre hK hI hU hW⟩
theorem mw_runV (F : CallFix p m c cc nL s args Ts own) (hK : mw_K D cl tys Z s) (hI : mw_I D dA cl A S s.heap H locs) (hM : Met l y ws rm (va_Pc (va_rf (some b) :: As) (mw_B D dA cl tys Z A S)) Qc mc ms A) (cw : CallW R s args own C index y bytes maxL ret ws rm mc ms n) {ci : Nat} {T : u_T} {N : Nat} (hc : cl[ci]? = some (C, T, N)) (hr : rcv S r ci = some b)
    (hn : As.length = n) (hsize : ls.size = nL) (hstack : st0 = As.reverse ++ va_rf r :: rest) (hW : (rest.map fun v => v.category).sum ≤ 8) (hdg : decode cc pc = .ok (.invokevirtual index, 3)) (hf : cells + mc ≤ R.cells ∧ slots + ms ≤ R.slots) :
    va_Run p l e R s m args below meth c H locs cells slots mc ms (F0 m pc ls st0) rest (Qc (Value.ref b :: As).toArray) A := by
  obtain ⟨rfl, fs, he⟩ := rcv_inv hr
  obtain ⟨q, h1, cell, q1, q2, q3, q4⟩ := hI.1 b _ he
  have hr : q = (C, T, N) := Option.some.inj (h1.symm.trans hc)
  subst hr
  have hKn := hK.1.1 ci _ hc
  exact va_runV F hM cw ⟨mw_blind, ⟨cell, q1, by rw [q3]; rfl, by rw [q2]; exact hKn.2.1⟩, fun U hU hW => mw_pre hK hI hU hW⟩ rfl hn hsize hstack (lv_room hW) hdg hf
theorem mw_runS (F : CallFix p m c cc nL s args Ts own) (hK : mw_K D cl tys Z s) (hI : mw_I D dA cl A S s.heap H locs) (hM : Met l y ws rm (va_Pc As (mw_B D dA cl tys Z A S)) Qc mc ms A) (cw : CallB R s args own index y bytes maxL ret ws rm mc ms n ∧ (Cond.static y).before args s = true)
    (hn : As.length = n) (hsize : ls.size = nL) (hstack : st0 = As.reverse ++ rest) (hW : (rest.map fun v => v.category).sum ≤ 8) (hdg : decode cc pc = .ok (.invokestatic index, 3)) (hf : cells + mc ≤ R.cells ∧ slots + ms ≤ R.slots) :
    va_Run p l e R s m args below meth c H locs cells slots mc ms (F0 m pc ls st0) rest (Qc As.toArray) A := va_runS F hM cw (mw_preS hK hI) rfl hn hsize hstack (lv_room hW) hdg hf
theorem mw_runI (F : CallFix p m c cc nL s args Ts own) (hK : mw_K D cl tys Z s) (hI : mw_I D dA cl A S s.heap H locs) (hM : Met l y ws rm (va_Pc (va_rf (some b) :: As) (mw_B D dA cl tys Z A S)) Qc mc ms A) (cw : CallB R s args own index y bytes maxL none ws rm mc ms n ∧ y.name = "<init>" ∧ (Cond.instanceMethod y).before args s = true) {ci : Nat} (hr : rcv S r ci = some b)
    (hn : As.length = n) (hsize : ls.size = nL) (hstack : st0 = As.reverse ++ va_rf r :: rest) (hW : (rest.map fun v => v.category).sum ≤ 8) (hdg : decode cc pc = .ok (.invokespecial index, 3)) (hf : cells + mc ≤ R.cells ∧ slots + ms ≤ R.slots) :
    va_Run p l e R s m args below meth c H locs cells slots mc ms (F0 m pc ls st0) rest (Qc (Value.ref b :: As).toArray) A := by
  obtain ⟨rfl, fs, he⟩ := rcv_inv hr
  exact va_runI F hM cw (mw_preS (av := va_rf (some b) :: As) hK hI) rfl hn hsize hstack (lv_room hW) hdg hf
theorem mw_runIN (F : CallFix p m c cc nL s args Ts own) (hK : mw_K D cl tys Z s) (hI : mw_I D dA cl A S s.heap H locs) (hM : Met l y ws rm (va_Pc (va_rf (some b) :: As) (mw_B D dA cl tys Z A S)) Qc mc ms A) {host : String} (cw : va_CN R s args own index y host bytes maxL none ws rm mc ms n ∧ y.name = "<init>" ∧ (Cond.instanceMethod y).before args s = true) {ci : Nat} (hr : rcv S r ci = some b)
    (hn : As.length = n) (hsize : ls.size = nL) (hstack : st0 = As.reverse ++ va_rf r :: rest) (hW : (rest.map fun v => v.category).sum ≤ 8) (hdg : decode cc pc = .ok (.invokespecial index, 3)) (hf : cells + mc ≤ R.cells ∧ slots + ms ≤ R.slots) :
    va_Run p l e R s m args below meth c H locs cells slots mc ms (F0 m pc ls st0) rest (Qc (Value.ref b :: As).toArray) A := by
  obtain ⟨rfl, fs, he⟩ := rcv_inv hr
  exact va_runIN F hM cw (mw_preS (av := va_rf (some b) :: As) hK hI) rfl hn hsize hstack (lv_room hW) hdg hf
theorem mw_back (hI : mw_I D dA cl A S H0 H locs) {t : State} {H1 : Heap} {locs1 : List Loc} (ht : t.heap = H1) (hB : mw_R D dA cl A S1 t) (hS : va_S A H0 H1 locs1) : mw_I D dA cl A S1 H0 H1 locs1 := ⟨by rw [← ht]; exact hB.1, by rw [← ht]; exact hB.2.1, hB.2.2, hI.2.2.2.1, hS⟩
theorem mw_calli (hI : mw_I D dA cl A S s.heap H locs) {out : Int32 × mc_S} (hr : va_Run p l e R s m args below meth c H locs cells slots mc ms (F0 m pc ls st0) rest (va_Qi (fun x (_ : Unit) => x = out.1) (fun _ t => mw_R D dA cl A out.2 t) A a) A)
    (kk : ∀ (H1 : Heap) (locs1 : List Loc), mw_I D dA cl A out.2 s.heap H1 locs1 → W p l e R s m args below meth c H1 locs1 (cells + mc) (slots + ms) Q (F0 m (pc + 3) ls (.int out.1 :: rest))) : W p l e R s m args below meth c H locs cells slots Q (F0 m pc ls st0) :=
  va_calli hr hI.2.2.2.2 (fun _ _ h => h) (fun _ h => h) (fun x _ t H1 locs1 ht _ hx hB _ _ hS => by subst hx; exact kk H1 locs1 (mw_back hI ht hB hS))
theorem mw_calll (hI : mw_I D dA cl A S s.heap H locs) {out : Int64 × mc_S} (hr : va_Run p l e R s m args below meth c H locs cells slots mc ms (F0 m pc ls st0) rest (va_Ql (fun x (_ : Unit) => x = out.1) (fun _ t => mw_R D dA cl A out.2 t) A a) A)
    (kk : ∀ (H1 : Heap) (locs1 : List Loc), mw_I D dA cl A out.2 s.heap H1 locs1 → W p l e R s m args below meth c H1 locs1 (cells + mc) (slots + ms) Q (F0 m (pc + 3) ls (.long out.1 :: rest))) : W p l e R s m args below meth c H locs cells slots Q (F0 m pc ls st0) :=
  va_calll hr hI.2.2.2.2 (fun _ _ h => h) (fun _ h => h) (fun x _ t H1 locs1 ht _ hx hB _ _ hS => by subst hx; exact kk H1 locs1 (mw_back hI ht hB hS))
theorem mw_callq (hI : mw_I D dA cl A S s.heap H locs) {out : Option Nat × mc_S} (hr : va_Run p l e R s m args below meth c H locs cells slots mc ms (F0 m pc ls st0) rest (va_Qq (fun x (_ : Unit) => x = out.1) (fun _ t => mw_R D dA cl A out.2 t) A a) A)
    (kk : ∀ (H1 : Heap) (locs1 : List Loc), mw_I D dA cl A out.2 s.heap H1 locs1 → W p l e R s m args below meth c H1 locs1 (cells + mc) (slots + ms) Q (F0 m (pc + 3) ls (va_rf out.1 :: rest))) : W p l e R s m args below meth c H locs cells slots Q (F0 m pc ls st0) :=
  va_callq hr hI.2.2.2.2 (fun _ _ h => h) (fun _ h => h) (fun x _ t H1 locs1 ht _ hx hB _ _ hS => by subst hx; exact kk H1 locs1 (mw_back hI ht hB hS))
theorem mw_callv (hI : mw_I D dA cl A S s.heap H locs) {out : mc_S} (hr : va_Run p l e R s m args below meth c H locs cells slots mc ms (F0 m pc ls st0) rest (va_Qv (fun (_ : Unit) => True) (fun _ t => mw_R D dA cl A out t) A a) A)
    (kk : ∀ (H1 : Heap) (locs1 : List Loc), mw_I D dA cl A out s.heap H1 locs1 → W p l e R s m args below meth c H1 locs1 (cells + mc) (slots + ms) Q (F0 m (pc + 3) ls rest)) : W p l e R s m args below meth c H locs cells slots Q (F0 m pc ls st0) :=
  va_callv hr hI.2.2.2.2 (fun _ _ h => h) (fun _ h => h) (fun _ t H1 locs1 ht _ _ hB _ _ hS => kk H1 locs1 (mw_back hI ht hB hS))
theorem mw_end (hI : mw_I D dA cl A S s.heap H locs) {t : State} (ht : t.heap = H) : mw_R D dA cl A S t := ⟨by rw [ht]; exact hI.1, by rw [ht]; exact hI.2.1, hI.2.2.1⟩
theorem mw_iret (F : CallFix p m c cc nL s args Ts own) (hI : mw_I D dA cl A S s.heap H locs) (hr : meth.sig.returnType = some .int) (hlk : meth.locks = false) {out : Int32 × mc_S} {v : Int32} (h : some (v, S) = some out) (hc : cells ≤ mc) (hs : slots ≤ ms) (hdg : decode cc pc = .ok (.ireturn, 1)) :
    W p l e R s m args below meth c H locs cells slots (MQ below (va_Qi (fun x (_ : Unit) => x = out.1) (fun _ t => mw_R D dA cl A out.2 t) A) args s mc ms A) (F0 m pc ls [.int v]) := by
  cases h
  exact W.widen hc hs (W.iret F.1 F.2.1 hr (fun t ht _ => ⟨⟨_, (), rfl, rfl, mw_end hI ht⟩, hI.2.2.2.2.F ht⟩) hI.2.2.2.2.2.2 hdg hlk)
theorem mw_zret (F : CallFix p m c cc nL s args Ts own) (hI : mw_I D dA cl A S s.heap H locs) {ty : FieldType} (hr : meth.sig.returnType = some ty) (hlk : meth.locks = false) {out : Int32 × mc_S} {v : Int32} (hn : narrow ty (.int v) = .int v) (h : some (v, S) = some out) (hc : cells ≤ mc) (hs : slots ≤ ms) (hdg : decode cc pc = .ok (.ireturn, 1)) :
    W p l e R s m args below meth c H locs cells slots (MQ below (va_Qi (fun x (_ : Unit) => x = out.1) (fun _ t => mw_R D dA cl A out.2 t) A) args s mc ms A) (F0 m pc ls [.int v]) := by
  cases h
  exact W.widen hc hs (W.zret F.1 F.2.1 hr hn (fun t ht _ => ⟨⟨_, (), rfl, rfl, mw_end hI ht⟩, hI.2.2.2.2.F ht⟩) hI.2.2.2.2.2.2 hdg hlk)
theorem mw_lret (F : CallFix p m c cc nL s args Ts own) (hI : mw_I D dA cl A S s.heap H locs) (hr : meth.sig.returnType = some .long) (hlk : meth.locks = false) {out : Int64 × mc_S} {v : Int64} (h : some (v, S) = some out) (hc : cells ≤ mc) (hs : slots ≤ ms) (hdg : decode cc pc = .ok (.lreturn, 1)) :
    W p l e R s m args below meth c H locs cells slots (MQ below (va_Ql (fun x (_ : Unit) => x = out.1) (fun _ t => mw_R D dA cl A out.2 t) A) args s mc ms A) (F0 m pc ls [.long v]) := by
  cases h
  exact W.widen hc hs (W.lret F.1 F.2.1 hr (fun t ht _ => ⟨⟨_, (), rfl, rfl, mw_end hI ht⟩, hI.2.2.2.2.F ht⟩) hI.2.2.2.2.2.2 hdg hlk)
theorem mw_qret (F : CallFix p m c cc nL s args Ts own) (hI : mw_I D dA cl A S s.heap H locs) {C : String} (hr : meth.sig.returnType = some (.object C)) (hlk : meth.locks = false) {out : Option Nat × mc_S} {v : Option Nat} (h : some (v, S) = some out) (hc : cells ≤ mc) (hs : slots ≤ ms) (hdg : decode cc pc = .ok (.areturn, 1)) :
    W p l e R s m args below meth c H locs cells slots (MQ below (va_Qq (fun x (_ : Unit) => x = out.1) (fun _ t => mw_R D dA cl A out.2 t) A) args s mc ms A) (F0 m pc ls [va_rf v]) := by
  cases h
  exact W.widen hc hs (W.aret F.1 F.2.1 hr (Or.inl ⟨C, rfl⟩) (va_rf_or v) (fun t ht _ => ⟨⟨_, (), rfl, rfl, mw_end hI ht⟩, hI.2.2.2.2.F ht⟩) hI.2.2.2.2.2.2 hdg hlk)
theorem mw_vret (F : CallFix p m c cc nL s args Ts own) (hI : mw_I D dA cl A S s.heap H locs) (hr : meth.sig.returnType = none) (hlk : meth.locks = false) {out : mc_S} (h : some S = some out) (hc : cells ≤ mc) (hs : slots ≤ ms) (hdg : decode cc pc = .ok (.return_, 1)) :
    W p l e R s m args below meth c H locs cells slots (MQ below (va_Qv (fun (_ : Unit) => True) (fun _ t => mw_R D dA cl A out t) A) args s mc ms A) (F0 m pc ls []) := by
  cases h
  exact W.widen hc hs (W.vret F.1 F.2.1 hr (fun t ht _ => ⟨⟨(), rfl, trivial, mw_end hI ht⟩, hI.2.2.2.2.F ht⟩) hI.2.2.2.2.2.2 hdg hlk)
end MY
abbrev mt_T : Type := Int32 ⊕ Int64 ⊕ Option Nat
def mt_V (t : mt_T) : Value := match t with
  | .inl x => .int x
  | .inr (.inl x) => .long x
  | .inr (.inr r) => va_rf r
def mt_c (t : mt_T) : Nat := match t with
  | .inl _ => 1
  | .inr (.inl _) => 2
  | .inr (.inr _) => 1
theorem mt_cV (t : mt_T) : (mt_V t).category = mt_c t := by
  rcases t with x | x | r
  · rfl
  · rfl
  · cases r <;> rfl
def mt_p (q : Nat × mt_T) : Nat × Value := (q.1, mt_V q.2)
def mt_L (ls : Array Slot) (nL : Nat) (l : List (Nat × mt_T)) : Prop := lv_has ls nL (l.map mt_p)
def mt_o1 (i : Nat) (l : List (Nat × mt_T)) : List (Nat × mt_T) := l.filter (fun q => !(q.1 == i) && !(q.1 + 1 == i && mt_c q.2 == 2))
def mt_o2 (i : Nat) (l : List (Nat × mt_T)) : List (Nat × mt_T) := l.filter (fun q => !(q.1 == i) && (!(q.1 == i + 1) && !(q.1 + 1 == i && mt_c q.2 == 2)))
theorem mt_f1 (i : Nat) (l : List (Nat × mt_T)) : (l.map mt_p).filter (fun q => !(q.1 == i) && !(q.1 + 1 == i && q.2.category == 2)) = (mt_o1 i l).map mt_p := by
  rw [List.filter_map]
  unfold mt_o1
  congr 1
  congr 1
  funext q
  show (!(q.1 == i) && !(q.1 + 1 == i && (mt_V q.2).category == 2)) = _
  rw [mt_cV]
theorem mt_f2 (i : Nat) (l : List (Nat × mt_T)) : (l.map mt_p).filter (fun q => !(q.1 == i) && (!(q.1 == i + 1) && !(q.1 + 1 == i && q.2.category == 2))) = (mt_o2 i l).map mt_p := by
  rw [List.filter_map]
  unfold mt_o2
  congr 1
  congr 1
  funext q
  show (!(q.1 == i) && (!(q.1 == i + 1) && !(q.1 + 1 == i && (mt_V q.2).category == 2))) = _
  rw [mt_cV]
def mt_args : Nat → List mt_T → List (Nat × mt_T)
  | _, [] => []
  | i, t :: ts => (i, t) :: mt_args (i + mt_c t) ts
theorem mt_args_eq (ts : List mt_T) : ∀ i : Nat, lv_args i (ts.map mt_V) = (mt_args i ts).map mt_p := by
  induction ts with
  | nil => intro i; rfl
  | cons t ts ih =>
    intro i
    show (i, mt_V t) :: lv_args (if (mt_V t).category = 2 then i + 2 else i + 1) (ts.map mt_V) = (i, mt_V t) :: (mt_args (i + mt_c t) ts).map mt_p
    rw [ih, mt_cV]
    rcases t with x | x | r <;> rfl
def mt_n (ts : List mt_T) : Nat := match ts with
  | [] => 0
  | t :: ts => mt_c t + mt_n ts
theorem mt_len (ts : List mt_T) : (lg_sl (ts.map mt_V)).length = mt_n ts := by
  induction ts with
  | nil => rfl
  | cons t ts ih =>
    have h : lg_sl ((t :: ts).map mt_V) = (if (mt_V t).category = 2 then [.val (mt_V t), .second] else [.val (mt_V t)]) ++ lg_sl (ts.map mt_V) := rfl
    rw [h, List.length_append, ih, mt_cV]
    show _ = mt_c t + mt_n ts
    rcases t with x | x | r <;> rfl
section MT
variable {p : Program} {l : Launch} {e : Env} {R : Room} {s : State} {m : MethodId} {args : Array Value} {below : List Frame} {meth : Method} {c : Code} {H : Heap} {locs : List Loc} {cells slots : Nat} {Q : State → Prop}
variable {cc : ByteArray} {pc nL nF : Nat} {ls : Array Slot} {rest : List Value} {Ts : List Cond} {own : String} {r : Option Nat} {lv lv' : List (Nat × mt_T)}
theorem mt_at (h : mt_L ls nL lv) (k : Nat) {i : Nat} {t : mt_T} (hk : lv[k]? = some (i, t)) : ls[i]? = some (.val (mt_V t)) := lv_at h k (by rw [List.getElem?_map, hk]; rfl)
theorem mt_iload_n (F : CallFix p m c cc nF s args Ts own) (h : mt_L ls nL lv) (q : Nat) {k : Fin 4} {i : Nat} {x : Int32} (hk : lv[q]? = some (i, .inl x)) (hi : (k : Nat) = i) (hdg : decode cc pc = .ok (.iload_n k, 1)) (kk : W p l e R s m args below meth c H locs cells slots Q (F0 m (pc + 1) ls (.int x :: rest))) : W p l e R s m args below meth c H locs cells slots Q (F0 m pc ls rest) := lv_iload_n F.1 F.2.1 hdg hi (mt_at h q hk) kk
theorem mt_iload (F : CallFix p m c cc nF s args Ts own) (h : mt_L ls nL lv) (q : Nat) {i : Nat} {x : Int32} (hk : lv[q]? = some (i, .inl x)) (hdg : decode cc pc = .ok (.iload i, 2)) (kk : W p l e R s m args below meth c H locs cells slots Q (F0 m (pc + 2) ls (.int x :: rest))) : W p l e R s m args below meth c H locs cells slots Q (F0 m pc ls rest) := lv_iload F.1 F.2.1 hdg (mt_at h q hk) kk
theorem mt_lload_n (F : CallFix p m c cc nF s args Ts own) (h : mt_L ls nL lv) (q : Nat) {k : Fin 4} {i : Nat} {x : Int64} (hk : lv[q]? = some (i, .inr (.inl x))) (hi : (k : Nat) = i) (hdg : decode cc pc = .ok (.lload_n k, 1)) (kk : W p l e R s m args below meth c H locs cells slots Q (F0 m (pc + 1) ls (.long x :: rest))) : W p l e R s m args below meth c H locs cells slots Q (F0 m pc ls rest) := lv_lload_n F.1 F.2.1 hdg hi (mt_at h q hk) kk
theorem mt_lload (F : CallFix p m c cc nF s args Ts own) (h : mt_L ls nL lv) (q : Nat) {i : Nat} {x : Int64} (hk : lv[q]? = some (i, .inr (.inl x))) (hdg : decode cc pc = .ok (.lload i, 2)) (kk : W p l e R s m args below meth c H locs cells slots Q (F0 m (pc + 2) ls (.long x :: rest))) : W p l e R s m args below meth c H locs cells slots Q (F0 m pc ls rest) := lv_lload F.1 F.2.1 hdg (mt_at h q hk) kk
theorem mt_aload_n (F : CallFix p m c cc nF s args Ts own) (h : mt_L ls nL lv) (q : Nat) {k : Fin 4} {i : Nat} (hk : lv[q]? = some (i, .inr (.inr r))) (hi : (k : Nat) = i) (hdg : decode cc pc = .ok (.aload_n k, 1)) (kk : W p l e R s m args below meth c H locs cells slots Q (F0 m (pc + 1) ls (va_rf r :: rest))) : W p l e R s m args below meth c H locs cells slots Q (F0 m pc ls rest) := mw_aload_n F hdg hi (mt_at h q hk) kk
theorem mt_aload (F : CallFix p m c cc nF s args Ts own) (h : mt_L ls nL lv) (q : Nat) {i : Nat} (hk : lv[q]? = some (i, .inr (.inr r))) (hdg : decode cc pc = .ok (.aload i, 2)) (kk : W p l e R s m args below meth c H locs cells slots Q (F0 m (pc + 2) ls (va_rf r :: rest))) : W p l e R s m args below meth c H locs cells slots Q (F0 m pc ls rest) := mw_aload F hdg (mt_at h q hk) kk
theorem mt_istore_n (F : CallFix p m c cc nF s args Ts own) (h : mt_L ls nL lv) {k : Fin 4} {i : Nat} {x : Int32} (hi : (k : Nat) = i) (hn : i < nL) (hl : (i, .inl x) :: mt_o1 i lv = lv') (hdg : decode cc pc = .ok (.istore_n k, 1))
    (kk : ∀ ls' : Array Slot, mt_L ls' nL lv' → W p l e R s m args below meth c H locs cells slots Q (F0 m (pc + 1) ls' rest)) : W p l e R s m args below meth c H locs cells slots Q (F0 m pc ls (.int x :: rest)) := lv_istore_n F.1 F.2.1 hdg hi h hn (lv' := lv'.map mt_p) (by rw [mt_f1, ← hl]; rfl) kk
theorem mt_istore (F : CallFix p m c cc nF s args Ts own) (h : mt_L ls nL lv) {i : Nat} {x : Int32} (hn : i < nL) (hl : (i, .inl x) :: mt_o1 i lv = lv') (hdg : decode cc pc = .ok (.istore i, 2))
    (kk : ∀ ls' : Array Slot, mt_L ls' nL lv' → W p l e R s m args below meth c H locs cells slots Q (F0 m (pc + 2) ls' rest)) : W p l e R s m args below meth c H locs cells slots Q (F0 m pc ls (.int x :: rest)) := lv_istore F.1 F.2.1 hdg h hn (lv' := lv'.map mt_p) (by rw [mt_f1, ← hl]; rfl) kk
theorem mt_lstore_n (F : CallFix p m c cc nF s args Ts own) (h : mt_L ls nL lv) {k : Fin 4} {i : Nat} {x : Int64} (hi : (k : Nat) = i) (hn : i + 1 < nL) (hl : (i, .inr (.inl x)) :: mt_o2 i lv = lv') (hdg : decode cc pc = .ok (.lstore_n k, 1))
    (kk : ∀ ls' : Array Slot, mt_L ls' nL lv' → W p l e R s m args below meth c H locs cells slots Q (F0 m (pc + 1) ls' rest)) : W p l e R s m args below meth c H locs cells slots Q (F0 m pc ls (.long x :: rest)) := lv_lstore_n F.1 F.2.1 hdg hi h hn (lv' := lv'.map mt_p) (by rw [mt_f2, ← hl]; rfl) kk
theorem mt_lstore (F : CallFix p m c cc nF s args Ts own) (h : mt_L ls nL lv) {i : Nat} {x : Int64} (hn : i + 1 < nL) (hl : (i, .inr (.inl x)) :: mt_o2 i lv = lv') (hdg : decode cc pc = .ok (.lstore i, 2))
    (kk : ∀ ls' : Array Slot, mt_L ls' nL lv' → W p l e R s m args below meth c H locs cells slots Q (F0 m (pc + 2) ls' rest)) : W p l e R s m args below meth c H locs cells slots Q (F0 m pc ls (.long x :: rest)) := lv_lstore F.1 F.2.1 hdg h hn (lv' := lv'.map mt_p) (by rw [mt_f2, ← hl]; rfl) kk
theorem mt_astore_n (F : CallFix p m c cc nF s args Ts own) (h : mt_L ls nL lv) {k : Fin 4} {i : Nat} (hi : (k : Nat) = i) (hn : i < nL) (hl : (i, .inr (.inr r)) :: mt_o1 i lv = lv') (hdg : decode cc pc = .ok (.astore_n k, 1))
    (kk : ∀ ls' : Array Slot, mt_L ls' nL lv' → W p l e R s m args below meth c H locs cells slots Q (F0 m (pc + 1) ls' rest)) : W p l e R s m args below meth c H locs cells slots Q (F0 m pc ls (va_rf r :: rest)) := by
  have hh : (i, va_rf r) :: (lv.map mt_p).filter (fun q => !(q.1 == i) && !(q.1 + 1 == i && q.2.category == 2)) = lv'.map mt_p := by rw [mt_f1, ← hl]; rfl
  cases r with
  | none => exact lv_astore_nN F.1 F.2.1 hdg hi h hn hh kk
  | some y => exact lv_astore_n F.1 F.2.1 hdg hi h hn hh kk
theorem mt_astore (F : CallFix p m c cc nF s args Ts own) (h : mt_L ls nL lv) {i : Nat} (hn : i < nL) (hl : (i, .inr (.inr r)) :: mt_o1 i lv = lv') (hdg : decode cc pc = .ok (.astore i, 2))
    (kk : ∀ ls' : Array Slot, mt_L ls' nL lv' → W p l e R s m args below meth c H locs cells slots Q (F0 m (pc + 2) ls' rest)) : W p l e R s m args below meth c H locs cells slots Q (F0 m pc ls (va_rf r :: rest)) := by
  have hh : (i, va_rf r) :: (lv.map mt_p).filter (fun q => !(q.1 == i) && !(q.1 + 1 == i && q.2.category == 2)) = lv'.map mt_p := by rw [mt_f1, ← hl]; rfl
  cases r with
  | none => exact lv_astoreN F.1 F.2.1 hdg h hn hh kk
  | some y => exact lv_astore F.1 F.2.1 hdg h hn hh kk
theorem mt_iinc (F : CallFix p m c cc nF s args Ts own) (h : mt_L ls nL lv) (q : Nat) {i : Nat} {n : Int} {x v : Int32} (hk : lv[q]? = some (i, .inl x)) (hv : x + Int32.ofInt n = v) (hn : i < nL) (hl : (i, .inl v) :: mt_o1 i lv = lv') (hdg : decode cc pc = .ok (.iinc i n, 3))
    (kk : ∀ ls' : Array Slot, mt_L ls' nL lv' → W p l e R s m args below meth c H locs cells slots Q (F0 m (pc + 3) ls' rest)) : W p l e R s m args below meth c H locs cells slots Q (F0 m pc ls rest) := lv_iinc (k := q) F.1 F.2.1 hdg h (by rw [List.getElem?_map, hk]; rfl) hv hn (lv' := lv'.map mt_p) (by rw [mt_f1, ← hl]; rfl) kk
theorem mt_sub (h : mt_L ls nL lv) (ks : List Nat) (hl : ks.filterMap (fun k => lv[k]?) = lv') : mt_L ls nL lv' := by
  subst hl
  refine ⟨h.1, h.2.1, fun q hq => ?_⟩
  obtain ⟨z, hz, rfl⟩ := List.mem_map.mp hq
  obtain ⟨k, -, hk⟩ := List.mem_filterMap.mp hz
  exact h.2.2 _ (List.mem_map.mpr ⟨z, List.mem_of_getElem? hk, rfl⟩)
end MT
section MO
variable {l : Launch} {cc : ByteArray} {maxL mc ms : Nat} {D : va_G} {dA : Nat → ClassId} {cl : List vw_C} {A : Nat → Prop} {tys : List (ClassId × FieldType)} {Z : mw_Z} {S : mc_S} {y : MethodName} {ret : Option FieldType} {rm : Room} {Qc : Array Value → State → Outcome → State → Prop}
theorem mw_ofW {ws' : List Cond} {av : List Value} (ts : List mt_T) (hav : ts.map mt_V = av) {L : List (Nat × mt_T)} (hy : plainName y.cls = true) (hlen : mt_n ts ≤ maxL) (hL : mt_args 0 ts = L)
    (body : ∀ (p : Program) (e : Env) (s : State) (m : MethodId) (args : Array Value) (below : List Frame) (meth : Method) (c : Code), CallFix p m c cc maxL s args (Cond.code y cc maxL ret :: ws') y.cls → meth.sig.returnType = ret → meth.locks = false → meth.name = y.name → mw_K D cl tys Z s → ∀ ls : Array Slot, mt_L ls maxL L → mw_I D dA cl A S s.heap s.heap [] →
      W p l e rm s m args below meth c s.heap [] 0 0 (MQ below Qc args s mc ms A) (F0 m 0 ls [])) : Met l y (Cond.code y cc maxL ret :: ws') rm (va_Pc av (mw_B D dA cl tys Z A S)) Qc mc ms A := by
  subst hav
  refine Met.ofW (cc := cc) (maxL := maxL) (ret := ret) hy rfl ?_
  intro p e s m args below meth c s₁ B hml hv
  obtain ⟨rfl, hP, hz, hA, hN, hK⟩ := hv
  have hl := lv_entry (ts.map mt_V) (n := maxL) (by rw [mt_len]; exact hlen)
  rw [lg_entry_eq]
  generalize (lg_sl (ts.map mt_V) ++ List.replicate (maxL - (lg_sl (ts.map mt_V)).length) Slot.unset).toArray = ls at hl ⊢
  rw [mt_args_eq, hL] at hl
  exact body p e s m _ below meth c ⟨B.exec, B.bytes, hml, findClass_of_methodNamed B.named, atoms_spec (ws := Cond.code y cc maxL ret :: ws') B.pre⟩ B.returns B.notSynchronized (name_of_methodNamed B.named B.method).1 hK ls hl ⟨hP, hz, hA, fun q hq => hN q (by rw [← hz]; exact hq), va_S.rf⟩
end MO
theorem mw_narO (C : String) (r : Option Nat) : narrow (.object C) (va_rf r) = va_rf r := by cases r <;> rfl
theorem mw_narA (t : FieldType) (r : Option Nat) : narrow (.array t) (va_rf r) = va_rf r := by cases r <;> rfl
theorem mw_fitO (C : String) (r : Option Nat) : fits (.object C) (va_rf r) = true := by cases r <;> rfl
theorem mw_fitA (t : FieldType) (r : Option Nat) : fits (.array t) (va_rf r) = true := by cases r <;> rfl
section MS
variable {p : Program} {l : Launch} {e : Env} {R : Room} {s : State} {m : MethodId} {args : Array Value} {below : List Frame} {meth : Method} {c : Code} {H : Heap} {locs : List Loc} {cells slots : Nat} {Q : State → Prop}
variable {cc : ByteArray} {pc nF : Nat} {ls : Array Slot} {rest : List Value} {D : va_G} {dA : Nat → ClassId} {cl : List vw_C} {A : Nat → Prop} {H0 : Heap} {S : mc_S} {Ts : List Cond} {own : String}
theorem mw_sld (F : CallFix p m c cc nF s args Ts own) {bs L0 : Nat} {xs : Nat → Int32} (hX : va_X bs L0 xs s H0) (hbl : bs < H0.size) (hbA : ¬ A bs) (hI : mw_I D dA cl A S H0 H locs) {i v : Int32} (h : scI L0 xs i = some v) (hdg : decode cc pc = .ok (.iaload, 1))
    (kk : W p l e R s m args below meth c H locs cells slots Q (F0 m (pc + 1) ls (.int v :: rest))) : W p l e R s m args below meth c H locs cells slots Q (F0 m pc ls (.int i :: va_rf (some bs) :: rest)) := by
  obtain ⟨hin, rfl⟩ := scI_inv h
  exact va_sld F.1 F.2.1 hX hbl hbA hI.2.2.2.2 hin hdg kk
theorem mw_slen (F : CallFix p m c cc nF s args Ts own) {bs L0 : Nat} {xs : Nat → Int32} (hX : va_X bs L0 xs s H0) (hbl : bs < H0.size) (hbA : ¬ A bs) (hI : mw_I D dA cl A S H0 H locs) (hdg : decode cc pc = .ok (.arraylength, 1))
    (kk : W p l e R s m args below meth c H locs cells slots Q (F0 m (pc + 1) ls (.int (Int32.ofNat L0) :: rest))) : W p l e R s m args below meth c H locs cells slots Q (F0 m pc ls (va_rf (some bs) :: rest)) := va_slen F.1 F.2.1 hX hbl hbA hI.2.2.2.2 hdg kk
end MS
