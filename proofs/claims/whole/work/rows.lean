section
def lw_okq (q : MethodName × Nat) : Prop := (q.1.cls ≠ "java/lang/invoke/MethodHandle" ∧ q.1.cls ≠ "java/lang/invoke/VarHandle") ∧ Cond.instantiable q.1.cls q.2 ∈ tables_1 ∧ Cond.privateMethod q.1 ∈ tables_1 ∧ Cond.instanceMethod q.1 ∈ tables_1
theorem lw_p0 : lw_okq (⟨"KeepHeap", "valueOf", "(II)J"⟩, 7) := ⟨⟨by decide +kernel, by decide +kernel⟩, List.mem_of_getElem? (i := 9) (by decide +kernel), List.mem_of_getElem? (i := 111) (by decide +kernel), List.mem_of_getElem? (i := 112) (by decide +kernel)⟩
theorem lw_p1 : lw_okq (⟨"KeepHeap", "own", "(II)LKeepHeap$Slots;"⟩, 7) := ⟨⟨by decide +kernel, by decide +kernel⟩, List.mem_of_getElem? (i := 9) (by decide +kernel), List.mem_of_getElem? (i := 122) (by decide +kernel), List.mem_of_getElem? (i := 123) (by decide +kernel)⟩
theorem lw_p2 : lw_okq (⟨"KeepHeap", "kept", "()LKeepHeap$State;"⟩, 7) := ⟨⟨by decide +kernel, by decide +kernel⟩, List.mem_of_getElem? (i := 9) (by decide +kernel), List.mem_of_getElem? (i := 131) (by decide +kernel), List.mem_of_getElem? (i := 132) (by decide +kernel)⟩
theorem lw_p3 : lw_okq (⟨"KeepHeap", "ringIndex", "(I)I"⟩, 7) := ⟨⟨by decide +kernel, by decide +kernel⟩, List.mem_of_getElem? (i := 9) (by decide +kernel), List.mem_of_getElem? (i := 135) (by decide +kernel), List.mem_of_getElem? (i := 136) (by decide +kernel)⟩
theorem lw_p4 : lw_okq (⟨"KeepHeap", "ownRoots", "()LKeepHeap$Slots;"⟩, 7) := ⟨⟨by decide +kernel, by decide +kernel⟩, List.mem_of_getElem? (i := 9) (by decide +kernel), List.mem_of_getElem? (i := 204) (by decide +kernel), List.mem_of_getElem? (i := 205) (by decide +kernel)⟩
theorem lw_p5 : lw_okq (⟨"KeepHeap", "changedBytes", "()I"⟩, 7) := ⟨⟨by decide +kernel, by decide +kernel⟩, List.mem_of_getElem? (i := 9) (by decide +kernel), List.mem_of_getElem? (i := 216) (by decide +kernel), List.mem_of_getElem? (i := 217) (by decide +kernel)⟩
theorem lw_p6 : lw_okq (⟨"KeepHeap", "keepNow", "(I)V"⟩, 7) := ⟨⟨by decide +kernel, by decide +kernel⟩, List.mem_of_getElem? (i := 9) (by decide +kernel), List.mem_of_getElem? (i := 229) (by decide +kernel), List.mem_of_getElem? (i := 230) (by decide +kernel)⟩
theorem lw_p7 : lw_okq (⟨"KeepHeap", "entriesWithin", "(I)I"⟩, 7) := ⟨⟨by decide +kernel, by decide +kernel⟩, List.mem_of_getElem? (i := 9) (by decide +kernel), List.mem_of_getElem? (i := 271) (by decide +kernel), List.mem_of_getElem? (i := 272) (by decide +kernel)⟩
theorem lw_p8 : lw_okq (⟨"KeepHeapModel", "is", "(II)Z"⟩, 8) := ⟨⟨by decide +kernel, by decide +kernel⟩, List.mem_of_getElem? (i := 291) (by decide +kernel), List.mem_of_getElem? (i := 369) (by decide +kernel), List.mem_of_getElem? (i := 370) (by decide +kernel)⟩
theorem lw_p9 : lw_okq (⟨"KeepHeapModel", "isValue", "(II)Z"⟩, 8) := ⟨⟨by decide +kernel, by decide +kernel⟩, List.mem_of_getElem? (i := 291) (by decide +kernel), List.mem_of_getElem? (i := 377) (by decide +kernel), List.mem_of_getElem? (i := 378) (by decide +kernel)⟩
theorem lw_p10 : lw_okq (⟨"KeepHeapModel", "isThere", "(I)Z"⟩, 8) := ⟨⟨by decide +kernel, by decide +kernel⟩, List.mem_of_getElem? (i := 291) (by decide +kernel), List.mem_of_getElem? (i := 381) (by decide +kernel), List.mem_of_getElem? (i := 382) (by decide +kernel)⟩
theorem lw_p11 : lw_okq (⟨"KeepHeapModel", "keep", "(I)V"⟩, 8) := ⟨⟨by decide +kernel, by decide +kernel⟩, List.mem_of_getElem? (i := 291) (by decide +kernel), List.mem_of_getElem? (i := 440) (by decide +kernel), List.mem_of_getElem? (i := 441) (by decide +kernel)⟩
theorem lw_p12 : lw_okq (⟨"KeepHeapModel", "reach", "(JI)I"⟩, 8) := ⟨⟨by decide +kernel, by decide +kernel⟩, List.mem_of_getElem? (i := 291) (by decide +kernel), List.mem_of_getElem? (i := 457) (by decide +kernel), List.mem_of_getElem? (i := 458) (by decide +kernel)⟩
def lw_privs_1 : List (MethodName × Nat) := [(⟨"KeepHeap", "valueOf", "(II)J"⟩, 7), (⟨"KeepHeap", "own", "(II)LKeepHeap$Slots;"⟩, 7), (⟨"KeepHeap", "kept", "()LKeepHeap$State;"⟩, 7), (⟨"KeepHeap", "ringIndex", "(I)I"⟩, 7), (⟨"KeepHeap", "ownRoots", "()LKeepHeap$Slots;"⟩, 7), (⟨"KeepHeap", "changedBytes", "()I"⟩, 7), (⟨"KeepHeap", "keepNow", "(I)V"⟩, 7), (⟨"KeepHeap", "entriesWithin", "(I)I"⟩, 7), (⟨"KeepHeapModel", "is", "(II)Z"⟩, 8), (⟨"KeepHeapModel", "isValue", "(II)Z"⟩, 8), (⟨"KeepHeapModel", "isThere", "(I)Z"⟩, 8), (⟨"KeepHeapModel", "keep", "(I)V"⟩, 8), (⟨"KeepHeapModel", "reach", "(JI)I"⟩, 8)]
theorem lw_r1 : ∀ q ∈ lw_privs_1, lw_okq q := List.forall_mem_cons.mpr ⟨lw_p0, List.forall_mem_cons.mpr ⟨lw_p1, List.forall_mem_cons.mpr ⟨lw_p2, List.forall_mem_cons.mpr ⟨lw_p3, List.forall_mem_cons.mpr ⟨lw_p4, List.forall_mem_cons.mpr ⟨lw_p5, List.forall_mem_cons.mpr ⟨lw_p6, List.forall_mem_cons.mpr ⟨lw_p7, List.forall_mem_cons.mpr ⟨lw_p8, List.forall_mem_cons.mpr ⟨lw_p9, List.forall_mem_cons.mpr ⟨lw_p10, List.forall_mem_cons.mpr ⟨lw_p11, List.forall_mem_cons.mpr ⟨lw_p12, fun _ h => absurd h List.not_mem_nil⟩⟩⟩⟩⟩⟩⟩⟩⟩⟩⟩⟩⟩
def lw_privs : List (MethodName × Nat) := lw_privs_1
def lw_tbl : List Cond := k2_sels lw_privs ++ tables_1
theorem lw_privs_ok : ∀ q ∈ lw_privs, lw_okq q := lw_r1
end
section
abbrev mc_E : Type := (Nat × vp_A) ⊕ (Nat × List Value)
abbrev mc_M : Type := Nat → Option mc_E
abbrev mc_S : Type := mc_M × Nat
def mw_tr (dA : Nat → ClassId) (x : mc_E) : va_E := match x with
  | .inl a => .inl (dA a.1, a.2)
  | .inr o => .inr o
def mw_P (D : va_G) (dA : Nat → ClassId) (cl : List vw_C) (M : mc_M) (H : Heap) : Prop := ∀ (a : Nat) (x : mc_E), M a = some x → va_at D cl (a, mw_tr dA x) H
def mw_I (D : va_G) (dA : Nat → ClassId) (cl : List vw_C) (A : Nat → Prop) (S : mc_S) (H0 H : Heap) (locs : List Loc) : Prop := mw_P D dA cl S.1 H ∧ H.size = S.2 ∧ (∀ (a : Nat) (x : mc_E), S.1 a = some x → A a) ∧ (∀ q : Nat, H0.size ≤ q → A q) ∧ va_S A H0 H locs
abbrev mw_Z : Type := List (String × Nat × MethodName × String) × List String
def mw_K (D : va_G) (cl : List vw_C) (tys : List (ClassId × FieldType)) (Z : mw_Z) (U : State) : Prop := va_K D cl tys U ∧ (∀ z ∈ Z.1, va_Nw (.methodLinkNest z.1 z.2.1 z.2.2.1 z.2.2.2) U) ∧ ∀ C ∈ Z.2, va_AO C U
def mw_B (D : va_G) (dA : Nat → ClassId) (cl : List vw_C) (tys : List (ClassId × FieldType)) (Z : mw_Z) (A : Nat → Prop) (S : mc_S) (U : State) : Prop := mw_P D dA cl S.1 U.heap ∧ U.heap.size = S.2 ∧ (∀ (a : Nat) (x : mc_E), S.1 a = some x → A a) ∧ (∀ q : Nat, S.2 ≤ q → A q) ∧ mw_K D cl tys Z U
def mw_R (D : va_G) (dA : Nat → ClassId) (cl : List vw_C) (A : Nat → Prop) (S : mc_S) (t : State) : Prop := mw_P D dA cl S.1 t.heap ∧ t.heap.size = S.2 ∧ ∀ (a : Nat) (x : mc_E), S.1 a = some x → A a
theorem mw_K.warm {D : va_G} {cl : List vw_C} {tys : List (ClassId × FieldType)} {Z : mw_Z} {s U : State} (hW : s.WarmedH U.vm) (h : mw_K D cl tys Z s) : mw_K D cl tys Z U := ⟨va_K.moved hW.alike h.1, fun z hz => va_Nw.warmM hW (h.2.1 z hz), fun C hC => (h.2.2 C hC).moved hW.alike⟩
theorem mw_K.same {D : va_G} {cl : List vw_C} {tys : List (ClassId × FieldType)} {Z : mw_Z} {u U : State} (hv : u.vm = U.vm) (h : mw_K D cl tys Z u) : mw_K D cl tys Z U := ⟨va_K.moved (u := u) (U := U) (by rw [hv]; exact Vm.Alike.refl U.vm) h.1, fun z hz => va_Nw.same rfl hv (h.2.1 z hz), fun C hC => (h.2.2 C hC).moved (by rw [hv]; exact Vm.Alike.refl U.vm)⟩
theorem mw_P.lt {D : va_G} {dA : Nat → ClassId} {cl : List vw_C} {M : mc_M} {H : Heap} (h : mw_P D dA cl M H) {a : Nat} {x : mc_E} (ha : M a = some x) : a < H.size := (h a x ha).lt
theorem mw_I.set {D : va_G} {dA : Nat → ClassId} {cl : List vw_C} {A : Nat → Prop} {S : mc_S} {H0 H H1 : Heap} {locs : List Loc} (h : mw_I D dA cl A S H0 H locs) {a k : Nat} {x0 x1 : mc_E} (ha : S.1 a = some x0) (hx : va_at D cl (a, mw_tr dA x1) H1) (z : H1.size = H.size) (oq : ∀ q : Nat, q ≠ a → H1[q]? = H[q]?) : mw_I D dA cl A (va_up S.1 a (some x1), S.2) H0 H1 (locs ++ [⟨a, k⟩]) := by
  obtain ⟨hP, hz, hA, hN, hS⟩ := h
  refine ⟨fun b y hb => ?_, z.trans hz, fun b y hb => ?_, hN, hS.put z oq (hA a x0 ha)⟩
  · by_cases hba : b = a
    · subst hba
      have hb : va_up S.1 b (some x1) b = some y := hb
      rw [va_up_self] at hb
      cases hb
      exact hx
    · have hb : va_up S.1 a (some x1) b = some y := hb
      rw [va_up_ne _ _ hba] at hb
      exact (hP b y hb).kept (oq b hba)
  · by_cases hba : b = a
    · subst hba
      exact hA b x0 ha
    · have hb : va_up S.1 a (some x1) b = some y := hb
      rw [va_up_ne _ _ hba] at hb
      exact hA b y hb
theorem mw_I.push {D : va_G} {dA : Nat → ClassId} {cl : List vw_C} {A : Nat → Prop} {S : mc_S} {H0 H H1 : Heap} {locs : List Loc} (h : mw_I D dA cl A S H0 H locs) {x1 : mc_E} (hx : va_at D cl (S.2, mw_tr dA x1) H1) (z : H1.size = H.size + 1) (o1 : ∀ q : Nat, q < H.size → H1[q]? = H[q]?) : mw_I D dA cl A (va_up S.1 S.2 (some x1), S.2 + 1) H0 H1 locs := by
  obtain ⟨hP, hz, hA, hN, hS⟩ := h
  have hsz : A S.2 := hN S.2 (by rw [← hz]; exact hS.1)
  refine ⟨fun b y hb => ?_, by show H1.size = S.2 + 1; omega, fun b y hb => ?_, hN, ⟨Nat.le_trans hS.1 (by omega), fun q h1 h2 => (o1 q (Nat.lt_of_lt_of_le h1 hS.1)).trans (hS.2.1 q h1 h2), hS.2.2⟩⟩
  · have hb : va_up S.1 S.2 (some x1) b = some y := hb
    by_cases hba : b = S.2
    · subst hba
      rw [va_up_self] at hb
      cases hb
      exact hx
    · rw [va_up_ne _ _ hba] at hb
      exact (hP b y hb).kept (o1 b (hP.lt hb))
  · have hb : va_up S.1 S.2 (some x1) b = some y := hb
    by_cases hba : b = S.2
    · subst hba
      exact hsz
    · rw [va_up_ne _ _ hba] at hb
      exact hA b y hb
theorem mw_bind {α β : Type} {x : Option α} {f : α → Option β} {y : β} (h : x.bind f = some y) : ∃ a : α, x = some a ∧ f a = some y := Option.bind_eq_some_iff.mp h
def mv_I (v : Value) : Option Int32 := match v with
  | .int x => some x
  | _ => none
def mv_R (v : Value) : Option (Option Nat) := match v with
  | .null => some none
  | .ref a => some (some a)
  | _ => none
def rdV (S : mc_S) (r : Option Nat) (ci k : Nat) : Option Value := match r with
  | none => none
  | some a => match S.1 a with
    | some (.inr o) => if o.1 = ci then o.2[k]? else none
    | _ => none
def rdI (S : mc_S) (r : Option Nat) (ci k : Nat) : Option Int32 := (rdV S r ci k).bind mv_I
def rdR (S : mc_S) (r : Option Nat) (ci k : Nat) : Option (Option Nat) := (rdV S r ci k).bind mv_R
def wrV (S : mc_S) (r : Option Nat) (ci k : Nat) (v : Value) : Option mc_S := match r with
  | none => none
  | some a => match S.1 a with
    | some (.inr o) => if o.1 = ci ∧ k < o.2.length then some (va_up S.1 a (some (.inr (ci, o.2.set k v))), S.2) else none
    | _ => none
def rcv (S : mc_S) (r : Option Nat) (ci : Nat) : Option Nat := match r with
  | none => none
  | some a => match S.1 a with
    | some (.inr o) => if o.1 = ci then some a else none
    | _ => none
def arr (S : mc_S) (r : Option Nat) (t : Nat) : Option vp_A := match r with
  | none => none
  | some a => match S.1 a with
    | some (.inl x) => if x.1 = t then some x.2 else none
    | _ => none
def aix (i : Int32) (n : Nat) : Prop := ¬ i < 0 ∧ i.toNatClampNeg < n
def ldI (S : mc_S) (r : Option Nat) (t : Nat) (i : Int32) : Option Int32 := match arr S r t with
  | some (n, .inl f) => if ¬ i < 0 ∧ i.toNatClampNeg < n then some (f i.toNatClampNeg) else none
  | _ => none
def ldL (S : mc_S) (r : Option Nat) (t : Nat) (i : Int32) : Option Int64 := match arr S r t with
  | some (n, .inr (.inl f)) => if ¬ i < 0 ∧ i.toNatClampNeg < n then some (f i.toNatClampNeg) else none
  | _ => none
def ldR (S : mc_S) (r : Option Nat) (t : Nat) (i : Int32) : Option (Option Nat) := match arr S r t with
  | some (n, .inr (.inr (.inr (.inr f)))) => if ¬ i < 0 ∧ i.toNatClampNeg < n then some (f i.toNatClampNeg) else none
  | _ => none
def alen (S : mc_S) (r : Option Nat) (t : Nat) : Option Int32 := (arr S r t).map (fun x => Int32.ofNat x.1)
def stA (S : mc_S) (r : Option Nat) (x : mc_E) : mc_S := match r with
  | none => S
  | some a => (va_up S.1 a (some x), S.2)
def stI (S : mc_S) (r : Option Nat) (t : Nat) (i v : Int32) : Option mc_S := match arr S r t with
  | some (n, .inl f) => if ¬ i < 0 ∧ i.toNatClampNeg < n then some (stA S r (.inl (t, n, .inl (va_up f i.toNatClampNeg v)))) else none
  | _ => none
def stL (S : mc_S) (r : Option Nat) (t : Nat) (i : Int32) (v : Int64) : Option mc_S := match arr S r t with
  | some (n, .inr (.inl f)) => if ¬ i < 0 ∧ i.toNatClampNeg < n then some (stA S r (.inl (t, n, .inr (.inl (va_up f i.toNatClampNeg v))))) else none
  | _ => none
def stR (S : mc_S) (r : Option Nat) (t ci : Nat) (i : Int32) (v : Option Nat) : Option mc_S := match arr S r t with
  | some (n, .inr (.inr (.inr (.inr f)))) => if (¬ i < 0 ∧ i.toNatClampNeg < n) ∧ (v = none ∨ rcv S v ci = v) then some (stA S r (.inl (t, n, .inr (.inr (.inr (.inr (va_up f i.toNatClampNeg v))))))) else none
  | _ => none
def nwO (ci : Nat) (fs : List Value) (S : mc_S) : mc_S := (va_up S.1 S.2 (some (.inr (ci, fs))), S.2 + 1)
def nwA (t cap : Nat) (n : Int32) (z : (Nat → Int32) ⊕ (Nat → Int64) ⊕ (Nat → UInt32) ⊕ (Nat → UInt64) ⊕ (Nat → Option Nat)) (S : mc_S) : Option mc_S := if ¬ n < 0 ∧ n.toNatClampNeg ≤ cap then some (va_up S.1 S.2 (some (.inl (t, n.toNatClampNeg, z))), S.2 + 1) else none
def cpI (S : mc_S) (r0 : Option Nat) (sp : Int32) (r1 : Option Nat) (dp n : Int32) (t : Nat) : Option mc_S := match arr S r0 t, arr S r1 t with
  | some (n0, .inl f), some (n1, .inl g) => if ¬ sp < 0 ∧ ¬ dp < 0 ∧ ¬ n < 0 ∧ sp.toNatClampNeg + n.toNatClampNeg ≤ n0 ∧ dp.toNatClampNeg + n.toNatClampNeg ≤ n1 then some (stA S r1 (.inl (t, n1, .inl (va_cpy f g sp.toNatClampNeg dp.toNatClampNeg n.toNatClampNeg)))) else none
  | _, _ => none
def cpL (S : mc_S) (r0 : Option Nat) (sp : Int32) (r1 : Option Nat) (dp n : Int32) (t : Nat) : Option mc_S := match arr S r0 t, arr S r1 t with
  | some (n0, .inr (.inl f)), some (n1, .inr (.inl g)) => if ¬ sp < 0 ∧ ¬ dp < 0 ∧ ¬ n < 0 ∧ sp.toNatClampNeg + n.toNatClampNeg ≤ n0 ∧ dp.toNatClampNeg + n.toNatClampNeg ≤ n1 then some (stA S r1 (.inl (t, n1, .inr (.inl (va_cpy f g sp.toNatClampNeg dp.toNatClampNeg n.toNatClampNeg))))) else none
  | _, _ => none
def scI (L : Nat) (xs : Nat → Int32) (i : Int32) : Option Int32 := if ¬ i < 0 ∧ i.toNatClampNeg < L then some (xs i.toNatClampNeg) else none
theorem mv_I_inv {v : Value} {x : Int32} (h : mv_I v = some x) : v = .int x := by
  cases v <;> simp [mv_I] at h
  rw [h]
theorem mv_R_inv {v : Value} {x : Option Nat} (h : mv_R v = some x) : v = va_rf x := by
  cases v <;> simp [mv_R] at h <;> subst h <;> rfl
theorem rdV_inv {S : mc_S} {r : Option Nat} {ci k : Nat} {v : Value} (h : rdV S r ci k = some v) : ∃ (a : Nat) (fs : List Value), r = some a ∧ S.1 a = some (.inr (ci, fs)) ∧ fs[k]? = some v := by
  cases r with
  | none => simp [rdV] at h
  | some a =>
    cases e : S.1 a with
    | none => simp [rdV, e] at h
    | some x =>
      cases x with
      | inl y => simp [rdV, e] at h
      | inr o =>
        obtain ⟨c, fs⟩ := o
        simp only [rdV, e] at h
        by_cases hc : c = ci
        · subst hc
          rw [if_pos rfl] at h
          exact ⟨a, fs, rfl, e, h⟩
        · rw [if_neg hc] at h
          cases h
theorem wrV_inv {S S1 : mc_S} {r : Option Nat} {ci k : Nat} {v : Value} (h : wrV S r ci k v = some S1) : ∃ (a : Nat) (fs : List Value), r = some a ∧ S.1 a = some (.inr (ci, fs)) ∧ k < fs.length ∧ S1 = (va_up S.1 a (some (.inr (ci, fs.set k v))), S.2) := by
  cases r with
  | none => simp [wrV] at h
  | some a =>
    cases e : S.1 a with
    | none => simp [wrV, e] at h
    | some x =>
      cases x with
      | inl y => simp [wrV, e] at h
      | inr o =>
        obtain ⟨c, fs⟩ := o
        simp only [wrV, e] at h
        by_cases hc : c = ci ∧ k < fs.length
        · rw [if_pos hc] at h
          obtain ⟨rfl, hl⟩ := hc
          exact ⟨a, fs, rfl, e, hl, (Option.some.inj h).symm⟩
        · rw [if_neg hc] at h
          cases h
theorem rcv_inv {S : mc_S} {r : Option Nat} {ci b : Nat} (h : rcv S r ci = some b) : r = some b ∧ ∃ fs : List Value, S.1 b = some (.inr (ci, fs)) := by
  cases r with
  | none => simp [rcv] at h
  | some a =>
    cases e : S.1 a with
    | none => simp [rcv, e] at h
    | some x =>
      cases x with
      | inl y => simp [rcv, e] at h
      | inr o =>
        obtain ⟨c, fs⟩ := o
        simp only [rcv, e] at h
        by_cases hc : c = ci
        · subst hc
          rw [if_pos rfl] at h
          cases h
          exact ⟨rfl, fs, e⟩
        · rw [if_neg hc] at h
          cases h
theorem arr_inv {S : mc_S} {r : Option Nat} {t : Nat} {x : vp_A} (h : arr S r t = some x) : ∃ a : Nat, r = some a ∧ S.1 a = some (.inl (t, x)) := by
  cases r with
  | none => simp [arr] at h
  | some a =>
    cases e : S.1 a with
    | none => simp [arr, e] at h
    | some y =>
      cases y with
      | inr o => simp [arr, e] at h
      | inl o =>
        obtain ⟨c, y⟩ := o
        simp only [arr, e] at h
        by_cases hc : c = t
        · subst hc
          rw [if_pos rfl] at h
          cases h
          exact ⟨a, rfl, e⟩
        · rw [if_neg hc] at h
          cases h
theorem mw_ino {i : Int32} {n : Nat} (hc : ¬ i < 0 ∧ i.toNatClampNeg < n) : vp_in i n := fun q => q.elim hc.1 (fun h => Nat.not_le.mpr hc.2 h)
theorem ldI_inv {S : mc_S} {r : Option Nat} {t : Nat} {i v : Int32} (h : ldI S r t i = some v) : ∃ (a n : Nat) (f : Nat → Int32), r = some a ∧ S.1 a = some (.inl (t, n, .inl f)) ∧ vp_in i n ∧ v = f i.toNatClampNeg := by
  unfold ldI at h
  split at h
  · rename_i n f e
    obtain ⟨a, h1, h2⟩ := arr_inv e
    by_cases hc : ¬ i < 0 ∧ i.toNatClampNeg < n
    · rw [if_pos hc] at h
      exact ⟨a, n, f, h1, h2, mw_ino hc, (Option.some.inj h).symm⟩
    · rw [if_neg hc] at h
      cases h
  · cases h
theorem ldL_inv {S : mc_S} {r : Option Nat} {t : Nat} {i : Int32} {v : Int64} (h : ldL S r t i = some v) : ∃ (a n : Nat) (f : Nat → Int64), r = some a ∧ S.1 a = some (.inl (t, n, .inr (.inl f))) ∧ vp_in i n ∧ v = f i.toNatClampNeg := by
  unfold ldL at h
  split at h
  · rename_i n f e
    obtain ⟨a, h1, h2⟩ := arr_inv e
    by_cases hc : ¬ i < 0 ∧ i.toNatClampNeg < n
    · rw [if_pos hc] at h
      exact ⟨a, n, f, h1, h2, mw_ino hc, (Option.some.inj h).symm⟩
    · rw [if_neg hc] at h
      cases h
  · cases h
theorem ldR_inv {S : mc_S} {r : Option Nat} {t : Nat} {i : Int32} {v : Option Nat} (h : ldR S r t i = some v) : ∃ (a n : Nat) (f : Nat → Option Nat), r = some a ∧ S.1 a = some (.inl (t, n, .inr (.inr (.inr (.inr f))))) ∧ vp_in i n ∧ v = f i.toNatClampNeg := by
  unfold ldR at h
  split at h
  · rename_i n f e
    obtain ⟨a, h1, h2⟩ := arr_inv e
    by_cases hc : ¬ i < 0 ∧ i.toNatClampNeg < n
    · rw [if_pos hc] at h
      exact ⟨a, n, f, h1, h2, mw_ino hc, (Option.some.inj h).symm⟩
    · rw [if_neg hc] at h
      cases h
  · cases h
theorem alen_inv {S : mc_S} {r : Option Nat} {t : Nat} {v : Int32} (h : alen S r t = some v) : ∃ (a : Nat) (x : vp_A), r = some a ∧ S.1 a = some (.inl (t, x)) ∧ v = Int32.ofNat x.1 := by
  unfold alen at h
  cases e : arr S r t with
  | none => rw [e] at h; cases h
  | some x =>
    rw [e] at h
    obtain ⟨a, h1, h2⟩ := arr_inv e
    exact ⟨a, x, h1, h2, (Option.some.inj h).symm⟩
theorem stI_inv {S S1 : mc_S} {r : Option Nat} {t : Nat} {i v : Int32} (h : stI S r t i v = some S1) : ∃ (a n : Nat) (f : Nat → Int32), r = some a ∧ S.1 a = some (.inl (t, n, .inl f)) ∧ vp_in i n ∧ S1 = (va_up S.1 a (some (.inl (t, n, .inl (va_up f i.toNatClampNeg v)))), S.2) := by
  unfold stI at h
  split at h
  · rename_i n f e
    obtain ⟨a, h1, h2⟩ := arr_inv e
    subst h1
    by_cases hc : ¬ i < 0 ∧ i.toNatClampNeg < n
    · rw [if_pos hc] at h
      exact ⟨a, n, f, rfl, h2, mw_ino hc, (Option.some.inj h).symm⟩
    · rw [if_neg hc] at h
      cases h
  · cases h
theorem stL_inv {S S1 : mc_S} {r : Option Nat} {t : Nat} {i : Int32} {v : Int64} (h : stL S r t i v = some S1) : ∃ (a n : Nat) (f : Nat → Int64), r = some a ∧ S.1 a = some (.inl (t, n, .inr (.inl f))) ∧ vp_in i n ∧ S1 = (va_up S.1 a (some (.inl (t, n, .inr (.inl (va_up f i.toNatClampNeg v))))), S.2) := by
  unfold stL at h
  split at h
  · rename_i n f e
    obtain ⟨a, h1, h2⟩ := arr_inv e
    subst h1
    by_cases hc : ¬ i < 0 ∧ i.toNatClampNeg < n
    · rw [if_pos hc] at h
      exact ⟨a, n, f, rfl, h2, mw_ino hc, (Option.some.inj h).symm⟩
    · rw [if_neg hc] at h
      cases h
  · cases h
theorem stR_inv {S S1 : mc_S} {r : Option Nat} {t ci : Nat} {i : Int32} {v : Option Nat} (h : stR S r t ci i v = some S1) : ∃ (a n : Nat) (f : Nat → Option Nat), r = some a ∧ S.1 a = some (.inl (t, n, .inr (.inr (.inr (.inr f))))) ∧ vp_in i n ∧ (∀ y, v = some y → ∃ vs, S.1 y = some (.inr (ci, vs))) ∧ S1 = (va_up S.1 a (some (.inl (t, n, .inr (.inr (.inr (.inr (va_up f i.toNatClampNeg v))))))), S.2) := by
  unfold stR at h
  split at h
  · rename_i n f e
    obtain ⟨a, h1, h2⟩ := arr_inv e
    subst h1
    by_cases hc : (¬ i < 0 ∧ i.toNatClampNeg < n) ∧ (v = none ∨ rcv S v ci = v)
    · rw [if_pos hc] at h
      refine ⟨a, n, f, rfl, h2, fun q => ?_, fun y hy => ?_, (Option.some.inj h).symm⟩
      · exact mw_ino hc.1 q
      · subst hy
        rcases hc.2 with q | q
        · cases q
        · exact (rcv_inv q).2
    · rw [if_neg hc] at h
      cases h
  · cases h
theorem nwA_inv {S S1 : mc_S} {t cap : Nat} {n : Int32} {z : (Nat → Int32) ⊕ (Nat → Int64) ⊕ (Nat → UInt32) ⊕ (Nat → UInt64) ⊕ (Nat → Option Nat)} (h : nwA t cap n z S = some S1) : ¬ n < 0 ∧ n.toNatClampNeg ≤ cap ∧ S1 = (va_up S.1 S.2 (some (.inl (t, n.toNatClampNeg, z))), S.2 + 1) := by
  unfold nwA at h
  by_cases hc : ¬ n < 0 ∧ n.toNatClampNeg ≤ cap
  · rw [if_pos hc] at h
    exact ⟨hc.1, hc.2, (Option.some.inj h).symm⟩
  · rw [if_neg hc] at h
    cases h
theorem cpI_inv {S S1 : mc_S} {r0 r1 : Option Nat} {t : Nat} {sp dp n : Int32} (h : cpI S r0 sp r1 dp n t = some S1) : ∃ (a0 a n0 n1 : Nat) (f g : Nat → Int32), r0 = some a0 ∧ r1 = some a ∧ S.1 a0 = some (.inl (t, n0, .inl f)) ∧ S.1 a = some (.inl (t, n1, .inl g)) ∧ (¬ sp < 0 ∧ ¬ dp < 0 ∧ ¬ n < 0 ∧ sp.toNatClampNeg + n.toNatClampNeg ≤ n0 ∧ dp.toNatClampNeg + n.toNatClampNeg ≤ n1) ∧ S1 = (va_up S.1 a (some (.inl (t, n1, .inl (va_cpy f g sp.toNatClampNeg dp.toNatClampNeg n.toNatClampNeg)))), S.2) := by
  unfold cpI at h
  split at h
  · rename_i n0 f n1 g e0 e1
    obtain ⟨a0, h1, h2⟩ := arr_inv e0
    obtain ⟨a, h3, h4⟩ := arr_inv e1
    subst h1
    subst h3
    by_cases hc : ¬ sp < 0 ∧ ¬ dp < 0 ∧ ¬ n < 0 ∧ sp.toNatClampNeg + n.toNatClampNeg ≤ n0 ∧ dp.toNatClampNeg + n.toNatClampNeg ≤ n1
    · rw [if_pos hc] at h
      exact ⟨a0, a, n0, n1, f, g, rfl, rfl, h2, h4, hc, (Option.some.inj h).symm⟩
    · rw [if_neg hc] at h
      cases h
  · cases h
theorem cpL_inv {S S1 : mc_S} {r0 r1 : Option Nat} {t : Nat} {sp dp n : Int32} (h : cpL S r0 sp r1 dp n t = some S1) : ∃ (a0 a n0 n1 : Nat) (f g : Nat → Int64), r0 = some a0 ∧ r1 = some a ∧ S.1 a0 = some (.inl (t, n0, .inr (.inl f))) ∧ S.1 a = some (.inl (t, n1, .inr (.inl g))) ∧ (¬ sp < 0 ∧ ¬ dp < 0 ∧ ¬ n < 0 ∧ sp.toNatClampNeg + n.toNatClampNeg ≤ n0 ∧ dp.toNatClampNeg + n.toNatClampNeg ≤ n1) ∧ S1 = (va_up S.1 a (some (.inl (t, n1, .inr (.inl (va_cpy f g sp.toNatClampNeg dp.toNatClampNeg n.toNatClampNeg))))), S.2) := by
  unfold cpL at h
  split at h
  · rename_i n0 f n1 g e0 e1
    obtain ⟨a0, h1, h2⟩ := arr_inv e0
    obtain ⟨a, h3, h4⟩ := arr_inv e1
    subst h1
    subst h3
    by_cases hc : ¬ sp < 0 ∧ ¬ dp < 0 ∧ ¬ n < 0 ∧ sp.toNatClampNeg + n.toNatClampNeg ≤ n0 ∧ dp.toNatClampNeg + n.toNatClampNeg ≤ n1
    · rw [if_pos hc] at h
      exact ⟨a0, a, n0, n1, f, g, rfl, rfl, h2, h4, hc, (Option.some.inj h).symm⟩
    · rw [if_neg hc] at h
      cases h
  · cases h
theorem scI_inv {L : Nat} {xs : Nat → Int32} {i v : Int32} (h : scI L xs i = some v) : vp_in i L ∧ v = xs i.toNatClampNeg := by
  unfold scI at h
  by_cases hc : ¬ i < 0 ∧ i.toNatClampNeg < L
  · rw [if_pos hc] at h
    exact ⟨mw_ino hc, (Option.some.inj h).symm⟩
  · rw [if_neg hc] at h
    cases h
section MW
variable {p : Program} {l : Launch} {e : Env} {R : Room} {s : State} {m : MethodId} {args : Array Value} {below : List Frame} {meth : Method} {c : Code} {H : Heap} {locs : List Loc} {cells slots : Nat} {Q : State → Prop}
variable {cc : ByteArray} {pc nL : Nat} {ls : Array Slot} {rest : List Value} {D : va_G} {dA : Nat → ClassId} {cl : List vw_C} {A : Nat → Prop} {tys : List (ClassId × FieldType)} {Z : mw_Z} {H0 : Heap} {S S1 : mc_S} {Ts : List Cond} {own : String} {r : Option Nat}
theorem mw_getV (F : CallFix p m c cc nL s args Ts own) (hK : mw_K D cl tys Z s) (hI : mw_I D dA cl A S H0 H locs) {ref C : String} {T : u_T} {N ci index : Nat} (hin : ∀ w ∈ u_ws C T N, w ∈ Ts) (hc : cl[ci]? = some (C, T, N)) (k : Nat) (hk : k < N) (hlink : Cond.fieldLink own index ref (T k).2.1 (T k).2.2.1 ∈ Ts) (hsame : (T k).1 = ref) {v : Value} (h : rdV S r ci k = some v) (hdg : decode cc pc = .ok (.getfield index, 3))
    (kk : W p l e R s m args below meth c H locs cells slots Q (F0 m (pc + 3) ls (v :: rest))) : W p l e R s m args below meth c H locs cells slots Q (F0 m pc ls (va_rf r :: rest)) := by
  obtain ⟨a, fs, rfl, he, hv⟩ := rdV_inv h
  obtain ⟨hexec, hb, -, hown, hts⟩ := F
  obtain ⟨q, h1, cell, q1, q2, q3, q4⟩ := hI.1 a _ he
  have hr : q = (C, T, N) := Option.some.inj (h1.symm.trans hc)
  subst hr
  obtain ⟨hS, hfc, kC, hkC, hkind⟩ := hK.1.1 ci _ hc
  obtain ⟨cf, kf, fi, f, hi, hsl⟩ := hS k hk
  subst hsame
  refine W.getf hexec hb hown (hts _ hlink) hi (u_facts hfc hkC (u_lays hts hin hk) hi).1 q1 (by rw [q3]; exact fun h => by cases h) (v := v) ?_ rfl rfl hdg kk
  rw [hsl, q4 k hk]
  simp [vp_V, hv]
theorem mw_getI (F : CallFix p m c cc nL s args Ts own) (hK : mw_K D cl tys Z s) (hI : mw_I D dA cl A S H0 H locs) {ref C : String} {T : u_T} {N ci index : Nat} (hin : ∀ w ∈ u_ws C T N, w ∈ Ts) (hc : cl[ci]? = some (C, T, N)) (k : Nat) (hk : k < N) (hlink : Cond.fieldLink own index ref (T k).2.1 (T k).2.2.1 ∈ Ts) (hsame : (T k).1 = ref) {v : Int32} (h : rdI S r ci k = some v) (hdg : decode cc pc = .ok (.getfield index, 3))
    (kk : W p l e R s m args below meth c H locs cells slots Q (F0 m (pc + 3) ls (.int v :: rest))) : W p l e R s m args below meth c H locs cells slots Q (F0 m pc ls (va_rf r :: rest)) := by
  obtain ⟨x, h1, h2⟩ := mw_bind h
  cases mv_I_inv h2
  exact mw_getV F hK hI hin hc k hk hlink hsame h1 hdg kk
theorem mw_getR (F : CallFix p m c cc nL s args Ts own) (hK : mw_K D cl tys Z s) (hI : mw_I D dA cl A S H0 H locs) {ref C : String} {T : u_T} {N ci index : Nat} (hin : ∀ w ∈ u_ws C T N, w ∈ Ts) (hc : cl[ci]? = some (C, T, N)) (k : Nat) (hk : k < N) (hlink : Cond.fieldLink own index ref (T k).2.1 (T k).2.2.1 ∈ Ts) (hsame : (T k).1 = ref) {v : Option Nat} (h : rdR S r ci k = some v) (hdg : decode cc pc = .ok (.getfield index, 3))
    (kk : W p l e R s m args below meth c H locs cells slots Q (F0 m (pc + 3) ls (va_rf v :: rest))) : W p l e R s m args below meth c H locs cells slots Q (F0 m pc ls (va_rf r :: rest)) := by
  obtain ⟨x, h1, h2⟩ := mw_bind h
  rw [← mv_R_inv h2] at kk
  exact mw_getV F hK hI hin hc k hk hlink hsame h1 hdg kk
theorem mw_put (F : CallFix p m c cc nL s args Ts own) (hK : mw_K D cl tys Z s) (hI : mw_I D dA cl A S H0 H locs) {ref C : String} {T : u_T} {N ci index : Nat} (hin : ∀ w ∈ u_ws C T N, w ∈ Ts) (ty0 : Nat → FieldType) (hty : ∀ k, k < N → parseFieldDescriptor (T k).2.2.1 = some (ty0 k)) (hnm : ∀ a, a < N → ∀ b, b < N → a ≠ b → (T a).2.1 ≠ (T b).2.1) (hc : cl[ci]? = some (C, T, N)) (k : Nat) (hk : k < N) (hlink : Cond.fieldLink own index ref (T k).2.1 (T k).2.2.1 ∈ Ts) (hsame : (T k).1 = ref) (hfin : (T k).2.2.2 = false) {v : Value} (hn : narrow (ty0 k) v = v) (hfit : fits (ty0 k) v = true) (h : wrV S r ci k v = some S1) (hdg : decode cc pc = .ok (.putfield index, 3))
    (kk : ∀ (H1 : Heap) (locs1 : List Loc), mw_I D dA cl A S1 H0 H1 locs1 → W p l e R s m args below meth c H1 locs1 cells slots Q (F0 m (pc + 3) ls rest)) : W p l e R s m args below meth c H locs cells slots Q (F0 m pc ls (v :: va_rf r :: rest)) := by
  obtain ⟨a, fs, rfl, he, hl, rfl⟩ := wrV_inv h
  obtain ⟨hexec, hb, -, hown, hts⟩ := F
  have hap := va_apart (own := own) hts hin ty0 hty hnm hK.1 hc
  obtain ⟨q, h1, cell, q1, q2, q3, q4⟩ := hI.1 a _ he
  have hr : q = (C, T, N) := Option.some.inj (h1.symm.trans hc)
  subst hr
  obtain ⟨hS, hfc, kC, hkC, hkind⟩ := hK.1.1 ci _ hc
  obtain ⟨cf, kf, fi, f, hi, hsl⟩ := hS k hk
  subst hsame
  have hlay := hts _ (hin _ (u_in_lay hk))
  unfold u_lay at hlay
  rw [if_neg (by rw [hfin]; decide)] at hlay
  have hst := (u_facts hfc hkC (u_lays hts hin hk) hi).1
  have h6 := u_store hfc hkC hkind hlay hi (hty k hk) hn hfit
  refine W.putK hexec hb (f := f) ⟨hown, hts _ hlink, ⟨_, _, _, hi⟩, hst⟩ (by rw [q2]; exact h6) q1 q3 (by rw [hsl]; exact k2_hasslot (q4 k hk)) rfl rfl hdg fun H' e1 e2 e3 => ?_
  rw [hsl] at e1 ⊢
  exact kk H' _ (hI.set he ⟨_, hc, t_OB.to (V := updV (vp_V fs) k v) ⟨_, e1, q2, q3, t_set q4 hap hk v⟩ (fun j _ => vp_updV_set hl v j)⟩ e2 e3)
theorem mw_putF (F : CallFix p m c cc nL s args Ts own) (hK : mw_K D cl tys Z s) (hI : mw_I D dA cl A S H0 H locs) {C : String} {T : u_T} {N ci index : Nat} (hin : ∀ w ∈ u_ws C T N, w ∈ Ts) (ty0 : Nat → FieldType) (hty : ∀ k, k < N → parseFieldDescriptor (T k).2.2.1 = some (ty0 k)) (hnm : ∀ a, a < N → ∀ b, b < N → a ≠ b → (T a).2.1 ≠ (T b).2.1) (hc : cl[ci]? = some (C, T, N)) (k : Nat) (hk : k < N) (hlink : Cond.fieldLink own index own (T k).2.1 (T k).2.2.1 ∈ Ts) (hsame : (T k).1 = own) (hfin : (T k).2.2.2 = true) (hin2 : meth.name = "<init>") {v : Value} (hn : narrow (ty0 k) v = v) (hfit : fits (ty0 k) v = true) (h : wrV S r ci k v = some S1) (hdg : decode cc pc = .ok (.putfield index, 3))
    (kk : ∀ (H1 : Heap) (locs1 : List Loc), mw_I D dA cl A S1 H0 H1 locs1 → W p l e R s m args below meth c H1 locs1 cells slots Q (F0 m (pc + 3) ls rest)) : W p l e R s m args below meth c H locs cells slots Q (F0 m pc ls (v :: va_rf r :: rest)) := by
  obtain ⟨a, fs, rfl, he, hl, rfl⟩ := wrV_inv h
  obtain ⟨hexec, hb, -, hown, hts⟩ := F
  have hap := va_apart (own := own) hts hin ty0 hty hnm hK.1 hc
  obtain ⟨q, h1, cell, q1, q2, q3, q4⟩ := hI.1 a _ he
  have hr : q = (C, T, N) := Option.some.inj (h1.symm.trans hc)
  subst hr
  obtain ⟨hS, hfc, kC, hkC, hkind⟩ := hK.1.1 ci _ hc
  obtain ⟨cf, kf, fi, f, hi, hsl⟩ := hS k hk
  have hlay := hts _ (hin _ (u_in_lay hk))
  unfold u_lay at hlay
  rw [if_pos hfin] at hlay
  have hst := (u_facts hfc hkC (u_lays hts hin hk) hi).1
  have hcf : m.cls = cf := by
    obtain ⟨_, _, c', _, _, _, -, -, hf', -, -, -, hown2, -⟩ := Cond.laysFinal_spec hlay
    have e1 : c' = cf := by have := hi.symm.trans hf'; simp at this; exact this.1.symm
    rw [hsame] at hown2
    rw [← e1]; exact Option.some.inj (hown.symm.trans hown2)
  have h6 := u_fits hfc hkC hkind (Or.inr hlay) hi (hty k hk) hn hfit
  refine W.putFinK hexec hb hown (hts _ hlink) (by rw [← hsame]; exact hi) hst hcf hin2 (by rw [q2]; exact h6) q1 q3 (by rw [hsl]; exact k2_hasslot (q4 k hk)) rfl rfl hdg fun H' e1 e2 e3 => ?_
  rw [hsl] at e1 ⊢
  exact kk H' _ (hI.set he ⟨_, hc, t_OB.to (V := updV (vp_V fs) k v) ⟨_, e1, q2, q3, t_set q4 hap hk v⟩ (fun j _ => vp_updV_set hl v j)⟩ e2 e3)
theorem mw_iald (F : CallFix p m c cc nL s args Ts own) (hK : mw_K D cl tys Z s) (hI : mw_I D dA cl A S H0 H locs) {t0 : Nat} (ht : tys[t0]? = some (dA t0, .int)) {i v : Int32} (h : ldI S r t0 i = some v) (hdg : decode cc pc = .ok (.iaload, 1))
    (kk : W p l e R s m args below meth c H locs cells slots Q (F0 m (pc + 1) ls (.int v :: rest))) : W p l e R s m args below meth c H locs cells slots Q (F0 m pc ls (.int i :: va_rf r :: rest)) := by
  obtain ⟨a, n, f, rfl, he, hin, rfl⟩ := ldI_inv h
  have hlt : i.toNatClampNeg < n := Nat.not_le.mp fun q => hin (Or.inr q)
  exact W.iald (v := .int (f i.toNatClampNeg)) F.1 F.2.1 (hI.1 a _ he) ((hK.1.2 t0 _ ht).1 n (fun j => .int (f j))) (fun q => by cases q) (by show ¬ (i < 0 ∨ (arrV _ _ _).slots.size ≤ _); rw [arrV_size]; exact hin) (by show (arrV _ _ _).slots[_]? = _; rw [arrV_read _ _ hlt]) rfl rfl hdg kk
theorem mw_zald (F : CallFix p m c cc nL s args Ts own) (hK : mw_K D cl tys Z s) (hI : mw_I D dA cl A S H0 H locs) {t0 : Nat} (ht : tys[t0]? = some (dA t0, .boolean)) {i v : Int32} (h : ldI S r t0 i = some v) (hdg : decode cc pc = .ok (.baload, 1))
    (kk : W p l e R s m args below meth c H locs cells slots Q (F0 m (pc + 1) ls (.int v :: rest))) : W p l e R s m args below meth c H locs cells slots Q (F0 m pc ls (.int i :: va_rf r :: rest)) := by
  obtain ⟨a, n, f, rfl, he, hin, rfl⟩ := ldI_inv h
  have hlt : i.toNatClampNeg < n := Nat.not_le.mp fun q => hin (Or.inr q)
  exact W.zald (v := .int (f i.toNatClampNeg)) F.1 F.2.1 (hI.1 a _ he) ((hK.1.2 t0 _ ht).1 n (fun j => .int (f j))) (fun q => by cases q) (by show ¬ (i < 0 ∨ (arrV _ _ _).slots.size ≤ _); rw [arrV_size]; exact hin) (by show (arrV _ _ _).slots[_]? = _; rw [arrV_read _ _ hlt]) rfl rfl hdg kk
theorem mw_lald (F : CallFix p m c cc nL s args Ts own) (hK : mw_K D cl tys Z s) (hI : mw_I D dA cl A S H0 H locs) {t0 : Nat} (ht : tys[t0]? = some (dA t0, .long)) {i : Int32} {v : Int64} (h : ldL S r t0 i = some v) (hdg : decode cc pc = .ok (.laload, 1))
    (kk : W p l e R s m args below meth c H locs cells slots Q (F0 m (pc + 1) ls (.long v :: rest))) : W p l e R s m args below meth c H locs cells slots Q (F0 m pc ls (.int i :: va_rf r :: rest)) := by
  obtain ⟨a, n, f, rfl, he, hin, rfl⟩ := ldL_inv h
  have hlt : i.toNatClampNeg < n := Nat.not_le.mp fun q => hin (Or.inr q)
  exact W.lald (v := .long (f i.toNatClampNeg)) F.1 F.2.1 (hI.1 a _ he) ((hK.1.2 t0 _ ht).1 n (fun j => .long (f j))) (fun q => by cases q) (by show ¬ (i < 0 ∨ (arrV _ _ _).slots.size ≤ _); rw [arrV_size]; exact hin) (by show (arrV _ _ _).slots[_]? = _; rw [arrV_read _ _ hlt]) rfl rfl hdg kk
theorem mw_aald (F : CallFix p m c cc nL s args Ts own) (hK : mw_K D cl tys Z s) (hI : mw_I D dA cl A S H0 H locs) {t0 : Nat} {C : String} (ht : tys[t0]? = some (dA t0, .object C)) {i : Int32} {v : Option Nat} (h : ldR S r t0 i = some v) (hdg : decode cc pc = .ok (.aaload, 1))
    (kk : W p l e R s m args below meth c H locs cells slots Q (F0 m (pc + 1) ls (va_rf v :: rest))) : W p l e R s m args below meth c H locs cells slots Q (F0 m pc ls (.int i :: va_rf r :: rest)) := by
  obtain ⟨a, n, f, rfl, he, hin, rfl⟩ := ldR_inv h
  have hlt : i.toNatClampNeg < n := Nat.not_le.mp fun q => hin (Or.inr q)
  exact W.aald (v := va_rf (f i.toNatClampNeg)) (ty := .object C) F.1 F.2.1 (hI.1 a _ he) ((hK.1.2 t0 _ ht).1 n (fun j => va_rf (f j))) rfl (fun q => by cases q) (by show ¬ (i < 0 ∨ (arrV _ _ _).slots.size ≤ _); rw [arrV_size]; exact hin) (by show (arrV _ _ _).slots[_]? = _; rw [arrV_read _ _ hlt]) rfl rfl hdg kk
theorem mw_iast (F : CallFix p m c cc nL s args Ts own) (hK : mw_K D cl tys Z s) (hI : mw_I D dA cl A S H0 H locs) {t0 : Nat} (ht : tys[t0]? = some (dA t0, .int)) {i x : Int32} (h : stI S r t0 i x = some S1) (hdg : decode cc pc = .ok (.iastore, 1))
    (kk : ∀ (H1 : Heap) (locs1 : List Loc), mw_I D dA cl A S1 H0 H1 locs1 → W p l e R s m args below meth c H1 locs1 cells slots Q (F0 m (pc + 1) ls rest)) : W p l e R s m args below meth c H locs cells slots Q (F0 m pc ls (.int x :: .int i :: va_rf r :: rest)) := by
  obtain ⟨a, n, f, rfl, he, hin, rfl⟩ := stI_inv h
  refine W.iast F.1 F.2.1 (hI.1 a _ he) ((hK.1.2 t0 _ ht).1 n (fun j => .int (f j))) (fun q => by cases q) (by show ¬ (i < 0 ∨ (arrV _ _ _).slots.size ≤ _); rw [arrV_size]; exact hin) rfl rfl hdg fun H1 e z oq => ?_
  refine kk H1 _ (hI.set he ?_ z oq)
  show H1[a]? = some (vp_cell _ _)
  rw [e]
  show some ((vp_cell _ (n, .inl f)).setSlot _ _) = _
  rw [vp_cell_i, vp_cell_i, arrV_store]
  congr 2
  funext q
  by_cases hq : q = i.toNatClampNeg
  · subst hq
    simp [updV, va_up]
  · simp [updV, va_up, hq]
theorem mw_zast (F : CallFix p m c cc nL s args Ts own) (hK : mw_K D cl tys Z s) (hI : mw_I D dA cl A S H0 H locs) {t0 : Nat} (ht : tys[t0]? = some (dA t0, .boolean)) {i x : Int32} (hx : narrow .boolean (.int x) = .int x) (h : stI S r t0 i x = some S1) (hdg : decode cc pc = .ok (.bastore, 1))
    (kk : ∀ (H1 : Heap) (locs1 : List Loc), mw_I D dA cl A S1 H0 H1 locs1 → W p l e R s m args below meth c H1 locs1 cells slots Q (F0 m (pc + 1) ls rest)) : W p l e R s m args below meth c H locs cells slots Q (F0 m pc ls (.int x :: .int i :: va_rf r :: rest)) := by
  obtain ⟨a, n, f, rfl, he, hin, rfl⟩ := stI_inv h
  refine W.zast F.1 F.2.1 (hI.1 a _ he) ((hK.1.2 t0 _ ht).1 n (fun j => .int (f j))) (fun q => by cases q) (by show ¬ (i < 0 ∨ (arrV _ _ _).slots.size ≤ _); rw [arrV_size]; exact hin) rfl rfl hdg fun H1 e z oq => ?_
  refine kk H1 _ (hI.set he ?_ z oq)
  show H1[a]? = some (vp_cell _ _)
  rw [e]
  show some ((vp_cell _ (n, .inl f)).setSlot _ _) = _
  rw [hx]
  rw [vp_cell_i, vp_cell_i, arrV_store]
  congr 2
  funext q
  by_cases hq : q = i.toNatClampNeg
  · subst hq
    simp [updV, va_up]
  · simp [updV, va_up, hq]
theorem mw_last (F : CallFix p m c cc nL s args Ts own) (hK : mw_K D cl tys Z s) (hI : mw_I D dA cl A S H0 H locs) {t0 : Nat} (ht : tys[t0]? = some (dA t0, .long)) {i : Int32} {x : Int64} (h : stL S r t0 i x = some S1) (hdg : decode cc pc = .ok (.lastore, 1))
    (kk : ∀ (H1 : Heap) (locs1 : List Loc), mw_I D dA cl A S1 H0 H1 locs1 → W p l e R s m args below meth c H1 locs1 cells slots Q (F0 m (pc + 1) ls rest)) : W p l e R s m args below meth c H locs cells slots Q (F0 m pc ls (.long x :: .int i :: va_rf r :: rest)) := by
  obtain ⟨a, n, f, rfl, he, hin, rfl⟩ := stL_inv h
  refine W.last F.1 F.2.1 (hI.1 a _ he) ((hK.1.2 t0 _ ht).1 n (fun j => .long (f j))) (fun q => by cases q) (by show ¬ (i < 0 ∨ (arrV _ _ _).slots.size ≤ _); rw [arrV_size]; exact hin) rfl rfl hdg fun H1 e z oq => ?_
  refine kk H1 _ (hI.set he ?_ z oq)
  show H1[a]? = some (vp_cell _ _)
  rw [e]
  show some ((vp_cell _ (n, .inr (.inl f))).setSlot _ _) = _
  rw [vp_cell_l, vp_cell_l, arrV_store]
  congr 2
  funext q
  by_cases hq : q = i.toNatClampNeg
  · subst hq
    simp [updV, va_up]
  · simp [updV, va_up, hq]
theorem mw_aast (F : CallFix p m c cc nL s args Ts own) (hK : mw_K D cl tys Z s) (hI : mw_I D dA cl A S H0 H locs) {t0 ci : Nat} {q0 : vw_C} (ht : tys[t0]? = some (dA t0, .object q0.1)) (hc : cl[ci]? = some q0) {i : Int32} {v : Option Nat} (h : stR S r t0 ci i v = some S1) (hdg : decode cc pc = .ok (.aastore, 1))
    (kk : ∀ (H1 : Heap) (locs1 : List Loc), mw_I D dA cl A S1 H0 H1 locs1 → W p l e R s m args below meth c H1 locs1 cells slots Q (F0 m (pc + 1) ls rest)) : W p l e R s m args below meth c H locs cells slots Q (F0 m pc ls (va_rf v :: .int i :: va_rf r :: rest)) := by
  obtain ⟨a, n, f, rfl, he, hin, hv, rfl⟩ := stR_inv h
  have hlt : i.toNatClampNeg < n := Nat.not_le.mp fun q => hin (Or.inr q)
  have h0 : ¬ i < 0 := fun q => hin (Or.inl q)
  cases v with
  | none =>
    refine va_WaastN (C := q0.1) F.1 F.2.1 (hI.1 a _ he) ((hK.1.2 t0 _ ht).1 n (fun j => va_rf (f j))) (fun h => by cases h) (by show ¬ (i < 0 ∨ (arrV _ _ _).slots.size ≤ _); rw [arrV_size]; exact hin) rfl rfl hdg fun H1 e z oq => ?_
    refine kk H1 _ (hI.set he ?_ z oq)
    show H1[a]? = some (vp_cell _ _)
    rw [e]
    show some ((vp_cell _ (n, .inr (.inr (.inr (.inr f))))).setSlot _ _) = _
    rw [vp_cell_q, vp_cell_q, arrV_store]
    congr 2
    funext q
    by_cases hq : q = i.toNatClampNeg
    · subst hq
      simp [updV, va_up, va_rf]
    · simp [updV, va_up, hq]
  | some y =>
    obtain ⟨vs, hy⟩ := hv y rfl
    obtain ⟨r', hr', cellV, g1, g2, g3, -⟩ := hI.1 y _ hy
    have hcls := (hK.1.1 ci q0 hc).2
    obtain ⟨kA, comp, k1, k2, k3, -⟩ := (hK.1.2 t0 _ ht).2
    have hcomp : comp = D.1 ci := Option.some.inj (k3.symm.trans hcls.1)
    subst hcomp
    obtain ⟨kC, hkC, -⟩ := hcls.2
    refine W.aast F.1 F.2.1 (hI.1 a _ he) (fun q h => by cases h) (fun h => by cases h) k1 k2 rfl hkC ⟨h0, by show _ < (arrV _ _ _).slots.size; rw [arrV_size]; exact hlt⟩ g1 (fun q h => by rw [g3] at h; cases h) (by rw [g2]; exact hkC) (by rw [g2]; exact va_assign hcls) rfl rfl hdg fun H1 e z oq => ?_
    refine kk H1 _ (hI.set he ?_ z oq)
    show H1[a]? = some (vp_cell _ _)
    rw [e]
    show some ((vp_cell _ (n, .inr (.inr (.inr (.inr f))))).setSlot _ _) = _
    rw [vp_cell_q, vp_cell_q, arrV_store]
    congr 2
    funext q
    by_cases hq : q = i.toNatClampNeg
    · subst hq
      simp [updV, va_up, va_rf]
    · simp [updV, va_up, hq]
theorem mw_alen (F : CallFix p m c cc nL s args Ts own) (hK : mw_K D cl tys Z s) (hI : mw_I D dA cl A S H0 H locs) {t0 : Nat} {ty : FieldType} (ht : tys[t0]? = some (dA t0, ty)) {v : Int32} (h : alen S r t0 = some v) (hdg : decode cc pc = .ok (.arraylength, 1))
    (kk : W p l e R s m args below meth c H locs cells slots Q (F0 m (pc + 1) ls (.int v :: rest))) : W p l e R s m args below meth c H locs cells slots Q (F0 m pc ls (va_rf r :: rest)) := by
  obtain ⟨a, x, rfl, he, rfl⟩ := alen_inv h
  have hP : va_P D cl [(a, .inl (dA t0, x))] H := fun k q hk => by
    have hz : k < 1 := (List.getElem?_eq_some_iff.mp hk).1
    rw [show k = 0 by omega] at hk
    cases hk
    exact hI.1 a _ he
  exact va_alen F.1 F.2.1 hK.1 hP 0 t0 rfl ht rfl hdg kk
theorem mw_new (F : CallFix p m c cc nL s args Ts own) (hK : mw_K D cl tys Z s) (hI : mw_I D dA cl A S H0 H locs) {C : String} {T : u_T} {N ci index : Nat} (hin : ∀ w ∈ u_ws C T N, w ∈ Ts) (ty : Nat → FieldType) (hty : ∀ k, k < N → parseFieldDescriptor (T k).2.2.1 = some (ty k)) (hcl : Cond.classLink own index C ∈ Ts) (hinst : Cond.instantiable C N ∈ Ts) (hini : Cond.initialized C ∈ Ts) (hc : cl[ci]? = some (C, T, N)) {fs : List Value} (hfs : ∀ j, j < N → defaultValue (ty j) = vp_V fs j) (hcells : cells + 1 ≤ R.cells) (hslots : slots + N ≤ R.slots) (hdg : decode cc pc = .ok (.new index, 3))
    (kk : ∀ H1 : Heap, mw_I D dA cl A (nwO ci fs S) H0 H1 locs → W p l e R s m args below meth c H1 locs (cells + 1) (slots + N) Q (F0 m (pc + 3) ls (va_rf (some S.2) :: rest))) : W p l e R s m args below meth c H locs cells slots Q (F0 m pc ls rest) := by
  obtain ⟨hexec, hb, -, hown, hts⟩ := F
  have hKn := hK.1.1 ci _ hc
  have hz := hI.2.1
  refine W.newcK hexec hb hown (hts _ hcl) (hts _ hinst) (hts _ hini) rfl hdg hcells hslots hKn.2.1 hz fun H1 kC hkC e1 z1 o1 => ?_
  exact kk H1 (hI.push ⟨_, hc, (u_born ty hts hin hKn hkC e1 hty).to hfs⟩ (by omega) (fun q hq => o1 q (by omega)))
theorem mw_newa (F : CallFix p m c cc nL s args Ts own) (hK : mw_K D cl tys Z s) (hI : mw_I D dA cl A S H0 H locs) {atype : ArrayType} {ty : FieldType} (harr : Cond.arrayClass (newarray.typeOf atype) ∈ Ts) (hty : newarray.typeOf atype = ty) {t0 cap : Nat} (ht : tys[t0]? = some (dA t0, ty)) (hprim : ∀ cB : ClassId, va_RA s cB ty = (s.vm.findClass ("[" ++ ty.toString) = some cB)) {n : Int32} {z : (Nat → Int32) ⊕ (Nat → Int64) ⊕ (Nat → UInt32) ⊕ (Nat → UInt64) ⊕ (Nat → Option Nat)} (h : nwA t0 cap n z S = some S1) (ha : ∀ N : Nat, vp_cell (dA t0) (N, z) = arrV (dA t0) N (fun _ => defaultValue ty)) (hbytes : cap * componentBytes ty ≤ 536870912) (hcells : cells + 1 ≤ R.cells) (hslots : slots + cap ≤ R.slots) (hdg : decode cc pc = .ok (.newarray atype, 2))
    (kk : ∀ H1 : Heap, mw_I D dA cl A S1 H0 H1 locs → W p l e R s m args below meth c H1 locs (cells + 1) (slots + cap) Q (F0 m (pc + 2) ls (va_rf (some S.2) :: rest))) : W p l e R s m args below meth c H locs cells slots Q (F0 m pc ls (.int n :: rest)) := by
  obtain ⟨hn, hcap, rfl⟩ := nwA_inv h
  obtain ⟨hexec, hb, -, hown, hts⟩ := F
  have hz := hI.2.1
  subst hty
  refine va_newaK hexec hb (hts _ harr) rfl hdg rfl hn rfl (Nat.le_trans (Nat.mul_le_mul_right _ hcap) hbytes) hcells (Nat.le_trans (Nat.add_le_add_left hcap _) hslots) hz fun H1 cB e1 z1 o1 hAr hNm => ?_
  have h2 := (hK.1.2 t0 _ ht).2
  rw [hprim] at h2
  have hAB : cB = dA t0 := Option.some.inj (hNm.symm.trans h2)
  subst hAB
  refine W.widen (k := cells + 1) (n := slots + cap) (Nat.le_refl _) (Nat.add_le_add_left hcap _) (kk H1 (hI.push ?_ (by omega) (fun q hq => o1 q (by omega))))
  show H1[S.2]? = some (vp_cell _ _)
  rw [ha]
  exact e1
theorem mw_anew (F : CallFix p m c cc nL s args Ts own) (hK : mw_K D cl tys Z s) (hI : mw_I D dA cl A S H0 H locs) {C : String} {index : Nat} (hcl : Cond.classLink own index C ∈ Ts) (hov : C ∈ Z.2) {t0 cap : Nat} (ht : tys[t0]? = some (dA t0, .object C)) {n : Int32} (h : nwA t0 cap n (.inr (.inr (.inr (.inr (fun _ => none))))) S = some S1) (hbytes : cap * 4 ≤ 536870912) (hcells : cells + 1 ≤ R.cells) (hslots : slots + cap ≤ R.slots) (hdg : decode cc pc = .ok (.anewarray index, 3))
    (kk : ∀ H1 : Heap, mw_I D dA cl A S1 H0 H1 locs → W p l e R s m args below meth c H1 locs (cells + 1) (slots + cap) Q (F0 m (pc + 3) ls (va_rf (some S.2) :: rest))) : W p l e R s m args below meth c H locs cells slots Q (F0 m pc ls (.int n :: rest)) := by
  obtain ⟨hn, hcap, rfl⟩ := nwA_inv h
  obtain ⟨hexec, hb, -, hown, hts⟩ := F
  have hz := hI.2.1
  rw [← hz] at kk
  refine W.anew hexec hb hown (hts _ hcl) (hK.2.2 C hov).use rfl hdg rfl hn (Nat.le_trans (Nat.mul_le_mul_right _ hcap) hbytes) hcells (Nat.le_trans (Nat.add_le_add_left hcap _) hslots) fun cB kA comp f1 f2 f3 f4 => ?_
  obtain ⟨kA', comp', g1, g2, g3, g4⟩ := (hK.1.2 t0 _ ht).2
  have hAB : cB = dA t0 := Option.some.inj (f1.symm.trans g4)
  subst hAB
  generalize hH1 : H.push ({ cls := dA t0, slots := Array.replicate n.toNatClampNeg .null, vm := .none } : Cell) = H1
  have z1 : H1.size = H.size + 1 := by rw [← hH1, Array.size_push]
  have e1 : H1[H.size]? = some (arrV (dA t0) n.toNatClampNeg (fun _ => .null)) := by rw [← hH1, Array.getElem?_push_size, ← arrV_new]
  have o1 : ∀ q : Nat, q < H.size → H1[q]? = H[q]? := fun q hq => by rw [← hH1, Array.getElem?_push, if_neg (Nat.ne_of_lt hq)]
  refine W.widen (k := cells + 1) (n := slots + cap) (Nat.le_refl _) (Nat.add_le_add_left hcap _) (kk H1 ?_)
  have hh := hI.push (x1 := .inl (t0, n.toNatClampNeg, .inr (.inr (.inr (.inr (fun _ => none)))))) (by
    show H1[S.2]? = some (vp_cell _ _)
    rw [vp_cell_q, ← hz]
    exact e1) z1 o1
  rw [hz]
  exact hh
end MW
section MX
variable {p : Program} {l : Launch} {e : Env} {R : Room} {s : State} {m : MethodId} {args : Array Value} {below : List Frame} {meth : Method} {c : Code} {H : Heap} {locs : List Loc} {cells slots : Nat} {Q : State → Prop}
variable {cc : ByteArray} {pc nL : Nat} {ls : Array Slot} {rest : List Value} {D : va_G} {dA : Nat → ClassId} {cl : List vw_C} {A : Nat → Prop} {tys : List (ClassId × FieldType)} {Z : mw_Z} {H0 : Heap} {S S1 : mc_S} {Ts : List Cond} {own : String} {r : Option Nat}
theorem mw_aload_n (F : CallFix p m c cc nL s args Ts own) {k : Fin 4} {i : Nat} (hdg : decode cc pc = .ok (.aload_n k, 1)) (hi : (k : Nat) = i) (hl : ls[i]? = some (.val (va_rf r))) (kk : W p l e R s m args below meth c H locs cells slots Q (F0 m (pc + 1) ls (va_rf r :: rest))) : W p l e R s m args below meth c H locs cells slots Q (F0 m pc ls rest) := by
  cases r with
  | none => exact lv_aload_nN F.1 F.2.1 hdg hi hl kk
  | some y => exact lv_aload_n F.1 F.2.1 hdg hi hl kk
theorem mw_aload (F : CallFix p m c cc nL s args Ts own) {i : Nat} (hdg : decode cc pc = .ok (.aload i, 2)) (hl : ls[i]? = some (.val (va_rf r))) (kk : W p l e R s m args below meth c H locs cells slots Q (F0 m (pc + 2) ls (va_rf r :: rest))) : W p l e R s m args below meth c H locs cells slots Q (F0 m pc ls rest) := by
  cases r with
  | none => exact lv_aloadN F.1 F.2.1 hdg hl kk
  | some y => exact lv_aload F.1 F.2.1 hdg hl kk
theorem mw_cat (r : Option Nat) : (va_rf r).category = 1 := by cases r <;> rfl
theorem mw_null (F : CallFix p m c cc nL s args Ts own) (hdg : decode cc pc = .ok (.aconst_null, 1)) (kk : W p l e R s m args below meth c H locs cells slots Q (F0 m (pc + 1) ls (va_rf none :: rest))) : W p l e R s m args below meth c H locs cells slots Q (F0 m pc ls rest) := lv_null F.1 F.2.1 hdg kk
theorem mw_ifnull (F : CallFix p m c cc nL s args Ts own) {off : Int} {tgt : Nat} (hdg : decode cc pc = .ok (.ifnull off, 3)) (ht : (pc : Int) + off = (tgt : Int)) (kt : r = none → W p l e R s m args below meth c H locs cells slots Q (F0 m tgt ls rest)) (kf : ¬ r = none → W p l e R s m args below meth c H locs cells slots Q (F0 m (pc + 3) ls rest)) : W p l e R s m args below meth c H locs cells slots Q (F0 m pc ls (va_rf r :: rest)) := by
  cases r with
  | none => exact lv_ifnullN F.1 F.2.1 hdg ht (kt rfl)
  | some y => exact lv_ifnull F.1 F.2.1 hdg (kf (fun h => by cases h))
theorem mw_ifnonnull (F : CallFix p m c cc nL s args Ts own) {off : Int} {tgt : Nat} (hdg : decode cc pc = .ok (.ifnonnull off, 3)) (ht : (pc : Int) + off = (tgt : Int)) (kt : ¬ r = none → W p l e R s m args below meth c H locs cells slots Q (F0 m tgt ls rest)) (kf : r = none → W p l e R s m args below meth c H locs cells slots Q (F0 m (pc + 3) ls rest)) : W p l e R s m args below meth c H locs cells slots Q (F0 m pc ls (va_rf r :: rest)) := by
  cases r with
  | none => exact lv_ifnonnullN F.1 F.2.1 hdg (kf rfl)
  | some y => exact lv_ifnonnull F.1 F.2.1 hdg ht (kt (fun h => by cases h))
theorem mw_tabIn (F : CallFix p m c cc nL s args Ts own) {dflt lo hi : Int} {offs : Array Int} {len : Nat} {x k : Int32} {off : Int} {tgt : Nat} (hx : x = k) (hdg : decode cc pc = .ok (.tableswitch dflt lo hi offs, len)) (h1 : ¬ k.toInt < lo) (h2 : ¬ hi < k.toInt) (ho : offs[(k.toInt - lo).toNat]? = some off) (ht : (pc : Int) + off = (tgt : Int))
    (kk : W p l e R s m args below meth c H locs cells slots Q (F0 m tgt ls rest)) : W p l e R s m args below meth c H locs cells slots Q (F0 m pc ls (.int x :: rest)) := by
  subst hx
  exact lv_tableIn F.1 F.2.1 hdg h1 h2 ho ht kk
theorem mw_objInit (F : CallFix p m c cc nL s args Ts own) {idx a : Nat} (hlink : Cond.methodLink own idx Lib.objectInit ∈ Ts) (hinst : Cond.instanceMethod Lib.objectInit ∈ Ts) (hcode : Cond.code Lib.objectInit ⟨#[0xb1]⟩ 1 none ∈ Ts) (hls : ls.size = nL) (hdg : decode cc pc = .ok (.invokespecial idx, 3)) (hf : 1 ≤ R.frames) (hlo : (rest.map fun v => v.category).sum + 12 ≤ R.locals)
    (kk : W p l e R s m args below meth c H locs cells slots Q (F0 m (pc + 3) ls rest)) : W p l e R s m args below meth c H locs cells slots Q (F0 m pc ls (va_rf (some a) :: rest)) := by
  obtain ⟨hexec, hb, hml, hown, hts⟩ := F
  exact W.objInit hexec hb hown (hts _ hlink) (hts _ hinst) (hts _ hcode) rfl (by rw [hml]; exact hls) rfl hdg hf (by show 2 * 0 + _ + 12 ≤ _; omega) kk
theorem mw_nn {z : Int32} (hz : ¬ z < 0) : z.toInt = (z.toNatClampNeg : Int) := by
  have hz0 : (0 : Int) ≤ z.toInt := by
    have := Int32.not_lt.mp hz
    simpa using Int32.le_iff_toInt_le.mp this
  show z.toInt = ((z.toInt.toNat : Nat) : Int)
  omega
theorem mw_copyi (F : CallFix p m c cc nL s args Ts own) (hK : mw_K D cl tys Z s) (hI : mw_I D dA cl A S H0 H locs) {index t0 : Nat} (hlink : Cond.methodLink own index arraycopyName ∈ Ts) (hnat : Cond.native arraycopyName ∈ Ts) (hstat : Cond.static arraycopyName ∈ Ts) (hini : Cond.initialized "java/lang/System" ∈ Ts) (ht : tys[t0]? = some (dA t0, .int))
    {r0 r1 : Option Nat} {sp dp n : Int32} (h : cpI S r0 sp r1 dp n t0 = some S1) (hls : ls.size = nL) (hframes : 1 ≤ R.frames) (hlocals : (rest.map fun v => v.category).sum + (nativeFrameWords "java/lang/System" "arraycopy" 5 + 11) ≤ R.locals) (hdg : decode cc pc = .ok (.invokestatic index, 3))
    (kk : ∀ (H1 : Heap) (locs1 : List Loc), mw_I D dA cl A S1 H0 H1 locs1 → W p l e R s m args below meth c H1 locs1 cells slots Q (F0 m (pc + 3) ls rest)) : W p l e R s m args below meth c H locs cells slots Q (F0 m pc ls (.int n :: .int dp :: va_rf r1 :: .int sp :: va_rf r0 :: rest)) := by
  obtain ⟨a0, a, n0, n1, f, g, rfl, rfl, he0, he1, ⟨h1, h2, h3, h4, h5⟩, rfl⟩ := cpI_inv h
  obtain ⟨hexec, hb, hml, hown, hts⟩ := F
  intro T hT X
  have hc0 : H[a0]? = some (vp_cell (dA t0) (n0, .inl f)) := hI.1 a0 _ he0
  have hc1 : H[a]? = some (vp_cell (dA t0) (n1, .inl g)) := hI.1 a _ he1
  obtain ⟨-, k0, hk0, cm0, hkk0⟩ := (hK.1.2 t0 _ ht).1 n0 (fun j => .int (f j))
  obtain ⟨-, k1, hk1, cm1, hkk1⟩ := (hK.1.2 t0 _ ht).1 n1 (fun j => .int (g j))
  obtain ⟨vm', X', step⟩ := X.arraycopy hexec hown (hts _ hlink) (hts _ hnat) (hts _ hstat) (hts _ hini) (src := a0) (dst := a) (cs := vp_cell (dA t0) (n0, .inl f)) (cd := vp_cell (dA t0) (n1, .inl g)) (srcPos := sp) (destPos := dp) (n := n) (by rw [hT]; exact hc0) (by rw [hT]; exact hc1)
    (fun _ h => by cases h) (fun _ h => by cases h) (fun h => by cases h) (fun h => by cases h) hk0 hk1 hkk0 hkk1 (by simp [refKind]) h1 h2 h3
    (by rw [mw_nn h1, mw_nn h3]; show ¬ _ > ((arrV (dA t0) n0 (fun j => .int (f j))).slots.size : Int); rw [arrV_size]; omega)
    (by rw [mw_nn h2, mw_nn h3]; show ¬ _ > ((arrV (dA t0) n1 (fun j => .int (g j))).slots.size : Int); rw [arrV_size]; omega)
    (fun vm₁ _ i hi => by
      have e : (vp_cell (dA t0) (n0, .inl f)).slots.getD (sp.toNatClampNeg + i) .null = .int (f (sp.toNatClampNeg + i)) := by
        show (arrV (dA t0) n0 (fun j => .int (f j))).slots.getD _ _ = _
        rw [Array.getD_eq_getD_getElem?, arrV_read _ _ (by omega)]
        rfl
      refine ⟨?_, ?_⟩
      · rw [e]
        rfl
      · rw [e]
        exact trivial)
    (g := F0 m pc ls (.int n :: .int dp :: .ref a :: .int sp :: .ref a0 :: rest)) rfl (by rw [hml]; exact hls) (rest := rest) rfl (by rw [hb]; exact hdg) hframes (by show 2 * 0 + _ + _ ≤ _; omega)
  have e1 : copied (vp_cell (dA t0) (n0, .inl f)) (vp_cell (dA t0) (n1, .inl g)) sp dp n = vp_cell (dA t0) (n1, .inl (va_cpy f g sp.toNatClampNeg dp.toNatClampNeg n.toNatClampNeg)) := va_copied (fun z => .int z) (dA t0) (dA t0) f g h4
  rw [e1] at X' step
  have hl : a < H.size := (Array.getElem?_eq_some_iff.mp hc1).1
  have hheap : ((T.setVm vm').setCell a (vp_cell (dA t0) (n1, .inl (va_cpy f g sp.toNatClampNeg dp.toNatClampNeg n.toNatClampNeg)))).heap = H.setIfInBounds a (vp_cell (dA t0) (n1, .inl (va_cpy f g sp.toNatClampNeg dp.toNatClampNeg n.toNatClampNeg))) := by rw [← hT]; rfl
  have oq : ∀ q : Nat, q ≠ a → (H.setIfInBounds a (vp_cell (dA t0) (n1, .inl (va_cpy f g sp.toNatClampNeg dp.toNatClampNeg n.toNatClampNeg))))[q]? = H[q]? := fun q hq => by simp [Array.getElem?_setIfInBounds, Ne.symm hq]
  obtain ⟨hP, hz, hA, hN, hS⟩ := hI
  have hx : va_at D cl (a, mw_tr dA (.inl (t0, n1, .inl (va_cpy f g sp.toNatClampNeg dp.toNatClampNeg n.toNatClampNeg)))) (H.setIfInBounds a (vp_cell (dA t0) (n1, .inl (va_cpy f g sp.toNatClampNeg dp.toNatClampNeg n.toNatClampNeg)))) := by
    show (H.setIfInBounds a _)[a]? = some _
    simp [Array.getElem?_setIfInBounds, hl, mw_tr]
  have hI2 := mw_I.set (k := 0) ⟨hP, hz, hA, hN, hS⟩ he1 hx (by simp) oq
  obtain ⟨t, a1, b1⟩ := kk _ _ ⟨hI2.1, hI2.2.1, hI2.2.2.1, hI2.2.2.2.1, hI2.2.2.2.2.1, hI2.2.2.2.2.2.1, fun q hq => by
      rcases List.mem_append.mp hq with h | h
      · exact hS.2.2 q h
      · obtain ⟨z, -, hz⟩ := List.mem_map.mp h
        rw [← hz]
        exact hA a _ he1⟩ _ hheap X'
  exact ⟨t, step t a1, b1⟩
theorem mw_copyl (F : CallFix p m c cc nL s args Ts own) (hK : mw_K D cl tys Z s) (hI : mw_I D dA cl A S H0 H locs) {index t0 : Nat} (hlink : Cond.methodLink own index arraycopyName ∈ Ts) (hnat : Cond.native arraycopyName ∈ Ts) (hstat : Cond.static arraycopyName ∈ Ts) (hini : Cond.initialized "java/lang/System" ∈ Ts) (ht : tys[t0]? = some (dA t0, .long))
    {r0 r1 : Option Nat} {sp dp n : Int32} (h : cpL S r0 sp r1 dp n t0 = some S1) (hls : ls.size = nL) (hframes : 1 ≤ R.frames) (hlocals : (rest.map fun v => v.category).sum + (nativeFrameWords "java/lang/System" "arraycopy" 5 + 11) ≤ R.locals) (hdg : decode cc pc = .ok (.invokestatic index, 3))
    (kk : ∀ (H1 : Heap) (locs1 : List Loc), mw_I D dA cl A S1 H0 H1 locs1 → W p l e R s m args below meth c H1 locs1 cells slots Q (F0 m (pc + 3) ls rest)) : W p l e R s m args below meth c H locs cells slots Q (F0 m pc ls (.int n :: .int dp :: va_rf r1 :: .int sp :: va_rf r0 :: rest)) := by
  obtain ⟨a0, a, n0, n1, f, g, rfl, rfl, he0, he1, ⟨h1, h2, h3, h4, h5⟩, rfl⟩ := cpL_inv h
  obtain ⟨hexec, hb, hml, hown, hts⟩ := F
  intro T hT X
  have hc0 : H[a0]? = some (vp_cell (dA t0) (n0, .inr (.inl f))) := hI.1 a0 _ he0
  have hc1 : H[a]? = some (vp_cell (dA t0) (n1, .inr (.inl g))) := hI.1 a _ he1
  obtain ⟨-, k0, hk0, cm0, hkk0⟩ := (hK.1.2 t0 _ ht).1 n0 (fun j => .long (f j))
  obtain ⟨-, k1, hk1, cm1, hkk1⟩ := (hK.1.2 t0 _ ht).1 n1 (fun j => .long (g j))
  obtain ⟨vm', X', step⟩ := X.arraycopy hexec hown (hts _ hlink) (hts _ hnat) (hts _ hstat) (hts _ hini) (src := a0) (dst := a) (cs := vp_cell (dA t0) (n0, .inr (.inl f))) (cd := vp_cell (dA t0) (n1, .inr (.inl g))) (srcPos := sp) (destPos := dp) (n := n) (by rw [hT]; exact hc0) (by rw [hT]; exact hc1)
    (fun _ h => by cases h) (fun _ h => by cases h) (fun h => by cases h) (fun h => by cases h) hk0 hk1 hkk0 hkk1 (by simp [refKind]) h1 h2 h3
    (by rw [mw_nn h1, mw_nn h3]; show ¬ _ > ((arrV (dA t0) n0 (fun j => .long (f j))).slots.size : Int); rw [arrV_size]; omega)
    (by rw [mw_nn h2, mw_nn h3]; show ¬ _ > ((arrV (dA t0) n1 (fun j => .long (g j))).slots.size : Int); rw [arrV_size]; omega)
    (fun vm₁ _ i hi => by
      have e : (vp_cell (dA t0) (n0, .inr (.inl f))).slots.getD (sp.toNatClampNeg + i) .null = .long (f (sp.toNatClampNeg + i)) := by
        show (arrV (dA t0) n0 (fun j => .long (f j))).slots.getD _ _ = _
        rw [Array.getD_eq_getD_getElem?, arrV_read _ _ (by omega)]
        rfl
      refine ⟨?_, ?_⟩
      · rw [e]
        rfl
      · rw [e]
        exact trivial)
    (g := F0 m pc ls (.int n :: .int dp :: .ref a :: .int sp :: .ref a0 :: rest)) rfl (by rw [hml]; exact hls) (rest := rest) rfl (by rw [hb]; exact hdg) hframes (by show 2 * 0 + _ + _ ≤ _; omega)
  have e1 : copied (vp_cell (dA t0) (n0, .inr (.inl f))) (vp_cell (dA t0) (n1, .inr (.inl g))) sp dp n = vp_cell (dA t0) (n1, .inr (.inl (va_cpy f g sp.toNatClampNeg dp.toNatClampNeg n.toNatClampNeg))) := va_copied (fun z => .long z) (dA t0) (dA t0) f g h4
  rw [e1] at X' step
  have hl : a < H.size := (Array.getElem?_eq_some_iff.mp hc1).1
  have hheap : ((T.setVm vm').setCell a (vp_cell (dA t0) (n1, .inr (.inl (va_cpy f g sp.toNatClampNeg dp.toNatClampNeg n.toNatClampNeg))))).heap = H.setIfInBounds a (vp_cell (dA t0) (n1, .inr (.inl (va_cpy f g sp.toNatClampNeg dp.toNatClampNeg n.toNatClampNeg)))) := by rw [← hT]; rfl
  have oq : ∀ q : Nat, q ≠ a → (H.setIfInBounds a (vp_cell (dA t0) (n1, .inr (.inl (va_cpy f g sp.toNatClampNeg dp.toNatClampNeg n.toNatClampNeg)))))[q]? = H[q]? := fun q hq => by simp [Array.getElem?_setIfInBounds, Ne.symm hq]
  obtain ⟨hP, hz, hA, hN, hS⟩ := hI
  have hx : va_at D cl (a, mw_tr dA (.inl (t0, n1, .inr (.inl (va_cpy f g sp.toNatClampNeg dp.toNatClampNeg n.toNatClampNeg))))) (H.setIfInBounds a (vp_cell (dA t0) (n1, .inr (.inl (va_cpy f g sp.toNatClampNeg dp.toNatClampNeg n.toNatClampNeg))))) := by
    show (H.setIfInBounds a _)[a]? = some _
    simp [Array.getElem?_setIfInBounds, hl, mw_tr]
  have hI2 := mw_I.set (k := 0) ⟨hP, hz, hA, hN, hS⟩ he1 hx (by simp) oq
  obtain ⟨t, a1, b1⟩ := kk _ _ ⟨hI2.1, hI2.2.1, hI2.2.2.1, hI2.2.2.2.1, hI2.2.2.2.2.1, hI2.2.2.2.2.2.1, fun q hq => by
      rcases List.mem_append.mp hq with h | h
      · exact hS.2.2 q h
      · obtain ⟨z, -, hz⟩ := List.mem_map.mp h
        rw [← hz]
        exact hA a _ he1⟩ _ hheap X'
  exact ⟨t, step t a1, b1⟩
end MX
section MY
variable {p : Program} {l : Launch} {e : Env} {R : Room} {s : State} {m : MethodId} {args : Array Value} {below : List Frame} {meth : Method} {c : Code} {H : Heap} {locs : List Loc} {cells slots : Nat} {Q : State → Prop}
variable {cc bytes : ByteArray} {pc nL maxL index n mc ms : Nat} {ls : Array Slot} {rest st0 As : List Value} {D : va_G} {dA : Nat → ClassId} {cl : List vw_C} {A : Nat → Prop} {tys : List (ClassId × FieldType)} {Z : mw_Z} {H0 : Heap} {S S1 : mc_S} {Ts ws : List Cond} {own C : String} {r : Option Nat} {y : MethodName} {ret : Option FieldType} {rm : Room} {Qc : Array Value → State → Outcome → State → Prop} {b : Nat} {g : JFrame} {a : Array Value}
theorem mw_blind {av : List Value} : FrameBlind (va_Pc av (mw_B D dA cl tys Z A S)) := fun _ U _ _ q => ⟨q.1, q.2.1, q.2.2.1, q.2.2.2.1, q.2.2.2.2.1, mw_K.same (u := U) rfl q.2.2.2.2.2⟩
theorem mw_pre (hK : mw_K D cl tys Z s) (hI : mw_I D dA cl A S s.heap H locs) {U : State} (hU : U.heap = H) (hW : s.WarmedH U.vm) {av : List Value} : va_Pc av (mw_B D dA cl tys Z A S) av.toArray U :=
  ⟨rfl, by rw [hU]; exact hI.1, by rw [hU]; exact hI.2.1, hI.2.2.1, fun q hq => hI.2.2.2.1 q (Nat.le_trans hI.2.2.2.2.1 (by rw [hI.2.1]; exact hq)), hK.warm hW⟩
theorem mw_preS (hK : mw_K D cl tys Z s) (hI : mw_I D dA cl A S s.heap H locs) {av : List Value} : PreS s H (va_Pc av (mw_B D dA cl tys Z A S)) av := ⟨mw_blind, fun _ hU hW => mw_pre hK hI hU hW⟩
theorem mw_runV (F : CallFix p m c cc nL s args Ts own) (hK : mw_K D cl tys Z s) (hI : mw_I D dA cl A S s.heap H locs) (hM : Met l y ws rm (va_Pc (va_rf (some b) :: As) (mw_B D dA cl tys Z A S)) Qc mc ms A) (cw : CallW R s args own C index y bytes maxL ret ws rm mc ms n) {ci : Nat} {T : u_T} {N : Nat} (hc : cl[ci]? = some (C, T, N)) (hr : rcv S r ci = some b)
    (hn : As.length = n) (hsize : ls.size = nL) (hstack : st0 = As.reverse ++ va_rf r :: rest) (hW : (rest.map fun v => v.category).sum ≤ 8) (hdg : decode cc pc = .ok (.invokevirtual index, 3)) (hf : cells + mc ≤ R.cells ∧ slots + ms ≤ R.slots) :
    va_Run p l e R s m args below meth c H locs cells slots mc ms (F0 m pc ls st0) rest (Qc (Value.ref b :: As).toArray) A := by
  obtain ⟨rfl, fs, he⟩ := rcv_inv hr
  obtain ⟨q, h1, cell, q1, q2, q3, q4⟩ := hI.1 b _ he
  have hr : q = (C, T, N) := Option.some.inj (h1.symm.trans hc)
  subst hr
  have hKn := hK.1.1 ci _ hc
  exact va_runV F hM cw ⟨mw_blind, ⟨cell, q1, by rw [q3]; rfl, by rw [q2]; exact hKn.2.1⟩, fun U hU hW => mw_pre hK hI hU hW⟩ rfl hn hsize hstack (lv_room hW) hdg hf
theorem mw_runS (F : CallFix p m c cc nL s args Ts own) (hK : mw_K D cl tys Z s) (hI : mw_I D dA cl A S s.heap H locs) (hM : Met l y ws rm (va_Pc As (mw_B D dA cl tys Z A S)) Qc mc ms A) (cw : CallB R s args own index y bytes maxL ret ws rm mc ms n ∧ (Cond.static y).before args s = true)
    (hn : As.length = n) (hsize : ls.size = nL) (hstack : st0 = As.reverse ++ rest) (hW : (rest.map fun v => v.category).sum ≤ 8) (hdg : decode cc pc = .ok (.invokestatic index, 3)) (hf : cells + mc ≤ R.cells ∧ slots + ms ≤ R.slots) :
    va_Run p l e R s m args below meth c H locs cells slots mc ms (F0 m pc ls st0) rest (Qc As.toArray) A := va_runS F hM cw (mw_preS hK hI) rfl hn hsize hstack (lv_room hW) hdg hf
theorem mw_runI (F : CallFix p m c cc nL s args Ts own) (hK : mw_K D cl tys Z s) (hI : mw_I D dA cl A S s.heap H locs) (hM : Met l y ws rm (va_Pc (va_rf (some b) :: As) (mw_B D dA cl tys Z A S)) Qc mc ms A) (cw : CallB R s args own index y bytes maxL none ws rm mc ms n ∧ y.name = "<init>" ∧ (Cond.instanceMethod y).before args s = true) {ci : Nat} (hr : rcv S r ci = some b)
    (hn : As.length = n) (hsize : ls.size = nL) (hstack : st0 = As.reverse ++ va_rf r :: rest) (hW : (rest.map fun v => v.category).sum ≤ 8) (hdg : decode cc pc = .ok (.invokespecial index, 3)) (hf : cells + mc ≤ R.cells ∧ slots + ms ≤ R.slots) :
    va_Run p l e R s m args below meth c H locs cells slots mc ms (F0 m pc ls st0) rest (Qc (Value.ref b :: As).toArray) A := by
  obtain ⟨rfl, fs, he⟩ := rcv_inv hr
  exact va_runI F hM cw (mw_preS (av := va_rf (some b) :: As) hK hI) rfl hn hsize hstack (lv_room hW) hdg hf
theorem mw_runIN (F : CallFix p m c cc nL s args Ts own) (hK : mw_K D cl tys Z s) (hI : mw_I D dA cl A S s.heap H locs) (hM : Met l y ws rm (va_Pc (va_rf (some b) :: As) (mw_B D dA cl tys Z A S)) Qc mc ms A) {host : String} (cw : va_CN R s args own index y host bytes maxL none ws rm mc ms n ∧ y.name = "<init>" ∧ (Cond.instanceMethod y).before args s = true) {ci : Nat} (hr : rcv S r ci = some b)
    (hn : As.length = n) (hsize : ls.size = nL) (hstack : st0 = As.reverse ++ va_rf r :: rest) (hW : (rest.map fun v => v.category).sum ≤ 8) (hdg : decode cc pc = .ok (.invokespecial index, 3)) (hf : cells + mc ≤ R.cells ∧ slots + ms ≤ R.slots) :
    va_Run p l e R s m args below meth c H locs cells slots mc ms (F0 m pc ls st0) rest (Qc (Value.ref b :: As).toArray) A := by
  obtain ⟨rfl, fs, he⟩ := rcv_inv hr
  exact va_runIN F hM cw (mw_preS (av := va_rf (some b) :: As) hK hI) rfl hn hsize hstack (lv_room hW) hdg hf
theorem mw_back (hI : mw_I D dA cl A S H0 H locs) {t : State} {H1 : Heap} {locs1 : List Loc} (ht : t.heap = H1) (hB : mw_R D dA cl A S1 t) (hS : va_S A H0 H1 locs1) : mw_I D dA cl A S1 H0 H1 locs1 := ⟨by rw [← ht]; exact hB.1, by rw [← ht]; exact hB.2.1, hB.2.2, hI.2.2.2.1, hS⟩
theorem mw_calli (hI : mw_I D dA cl A S s.heap H locs) {out : Int32 × mc_S} (hr : va_Run p l e R s m args below meth c H locs cells slots mc ms (F0 m pc ls st0) rest (va_Qi (fun x (_ : Unit) => x = out.1) (fun _ t => mw_R D dA cl A out.2 t) A a) A)
    (kk : ∀ (H1 : Heap) (locs1 : List Loc), mw_I D dA cl A out.2 s.heap H1 locs1 → W p l e R s m args below meth c H1 locs1 (cells + mc) (slots + ms) Q (F0 m (pc + 3) ls (.int out.1 :: rest))) : W p l e R s m args below meth c H locs cells slots Q (F0 m pc ls st0) :=
  va_calli hr hI.2.2.2.2 (fun _ _ h => h) (fun _ h => h) (fun x _ t H1 locs1 ht _ hx hB _ _ hS => by subst hx; exact kk H1 locs1 (mw_back hI ht hB hS))
theorem mw_calll (hI : mw_I D dA cl A S s.heap H locs) {out : Int64 × mc_S} (hr : va_Run p l e R s m args below meth c H locs cells slots mc ms (F0 m pc ls st0) rest (va_Ql (fun x (_ : Unit) => x = out.1) (fun _ t => mw_R D dA cl A out.2 t) A a) A)
    (kk : ∀ (H1 : Heap) (locs1 : List Loc), mw_I D dA cl A out.2 s.heap H1 locs1 → W p l e R s m args below meth c H1 locs1 (cells + mc) (slots + ms) Q (F0 m (pc + 3) ls (.long out.1 :: rest))) : W p l e R s m args below meth c H locs cells slots Q (F0 m pc ls st0) :=
  va_calll hr hI.2.2.2.2 (fun _ _ h => h) (fun _ h => h) (fun x _ t H1 locs1 ht _ hx hB _ _ hS => by subst hx; exact kk H1 locs1 (mw_back hI ht hB hS))
theorem mw_callq (hI : mw_I D dA cl A S s.heap H locs) {out : Option Nat × mc_S} (hr : va_Run p l e R s m args below meth c H locs cells slots mc ms (F0 m pc ls st0) rest (va_Qq (fun x (_ : Unit) => x = out.1) (fun _ t => mw_R D dA cl A out.2 t) A a) A)
    (kk : ∀ (H1 : Heap) (locs1 : List Loc), mw_I D dA cl A out.2 s.heap H1 locs1 → W p l e R s m args below meth c H1 locs1 (cells + mc) (slots + ms) Q (F0 m (pc + 3) ls (va_rf out.1 :: rest))) : W p l e R s m args below meth c H locs cells slots Q (F0 m pc ls st0) :=
  va_callq hr hI.2.2.2.2 (fun _ _ h => h) (fun _ h => h) (fun x _ t H1 locs1 ht _ hx hB _ _ hS => by subst hx; exact kk H1 locs1 (mw_back hI ht hB hS))
theorem mw_callv (hI : mw_I D dA cl A S s.heap H locs) {out : mc_S} (hr : va_Run p l e R s m args below meth c H locs cells slots mc ms (F0 m pc ls st0) rest (va_Qv (fun (_ : Unit) => True) (fun _ t => mw_R D dA cl A out t) A a) A)
    (kk : ∀ (H1 : Heap) (locs1 : List Loc), mw_I D dA cl A out s.heap H1 locs1 → W p l e R s m args below meth c H1 locs1 (cells + mc) (slots + ms) Q (F0 m (pc + 3) ls rest)) : W p l e R s m args below meth c H locs cells slots Q (F0 m pc ls st0) :=
  va_callv hr hI.2.2.2.2 (fun _ _ h => h) (fun _ h => h) (fun _ t H1 locs1 ht _ _ hB _ _ hS => kk H1 locs1 (mw_back hI ht hB hS))
theorem mw_end (hI : mw_I D dA cl A S s.heap H locs) {t : State} (ht : t.heap = H) : mw_R D dA cl A S t := ⟨by rw [ht]; exact hI.1, by rw [ht]; exact hI.2.1, hI.2.2.1⟩
theorem mw_iret (F : CallFix p m c cc nL s args Ts own) (hI : mw_I D dA cl A S s.heap H locs) (hr : meth.sig.returnType = some .int) (hlk : meth.locks = false) {out : Int32 × mc_S} {v : Int32} (h : some (v, S) = some out) (hc : cells ≤ mc) (hs : slots ≤ ms) (hdg : decode cc pc = .ok (.ireturn, 1)) :
    W p l e R s m args below meth c H locs cells slots (MQ below (va_Qi (fun x (_ : Unit) => x = out.1) (fun _ t => mw_R D dA cl A out.2 t) A) args s mc ms A) (F0 m pc ls [.int v]) := by
  cases h
  exact W.widen hc hs (W.iret F.1 F.2.1 hr (fun t ht _ => ⟨⟨_, (), rfl, rfl, mw_end hI ht⟩, hI.2.2.2.2.F ht⟩) hI.2.2.2.2.2.2 hdg hlk)
theorem mw_zret (F : CallFix p m c cc nL s args Ts own) (hI : mw_I D dA cl A S s.heap H locs) {ty : FieldType} (hr : meth.sig.returnType = some ty) (hlk : meth.locks = false) {out : Int32 × mc_S} {v : Int32} (hn : narrow ty (.int v) = .int v) (h : some (v, S) = some out) (hc : cells ≤ mc) (hs : slots ≤ ms) (hdg : decode cc pc = .ok (.ireturn, 1)) :
    W p l e R s m args below meth c H locs cells slots (MQ below (va_Qi (fun x (_ : Unit) => x = out.1) (fun _ t => mw_R D dA cl A out.2 t) A) args s mc ms A) (F0 m pc ls [.int v]) := by
  cases h
  exact W.widen hc hs (W.zret F.1 F.2.1 hr hn (fun t ht _ => ⟨⟨_, (), rfl, rfl, mw_end hI ht⟩, hI.2.2.2.2.F ht⟩) hI.2.2.2.2.2.2 hdg hlk)
theorem mw_lret (F : CallFix p m c cc nL s args Ts own) (hI : mw_I D dA cl A S s.heap H locs) (hr : meth.sig.returnType = some .long) (hlk : meth.locks = false) {out : Int64 × mc_S} {v : Int64} (h : some (v, S) = some out) (hc : cells ≤ mc) (hs : slots ≤ ms) (hdg : decode cc pc = .ok (.lreturn, 1)) :
    W p l e R s m args below meth c H locs cells slots (MQ below (va_Ql (fun x (_ : Unit) => x = out.1) (fun _ t => mw_R D dA cl A out.2 t) A) args s mc ms A) (F0 m pc ls [.long v]) := by
  cases h
  exact W.widen hc hs (W.lret F.1 F.2.1 hr (fun t ht _ => ⟨⟨_, (), rfl, rfl, mw_end hI ht⟩, hI.2.2.2.2.F ht⟩) hI.2.2.2.2.2.2 hdg hlk)
theorem mw_qret (F : CallFix p m c cc nL s args Ts own) (hI : mw_I D dA cl A S s.heap H locs) {C : String} (hr : meth.sig.returnType = some (.object C)) (hlk : meth.locks = false) {out : Option Nat × mc_S} {v : Option Nat} (h : some (v, S) = some out) (hc : cells ≤ mc) (hs : slots ≤ ms) (hdg : decode cc pc = .ok (.areturn, 1)) :
    W p l e R s m args below meth c H locs cells slots (MQ below (va_Qq (fun x (_ : Unit) => x = out.1) (fun _ t => mw_R D dA cl A out.2 t) A) args s mc ms A) (F0 m pc ls [va_rf v]) := by
  cases h
  exact W.widen hc hs (W.aret F.1 F.2.1 hr (Or.inl ⟨C, rfl⟩) (va_rf_or v) (fun t ht _ => ⟨⟨_, (), rfl, rfl, mw_end hI ht⟩, hI.2.2.2.2.F ht⟩) hI.2.2.2.2.2.2 hdg hlk)
theorem mw_vret (F : CallFix p m c cc nL s args Ts own) (hI : mw_I D dA cl A S s.heap H locs) (hr : meth.sig.returnType = none) (hlk : meth.locks = false) {out : mc_S} (h : some S = some out) (hc : cells ≤ mc) (hs : slots ≤ ms) (hdg : decode cc pc = .ok (.return_, 1)) :
    W p l e R s m args below meth c H locs cells slots (MQ below (va_Qv (fun (_ : Unit) => True) (fun _ t => mw_R D dA cl A out t) A) args s mc ms A) (F0 m pc ls []) := by
  cases h
  exact W.widen hc hs (W.vret F.1 F.2.1 hr (fun t ht _ => ⟨⟨(), rfl, trivial, mw_end hI ht⟩, hI.2.2.2.2.F ht⟩) hI.2.2.2.2.2.2 hdg hlk)
end MY
abbrev mt_T : Type := Int32 ⊕ Int64 ⊕ Option Nat
def mt_V (t : mt_T) : Value := match t with
  | .inl x => .int x
  | .inr (.inl x) => .long x
  | .inr (.inr r) => va_rf r
def mt_c (t : mt_T) : Nat := match t with
  | .inl _ => 1
  | .inr (.inl _) => 2
  | .inr (.inr _) => 1
theorem mt_cV (t : mt_T) : (mt_V t).category = mt_c t := by
  rcases t with x | x | r
  · rfl
  · rfl
  · cases r <;> rfl
def mt_p (q : Nat × mt_T) : Nat × Value := (q.1, mt_V q.2)
def mt_L (ls : Array Slot) (nL : Nat) (l : List (Nat × mt_T)) : Prop := lv_has ls nL (l.map mt_p)
def mt_o1 (i : Nat) (l : List (Nat × mt_T)) : List (Nat × mt_T) := l.filter (fun q => !(q.1 == i) && !(q.1 + 1 == i && mt_c q.2 == 2))
def mt_o2 (i : Nat) (l : List (Nat × mt_T)) : List (Nat × mt_T) := l.filter (fun q => !(q.1 == i) && (!(q.1 == i + 1) && !(q.1 + 1 == i && mt_c q.2 == 2)))
theorem mt_f1 (i : Nat) (l : List (Nat × mt_T)) : (l.map mt_p).filter (fun q => !(q.1 == i) && !(q.1 + 1 == i && q.2.category == 2)) = (mt_o1 i l).map mt_p := by
  rw [List.filter_map]
  unfold mt_o1
  congr 1
  congr 1
  funext q
  show (!(q.1 == i) && !(q.1 + 1 == i && (mt_V q.2).category == 2)) = _
  rw [mt_cV]
theorem mt_f2 (i : Nat) (l : List (Nat × mt_T)) : (l.map mt_p).filter (fun q => !(q.1 == i) && (!(q.1 == i + 1) && !(q.1 + 1 == i && q.2.category == 2))) = (mt_o2 i l).map mt_p := by
  rw [List.filter_map]
  unfold mt_o2
  congr 1
  congr 1
  funext q
  show (!(q.1 == i) && (!(q.1 == i + 1) && !(q.1 + 1 == i && (mt_V q.2).category == 2))) = _
  rw [mt_cV]
def mt_args : Nat → List mt_T → List (Nat × mt_T)
  | _, [] => []
  | i, t :: ts => (i, t) :: mt_args (i + mt_c t) ts
theorem mt_args_eq (ts : List mt_T) : ∀ i : Nat, lv_args i (ts.map mt_V) = (mt_args i ts).map mt_p := by
  induction ts with
  | nil => intro i; rfl
  | cons t ts ih =>
    intro i
    show (i, mt_V t) :: lv_args (if (mt_V t).category = 2 then i + 2 else i + 1) (ts.map mt_V) = (i, mt_V t) :: (mt_args (i + mt_c t) ts).map mt_p
    rw [ih, mt_cV]
    rcases t with x | x | r <;> rfl
def mt_n (ts : List mt_T) : Nat := match ts with
  | [] => 0
  | t :: ts => mt_c t + mt_n ts
theorem mt_len (ts : List mt_T) : (lg_sl (ts.map mt_V)).length = mt_n ts := by
  induction ts with
  | nil => rfl
  | cons t ts ih =>
    have h : lg_sl ((t :: ts).map mt_V) = (if (mt_V t).category = 2 then [.val (mt_V t), .second] else [.val (mt_V t)]) ++ lg_sl (ts.map mt_V) := rfl
    rw [h, List.length_append, ih, mt_cV]
    show _ = mt_c t + mt_n ts
    rcases t with x | x | r <;> rfl
section MT
variable {p : Program} {l : Launch} {e : Env} {R : Room} {s : State} {m : MethodId} {args : Array Value} {below : List Frame} {meth : Method} {c : Code} {H : Heap} {locs : List Loc} {cells slots : Nat} {Q : State → Prop}
variable {cc : ByteArray} {pc nL nF : Nat} {ls : Array Slot} {rest : List Value} {Ts : List Cond} {own : String} {r : Option Nat} {lv lv' : List (Nat × mt_T)}
theorem mt_at (h : mt_L ls nL lv) (k : Nat) {i : Nat} {t : mt_T} (hk : lv[k]? = some (i, t)) : ls[i]? = some (.val (mt_V t)) := lv_at h k (by rw [List.getElem?_map, hk]; rfl)
theorem mt_iload_n (F : CallFix p m c cc nF s args Ts own) (h : mt_L ls nL lv) (q : Nat) {k : Fin 4} {i : Nat} {x : Int32} (hk : lv[q]? = some (i, .inl x)) (hi : (k : Nat) = i) (hdg : decode cc pc = .ok (.iload_n k, 1)) (kk : W p l e R s m args below meth c H locs cells slots Q (F0 m (pc + 1) ls (.int x :: rest))) : W p l e R s m args below meth c H locs cells slots Q (F0 m pc ls rest) := lv_iload_n F.1 F.2.1 hdg hi (mt_at h q hk) kk
theorem mt_iload (F : CallFix p m c cc nF s args Ts own) (h : mt_L ls nL lv) (q : Nat) {i : Nat} {x : Int32} (hk : lv[q]? = some (i, .inl x)) (hdg : decode cc pc = .ok (.iload i, 2)) (kk : W p l e R s m args below meth c H locs cells slots Q (F0 m (pc + 2) ls (.int x :: rest))) : W p l e R s m args below meth c H locs cells slots Q (F0 m pc ls rest) := lv_iload F.1 F.2.1 hdg (mt_at h q hk) kk
theorem mt_lload_n (F : CallFix p m c cc nF s args Ts own) (h : mt_L ls nL lv) (q : Nat) {k : Fin 4} {i : Nat} {x : Int64} (hk : lv[q]? = some (i, .inr (.inl x))) (hi : (k : Nat) = i) (hdg : decode cc pc = .ok (.lload_n k, 1)) (kk : W p l e R s m args below meth c H locs cells slots Q (F0 m (pc + 1) ls (.long x :: rest))) : W p l e R s m args below meth c H locs cells slots Q (F0 m pc ls rest) := lv_lload_n F.1 F.2.1 hdg hi (mt_at h q hk) kk
theorem mt_lload (F : CallFix p m c cc nF s args Ts own) (h : mt_L ls nL lv) (q : Nat) {i : Nat} {x : Int64} (hk : lv[q]? = some (i, .inr (.inl x))) (hdg : decode cc pc = .ok (.lload i, 2)) (kk : W p l e R s m args below meth c H locs cells slots Q (F0 m (pc + 2) ls (.long x :: rest))) : W p l e R s m args below meth c H locs cells slots Q (F0 m pc ls rest) := lv_lload F.1 F.2.1 hdg (mt_at h q hk) kk
theorem mt_aload_n (F : CallFix p m c cc nF s args Ts own) (h : mt_L ls nL lv) (q : Nat) {k : Fin 4} {i : Nat} (hk : lv[q]? = some (i, .inr (.inr r))) (hi : (k : Nat) = i) (hdg : decode cc pc = .ok (.aload_n k, 1)) (kk : W p l e R s m args below meth c H locs cells slots Q (F0 m (pc + 1) ls (va_rf r :: rest))) : W p l e R s m args below meth c H locs cells slots Q (F0 m pc ls rest) := mw_aload_n F hdg hi (mt_at h q hk) kk
theorem mt_aload (F : CallFix p m c cc nF s args Ts own) (h : mt_L ls nL lv) (q : Nat) {i : Nat} (hk : lv[q]? = some (i, .inr (.inr r))) (hdg : decode cc pc = .ok (.aload i, 2)) (kk : W p l e R s m args below meth c H locs cells slots Q (F0 m (pc + 2) ls (va_rf r :: rest))) : W p l e R s m args below meth c H locs cells slots Q (F0 m pc ls rest) := mw_aload F hdg (mt_at h q hk) kk
theorem mt_istore_n (F : CallFix p m c cc nF s args Ts own) (h : mt_L ls nL lv) {k : Fin 4} {i : Nat} {x : Int32} (hi : (k : Nat) = i) (hn : i < nL) (hl : (i, .inl x) :: mt_o1 i lv = lv') (hdg : decode cc pc = .ok (.istore_n k, 1))
    (kk : ∀ ls' : Array Slot, mt_L ls' nL lv' → W p l e R s m args below meth c H locs cells slots Q (F0 m (pc + 1) ls' rest)) : W p l e R s m args below meth c H locs cells slots Q (F0 m pc ls (.int x :: rest)) := lv_istore_n F.1 F.2.1 hdg hi h hn (lv' := lv'.map mt_p) (by rw [mt_f1, ← hl]; rfl) kk
theorem mt_istore (F : CallFix p m c cc nF s args Ts own) (h : mt_L ls nL lv) {i : Nat} {x : Int32} (hn : i < nL) (hl : (i, .inl x) :: mt_o1 i lv = lv') (hdg : decode cc pc = .ok (.istore i, 2))
    (kk : ∀ ls' : Array Slot, mt_L ls' nL lv' → W p l e R s m args below meth c H locs cells slots Q (F0 m (pc + 2) ls' rest)) : W p l e R s m args below meth c H locs cells slots Q (F0 m pc ls (.int x :: rest)) := lv_istore F.1 F.2.1 hdg h hn (lv' := lv'.map mt_p) (by rw [mt_f1, ← hl]; rfl) kk
theorem mt_lstore_n (F : CallFix p m c cc nF s args Ts own) (h : mt_L ls nL lv) {k : Fin 4} {i : Nat} {x : Int64} (hi : (k : Nat) = i) (hn : i + 1 < nL) (hl : (i, .inr (.inl x)) :: mt_o2 i lv = lv') (hdg : decode cc pc = .ok (.lstore_n k, 1))
    (kk : ∀ ls' : Array Slot, mt_L ls' nL lv' → W p l e R s m args below meth c H locs cells slots Q (F0 m (pc + 1) ls' rest)) : W p l e R s m args below meth c H locs cells slots Q (F0 m pc ls (.long x :: rest)) := lv_lstore_n F.1 F.2.1 hdg hi h hn (lv' := lv'.map mt_p) (by rw [mt_f2, ← hl]; rfl) kk
theorem mt_lstore (F : CallFix p m c cc nF s args Ts own) (h : mt_L ls nL lv) {i : Nat} {x : Int64} (hn : i + 1 < nL) (hl : (i, .inr (.inl x)) :: mt_o2 i lv = lv') (hdg : decode cc pc = .ok (.lstore i, 2))
    (kk : ∀ ls' : Array Slot, mt_L ls' nL lv' → W p l e R s m args below meth c H locs cells slots Q (F0 m (pc + 2) ls' rest)) : W p l e R s m args below meth c H locs cells slots Q (F0 m pc ls (.long x :: rest)) := lv_lstore F.1 F.2.1 hdg h hn (lv' := lv'.map mt_p) (by rw [mt_f2, ← hl]; rfl) kk
theorem mt_astore_n (F : CallFix p m c cc nF s args Ts own) (h : mt_L ls nL lv) {k : Fin 4} {i : Nat} (hi : (k : Nat) = i) (hn : i < nL) (hl : (i, .inr (.inr r)) :: mt_o1 i lv = lv') (hdg : decode cc pc = .ok (.astore_n k, 1))
    (kk : ∀ ls' : Array Slot, mt_L ls' nL lv' → W p l e R s m args below meth c H locs cells slots Q (F0 m (pc + 1) ls' rest)) : W p l e R s m args below meth c H locs cells slots Q (F0 m pc ls (va_rf r :: rest)) := by
  have hh : (i, va_rf r) :: (lv.map mt_p).filter (fun q => !(q.1 == i) && !(q.1 + 1 == i && q.2.category == 2)) = lv'.map mt_p := by rw [mt_f1, ← hl]; rfl
  cases r with
  | none => exact lv_astore_nN F.1 F.2.1 hdg hi h hn hh kk
  | some y => exact lv_astore_n F.1 F.2.1 hdg hi h hn hh kk
theorem mt_astore (F : CallFix p m c cc nF s args Ts own) (h : mt_L ls nL lv) {i : Nat} (hn : i < nL) (hl : (i, .inr (.inr r)) :: mt_o1 i lv = lv') (hdg : decode cc pc = .ok (.astore i, 2))
    (kk : ∀ ls' : Array Slot, mt_L ls' nL lv' → W p l e R s m args below meth c H locs cells slots Q (F0 m (pc + 2) ls' rest)) : W p l e R s m args below meth c H locs cells slots Q (F0 m pc ls (va_rf r :: rest)) := by
  have hh : (i, va_rf r) :: (lv.map mt_p).filter (fun q => !(q.1 == i) && !(q.1 + 1 == i && q.2.category == 2)) = lv'.map mt_p := by rw [mt_f1, ← hl]; rfl
  cases r with
  | none => exact lv_astoreN F.1 F.2.1 hdg h hn hh kk
  | some y => exact lv_astore F.1 F.2.1 hdg h hn hh kk
theorem mt_iinc (F : CallFix p m c cc nF s args Ts own) (h : mt_L ls nL lv) (q : Nat) {i : Nat} {n : Int} {x v : Int32} (hk : lv[q]? = some (i, .inl x)) (hv : x + Int32.ofInt n = v) (hn : i < nL) (hl : (i, .inl v) :: mt_o1 i lv = lv') (hdg : decode cc pc = .ok (.iinc i n, 3))
    (kk : ∀ ls' : Array Slot, mt_L ls' nL lv' → W p l e R s m args below meth c H locs cells slots Q (F0 m (pc + 3) ls' rest)) : W p l e R s m args below meth c H locs cells slots Q (F0 m pc ls rest) := lv_iinc (k := q) F.1 F.2.1 hdg h (by rw [List.getElem?_map, hk]; rfl) hv hn (lv' := lv'.map mt_p) (by rw [mt_f1, ← hl]; rfl) kk
theorem mt_sub (h : mt_L ls nL lv) (ks : List Nat) (hl : ks.filterMap (fun k => lv[k]?) = lv') : mt_L ls nL lv' := by
  subst hl
  refine ⟨h.1, h.2.1, fun q hq => ?_⟩
  obtain ⟨z, hz, rfl⟩ := List.mem_map.mp hq
  obtain ⟨k, -, hk⟩ := List.mem_filterMap.mp hz
  exact h.2.2 _ (List.mem_map.mpr ⟨z, List.mem_of_getElem? hk, rfl⟩)
end MT
section MO
variable {l : Launch} {cc : ByteArray} {maxL mc ms : Nat} {D : va_G} {dA : Nat → ClassId} {cl : List vw_C} {A : Nat → Prop} {tys : List (ClassId × FieldType)} {Z : mw_Z} {S : mc_S} {y : MethodName} {ret : Option FieldType} {rm : Room} {Qc : Array Value → State → Outcome → State → Prop}
theorem mw_ofW {ws' : List Cond} {av : List Value} (ts : List mt_T) (hav : ts.map mt_V = av) {L : List (Nat × mt_T)} (hy : plainName y.cls = true) (hlen : mt_n ts ≤ maxL) (hL : mt_args 0 ts = L)
    (body : ∀ (p : Program) (e : Env) (s : State) (m : MethodId) (args : Array Value) (below : List Frame) (meth : Method) (c : Code), CallFix p m c cc maxL s args (Cond.code y cc maxL ret :: ws') y.cls → meth.sig.returnType = ret → meth.locks = false → meth.name = y.name → mw_K D cl tys Z s → ∀ ls : Array Slot, mt_L ls maxL L → mw_I D dA cl A S s.heap s.heap [] →
      W p l e rm s m args below meth c s.heap [] 0 0 (MQ below Qc args s mc ms A) (F0 m 0 ls [])) : Met l y (Cond.code y cc maxL ret :: ws') rm (va_Pc av (mw_B D dA cl tys Z A S)) Qc mc ms A := by
  subst hav
  refine Met.ofW (cc := cc) (maxL := maxL) (ret := ret) hy rfl ?_
  intro p e s m args below meth c s₁ B hml hv
  obtain ⟨rfl, hP, hz, hA, hN, hK⟩ := hv
  have hl := lv_entry (ts.map mt_V) (n := maxL) (by rw [mt_len]; exact hlen)
  rw [lg_entry_eq]
  generalize (lg_sl (ts.map mt_V) ++ List.replicate (maxL - (lg_sl (ts.map mt_V)).length) Slot.unset).toArray = ls at hl ⊢
  rw [mt_args_eq, hL] at hl
  exact body p e s m _ below meth c ⟨B.exec, B.bytes, hml, findClass_of_methodNamed B.named, atoms_spec (ws := Cond.code y cc maxL ret :: ws') B.pre⟩ B.returns B.notSynchronized (name_of_methodNamed B.named B.method).1 hK ls hl ⟨hP, hz, hA, fun q hq => hN q (by rw [← hz]; exact hq), va_S.rf⟩
end MO
theorem mw_narO (C : String) (r : Option Nat) : narrow (.object C) (va_rf r) = va_rf r := by cases r <;> rfl
theorem mw_narA (t : FieldType) (r : Option Nat) : narrow (.array t) (va_rf r) = va_rf r := by cases r <;> rfl
theorem mw_fitO (C : String) (r : Option Nat) : fits (.object C) (va_rf r) = true := by cases r <;> rfl
theorem mw_fitA (t : FieldType) (r : Option Nat) : fits (.array t) (va_rf r) = true := by cases r <;> rfl
section MS
variable {p : Program} {l : Launch} {e : Env} {R : Room} {s : State} {m : MethodId} {args : Array Value} {below : List Frame} {meth : Method} {c : Code} {H : Heap} {locs : List Loc} {cells slots : Nat} {Q : State → Prop}
variable {cc : ByteArray} {pc nF : Nat} {ls : Array Slot} {rest : List Value} {D : va_G} {dA : Nat → ClassId} {cl : List vw_C} {A : Nat → Prop} {H0 : Heap} {S : mc_S} {Ts : List Cond} {own : String}
theorem mw_sld (F : CallFix p m c cc nF s args Ts own) {bs L0 : Nat} {xs : Nat → Int32} (hX : va_X bs L0 xs s H0) (hbl : bs < H0.size) (hbA : ¬ A bs) (hI : mw_I D dA cl A S H0 H locs) {i v : Int32} (h : scI L0 xs i = some v) (hdg : decode cc pc = .ok (.iaload, 1))
    (kk : W p l e R s m args below meth c H locs cells slots Q (F0 m (pc + 1) ls (.int v :: rest))) : W p l e R s m args below meth c H locs cells slots Q (F0 m pc ls (.int i :: va_rf (some bs) :: rest)) := by
  obtain ⟨hin, rfl⟩ := scI_inv h
  exact va_sld F.1 F.2.1 hX hbl hbA hI.2.2.2.2 hin hdg kk
theorem mw_slen (F : CallFix p m c cc nF s args Ts own) {bs L0 : Nat} {xs : Nat → Int32} (hX : va_X bs L0 xs s H0) (hbl : bs < H0.size) (hbA : ¬ A bs) (hI : mw_I D dA cl A S H0 H locs) (hdg : decode cc pc = .ok (.arraylength, 1))
    (kk : W p l e R s m args below meth c H locs cells slots Q (F0 m (pc + 1) ls (.int (Int32.ofNat L0) :: rest))) : W p l e R s m args below meth c H locs cells slots Q (F0 m pc ls (va_rf (some bs) :: rest)) := va_slen F.1 F.2.1 hX hbl hbA hI.2.2.2.2 hdg kk
end MS
end
section
def y_R_init : MethodName := ⟨"KeepHeap$Reach", "<init>", "()V"⟩
abbrev b_R_init : ByteArray := prog_2_method_1_code
abbrev cd_R_init : Cond := .code y_R_init b_R_init 1 none
def y_S_init : MethodName := ⟨"KeepHeap$Slots", "<init>", "(II)V"⟩
abbrev b_S_init : ByteArray := prog_3_method_1_code
abbrev cd_S_init : Cond := .code y_S_init b_S_init 3 none
def y_T_init : MethodName := ⟨"KeepHeap$State", "<init>", "(LKeepHeap$Slots;)V"⟩
abbrev b_T_init : ByteArray := prog_4_method_1_code
abbrev cd_T_init : Cond := .code y_T_init b_T_init 2 none
def y_K_init : MethodName := ⟨"KeepHeap", "<init>", "()V"⟩
abbrev b_K_init : ByteArray := prog_1_method_1_code
abbrev cd_K_init : Cond := .code y_K_init b_K_init 3 none
def y_N_init : MethodName := ⟨"KeepHeapModel$State", "<init>", "()V"⟩
abbrev b_N_init : ByteArray := prog_7_method_1_code
abbrev cd_N_init : Cond := .code y_N_init b_N_init 1 none
def y_M_init : MethodName := ⟨"KeepHeapModel", "<init>", "()V"⟩
abbrev b_M_init : ByteArray := prog_6_method_2_code
abbrev cd_M_init : Cond := .code y_M_init b_M_init 2 none
def y_K_make : MethodName := ⟨"KeepHeap", "make", "(Z)I"⟩
abbrev b_K_make : ByteArray := prog_1_method_2_code
abbrev cd_K_make : Cond := .code y_K_make b_K_make 3 (some .int)
def y_M_make : MethodName := ⟨"KeepHeapModel", "make", "(Z)I"⟩
abbrev b_M_make : ByteArray := prog_6_method_7_code
abbrev cd_M_make : Cond := .code y_M_make b_M_make 3 (some .int)
def y_T_has : MethodName := ⟨"KeepHeap$State", "has", "(I)Z"⟩
abbrev b_T_has : ByteArray := prog_4_method_3_code
abbrev cd_T_has : Cond := .code y_T_has b_T_has 2 (some .boolean)
def y_K_valueOf : MethodName := ⟨"KeepHeap", "valueOf", "(II)J"⟩
abbrev b_K_valueOf : ByteArray := prog_1_method_19_code
abbrev cd_K_valueOf : Cond := .code y_K_valueOf b_K_valueOf 3 (some .long)
def y_T_find : MethodName := ⟨"KeepHeap$State", "find", "(II)LKeepHeap$Slots;"⟩
abbrev b_T_find : ByteArray := prog_4_method_4_code
abbrev cd_T_find : Cond := .code y_T_find b_T_find 3 (some (.object "KeepHeap$Slots"))
def y_K_ringIndex : MethodName := ⟨"KeepHeap", "ringIndex", "(I)I"⟩
abbrev b_K_ringIndex : ByteArray := prog_1_method_20_code
abbrev cd_K_ringIndex : Cond := .code y_K_ringIndex b_K_ringIndex 2 (some .int)
def y_K_kept : MethodName := ⟨"KeepHeap", "kept", "()LKeepHeap$State;"⟩
abbrev b_K_kept : ByteArray := prog_1_method_21_code
abbrev cd_K_kept : Cond := .code y_K_kept b_K_kept 1 (some (.object "KeepHeap$State"))
def y_S_twin : MethodName := ⟨"KeepHeap$Slots", "twin", "()LKeepHeap$Slots;"⟩
abbrev b_S_twin : ByteArray := prog_3_method_2_code
abbrev cd_S_twin : Cond := .code y_S_twin b_S_twin 2 (some (.object "KeepHeap$Slots"))
def y_K_own : MethodName := ⟨"KeepHeap", "own", "(II)LKeepHeap$Slots;"⟩
abbrev b_K_own : ByteArray := prog_1_method_22_code
abbrev cd_K_own : Cond := .code y_K_own b_K_own 4 (some (.object "KeepHeap$Slots"))
def y_S_placeOf : MethodName := ⟨"KeepHeap$Slots", "placeOf", "(I)I"⟩
abbrev b_S_placeOf : ByteArray := prog_3_method_4_code
abbrev cd_S_placeOf : Cond := .code y_S_placeOf b_S_placeOf 3 (some .int)
def y_S_holds : MethodName := ⟨"KeepHeap$Slots", "holds", "(I)Z"⟩
abbrev b_S_holds : ByteArray := prog_3_method_3_code
abbrev cd_S_holds : Cond := .code y_S_holds b_S_holds 2 (some .boolean)
def y_S_removeAt : MethodName := ⟨"KeepHeap$Slots", "removeAt", "(I)V"⟩
abbrev b_S_removeAt : ByteArray := prog_3_method_8_code
abbrev cd_S_removeAt : Cond := .code y_S_removeAt b_S_removeAt 3 none
def y_S_append : MethodName := ⟨"KeepHeap$Slots", "append", "(IJ)I"⟩
abbrev b_S_append : ByteArray := prog_3_method_7_code
abbrev cd_S_append : Cond := .code y_S_append b_S_append 4 (some .int)
def y_S_assign : MethodName := ⟨"KeepHeap$Slots", "assign", "(IJ)I"⟩
abbrev b_S_assign : ByteArray := prog_3_method_6_code
abbrev cd_S_assign : Cond := .code y_S_assign b_S_assign 5 (some .int)
def y_K_set : MethodName := ⟨"KeepHeap", "set", "(IIII)I"⟩
abbrev b_K_set : ByteArray := prog_1_method_3_code
abbrev cd_K_set : Cond := .code y_K_set b_K_set 8 (some .int)
def y_M_in : MethodName := ⟨"KeepHeapModel", "in", "(JJJ)Z"⟩
abbrev b_M_in : ByteArray := prog_6_method_1_code
abbrev cd_M_in : Cond := .code y_M_in b_M_in 6 (some .boolean)
def y_M_is : MethodName := ⟨"KeepHeapModel", "is", "(II)Z"⟩
abbrev b_M_is : ByteArray := prog_6_method_3_code
abbrev cd_M_is : Cond := .code y_M_is b_M_is 3 (some .boolean)
def y_M_isThere : MethodName := ⟨"KeepHeapModel", "isThere", "(I)Z"⟩
abbrev b_M_isThere : ByteArray := prog_6_method_4_code
abbrev cd_M_isThere : Cond := .code y_M_isThere b_M_isThere 2 (some .boolean)
def y_M_isValue : MethodName := ⟨"KeepHeapModel", "isValue", "(II)Z"⟩
abbrev b_M_isValue : ByteArray := prog_6_method_5_code
abbrev cd_M_isValue : Cond := .code y_M_isValue b_M_isValue 3 (some .boolean)
def y_N_findField : MethodName := ⟨"KeepHeapModel$State", "findField", "(II)I"⟩
abbrev b_N_findField : ByteArray := prog_7_method_4_code
abbrev cd_N_findField : Cond := .code y_N_findField b_N_findField 4 (some .int)
def y_M_value : MethodName := ⟨"KeepHeapModel", "value", "(II)J"⟩
abbrev b_M_value : ByteArray := prog_6_method_6_code
abbrev cd_M_value : Cond := .code y_M_value b_M_value 2 (some .long)
def y_M_set : MethodName := ⟨"KeepHeapModel", "set", "(IIII)I"⟩
abbrev b_M_set : ByteArray := prog_6_method_8_code
abbrev cd_M_set : Cond := .code y_M_set b_M_set 9 (some .int)
def y_S_named : MethodName := ⟨"KeepHeap$Slots", "named", "(I)J"⟩
abbrev b_S_named : ByteArray := prog_3_method_5_code
abbrev cd_S_named : Cond := .code y_S_named b_S_named 3 (some .long)
def y_K_get : MethodName := ⟨"KeepHeap", "get", "(II)J"⟩
abbrev b_K_get : ByteArray := prog_1_method_4_code
abbrev cd_K_get : Cond := .code y_K_get b_K_get 4 (some .long)
def y_M_get : MethodName := ⟨"KeepHeapModel", "get", "(II)J"⟩
abbrev b_M_get : ByteArray := prog_6_method_9_code
abbrev cd_M_get : Cond := .code y_M_get b_M_get 4 (some .long)
def y_K_push : MethodName := ⟨"KeepHeap", "push", "(III)I"⟩
abbrev b_K_push : ByteArray := prog_1_method_5_code
abbrev cd_K_push : Cond := .code y_K_push b_K_push 7 (some .int)
def y_M_push : MethodName := ⟨"KeepHeapModel", "push", "(III)I"⟩
abbrev b_M_push : ByteArray := prog_6_method_10_code
abbrev cd_M_push : Cond := .code y_M_push b_M_push 4 (some .int)
def y_S_takeLast : MethodName := ⟨"KeepHeap$Slots", "takeLast", "()J"⟩
abbrev b_S_takeLast : ByteArray := prog_3_method_9_code
abbrev cd_S_takeLast : Cond := .code y_S_takeLast b_S_takeLast 1 (some .long)
def y_K_pop : MethodName := ⟨"KeepHeap", "pop", "(I)J"⟩
abbrev b_K_pop : ByteArray := prog_1_method_6_code
abbrev cd_K_pop : Cond := .code y_K_pop b_K_pop 3 (some .long)
def y_M_pop : MethodName := ⟨"KeepHeapModel", "pop", "(I)J"⟩
abbrev b_M_pop : ByteArray := prog_6_method_11_code
abbrev cd_M_pop : Cond := .code y_M_pop b_M_pop 2 (some .long)
def y_K_put : MethodName := ⟨"KeepHeap", "put", "(IIII)I"⟩
abbrev b_K_put : ByteArray := prog_1_method_7_code
abbrev cd_K_put : Cond := .code y_K_put b_K_put 8 (some .int)
def y_M_put : MethodName := ⟨"KeepHeapModel", "put", "(IIII)I"⟩
abbrev b_M_put : ByteArray := prog_6_method_12_code
abbrev cd_M_put : Cond := .code y_M_put b_M_put 5 (some .int)
def y_K_item : MethodName := ⟨"KeepHeap", "item", "(II)J"⟩
abbrev b_K_item : ByteArray := prog_1_method_8_code
abbrev cd_K_item : Cond := .code y_K_item b_K_item 4 (some .long)
def y_M_item : MethodName := ⟨"KeepHeapModel", "item", "(II)J"⟩
abbrev b_M_item : ByteArray := prog_6_method_13_code
abbrev cd_M_item : Cond := .code y_M_item b_M_item 3 (some .long)
def y_K_ownRoots : MethodName := ⟨"KeepHeap", "ownRoots", "()LKeepHeap$Slots;"⟩
abbrev b_K_ownRoots : ByteArray := prog_1_method_23_code
abbrev cd_K_ownRoots : Cond := .code y_K_ownRoots b_K_ownRoots 1 (some (.object "KeepHeap$Slots"))
def y_K_root : MethodName := ⟨"KeepHeap", "root", "(III)I"⟩
abbrev b_K_root : ByteArray := prog_1_method_9_code
abbrev cd_K_root : Cond := .code y_K_root b_K_root 6 (some .int)
def y_N_findRoot : MethodName := ⟨"KeepHeapModel$State", "findRoot", "(I)I"⟩
abbrev b_N_findRoot : ByteArray := prog_7_method_3_code
abbrev cd_N_findRoot : Cond := .code y_N_findRoot b_N_findRoot 3 (some .int)
def y_M_root : MethodName := ⟨"KeepHeapModel", "root", "(III)I"⟩
abbrev b_M_root : ByteArray := prog_6_method_14_code
abbrev cd_M_root : Cond := .code y_M_root b_M_root 5 (some .int)
def y_K_rooted : MethodName := ⟨"KeepHeap", "rooted", "(I)J"⟩
abbrev b_K_rooted : ByteArray := prog_1_method_10_code
abbrev cd_K_rooted : Cond := .code y_K_rooted b_K_rooted 2 (some .long)
def y_M_rooted : MethodName := ⟨"KeepHeapModel", "rooted", "(I)J"⟩
abbrev b_M_rooted : ByteArray := prog_6_method_15_code
abbrev cd_M_rooted : Cond := .code y_M_rooted b_M_rooted 3 (some .long)
def y_S_sameAs : MethodName := ⟨"KeepHeap$Slots", "sameAs", "(LKeepHeap$Slots;)Z"⟩
abbrev b_S_sameAs : ByteArray := prog_3_method_10_code
abbrev cd_S_sameAs : Cond := .code y_S_sameAs b_S_sameAs 3 (some .boolean)
def y_S_namesChangedFrom : MethodName := ⟨"KeepHeap$Slots", "namesChangedFrom", "(LKeepHeap$Slots;)I"⟩
abbrev b_S_namesChangedFrom : ByteArray := prog_3_method_11_code
abbrev cd_S_namesChangedFrom : Cond := .code y_S_namesChangedFrom b_S_namesChangedFrom 4 (some .int)
def y_K_changedBytes : MethodName := ⟨"KeepHeap", "changedBytes", "()I"⟩
abbrev b_K_changedBytes : ByteArray := prog_1_method_24_code
abbrev cd_K_changedBytes : Cond := .code y_K_changedBytes b_K_changedBytes 5 (some .int)
def y_T_become : MethodName := ⟨"KeepHeap$State", "become", "(LKeepHeap$State;)V"⟩
abbrev b_T_become : ByteArray := prog_4_method_2_code
abbrev cd_T_become : Cond := .code y_T_become b_T_become 3 none
def y_K_keepNow : MethodName := ⟨"KeepHeap", "keepNow", "(I)V"⟩
abbrev b_K_keepNow : ByteArray := prog_1_method_25_code
abbrev cd_K_keepNow : Cond := .code y_K_keepNow b_K_keepNow 3 none
def y_K_commit : MethodName := ⟨"KeepHeap", "commit", "()I"⟩
abbrev b_K_commit : ByteArray := prog_1_method_11_code
abbrev cd_K_commit : Cond := .code y_K_commit b_K_commit 2 (some .int)
def y_N_isSame : MethodName := ⟨"KeepHeapModel$State", "isSame", "(ILKeepHeapModel$State;)Z"⟩
abbrev b_N_isSame : ByteArray := prog_7_method_5_code
abbrev cd_N_isSame : Cond := .code y_N_isSame b_N_isSame 4 (some .boolean)
def y_N_bytesBehind : MethodName := ⟨"KeepHeapModel$State", "bytesBehind", "(LKeepHeapModel$State;)I"⟩
abbrev b_N_bytesBehind : ByteArray := prog_7_method_6_code
abbrev cd_N_bytesBehind : Cond := .code y_N_bytesBehind b_N_bytesBehind 5 (some .int)
def y_N_copy : MethodName := ⟨"KeepHeapModel$State", "copy", "(LKeepHeapModel$State;)V"⟩
abbrev b_N_copy : ByteArray := prog_7_method_2_code
abbrev cd_N_copy : Cond := .code y_N_copy b_N_copy 2 none
def y_M_keep : MethodName := ⟨"KeepHeapModel", "keep", "(I)V"⟩
abbrev b_M_keep : ByteArray := prog_6_method_16_code
abbrev cd_M_keep : Cond := .code y_M_keep b_M_keep 4 none
def y_M_commit : MethodName := ⟨"KeepHeapModel", "commit", "()I"⟩
abbrev b_M_commit : ByteArray := prog_6_method_17_code
abbrev cd_M_commit : Cond := .code y_M_commit b_M_commit 2 (some .int)
def y_K_undo : MethodName := ⟨"KeepHeap", "undo", "()I"⟩
abbrev b_K_undo : ByteArray := prog_1_method_12_code
abbrev cd_K_undo : Cond := .code y_K_undo b_K_undo 2 (some .int)
def y_M_undo : MethodName := ⟨"KeepHeapModel", "undo", "()I"⟩
abbrev b_M_undo : ByteArray := prog_6_method_18_code
abbrev cd_M_undo : Cond := .code y_M_undo b_M_undo 2 (some .int)
def y_R_enqueue : MethodName := ⟨"KeepHeap$Reach", "enqueue", "(I)V"⟩
abbrev b_R_enqueue : ByteArray := prog_2_method_5_code
abbrev cd_R_enqueue : Cond := .code y_R_enqueue b_R_enqueue 2 none
def y_R_enqueueAll : MethodName := ⟨"KeepHeap$Reach", "enqueueAll", "(LKeepHeap$Slots;)V"⟩
abbrev b_R_enqueueAll : ByteArray := prog_2_method_4_code
abbrev cd_R_enqueueAll : Cond := .code y_R_enqueueAll b_R_enqueueAll 5 none
def y_R_walk : MethodName := ⟨"KeepHeap$Reach", "walk", "(LKeepHeap$State;)V"⟩
abbrev b_R_walk : ByteArray := prog_2_method_3_code
abbrev cd_R_walk : Cond := .code y_R_walk b_R_walk 3 none
def y_R_dropUnreached : MethodName := ⟨"KeepHeap$Reach", "dropUnreached", "(LKeepHeap$State;)I"⟩
abbrev b_R_dropUnreached : ByteArray := prog_2_method_2_code
abbrev cd_R_dropUnreached : Cond := .code y_R_dropUnreached b_R_dropUnreached 4 (some .int)
def y_K_sweep : MethodName := ⟨"KeepHeap", "sweep", "()I"⟩
abbrev b_K_sweep : ByteArray := prog_1_method_13_code
abbrev cd_K_sweep : Cond := .code y_K_sweep b_K_sweep 2 (some .int)
def y_M_reach : MethodName := ⟨"KeepHeapModel", "reach", "(JI)I"⟩
abbrev b_M_reach : ByteArray := prog_6_method_20_code
abbrev cd_M_reach : Cond := .code y_M_reach b_M_reach 4 (some .int)
def y_M_sweep : MethodName := ⟨"KeepHeapModel", "sweep", "()I"⟩
abbrev b_M_sweep : ByteArray := prog_6_method_19_code
abbrev cd_M_sweep : Cond := .code y_M_sweep b_M_sweep 7 (some .int)
def y_K_sync : MethodName := ⟨"KeepHeap", "sync", "()I"⟩
abbrev b_K_sync : ByteArray := prog_1_method_14_code
abbrev cd_K_sync : Cond := .code y_K_sync b_K_sync 2 (some .int)
def y_M_sync : MethodName := ⟨"KeepHeapModel", "sync", "()I"⟩
abbrev b_M_sync : ByteArray := prog_6_method_21_code
abbrev cd_M_sync : Cond := .code y_M_sync b_M_sync 2 (some .int)
def y_K_entriesWithin : MethodName := ⟨"KeepHeap", "entriesWithin", "(I)I"⟩
abbrev b_K_entriesWithin : ByteArray := prog_1_method_26_code
abbrev cd_K_entriesWithin : Cond := .code y_K_entriesWithin b_K_entriesWithin 5 (some .int)
def y_K_crash : MethodName := ⟨"KeepHeap", "crash", "(I)I"⟩
abbrev b_K_crash : ByteArray := prog_1_method_15_code
abbrev cd_K_crash : Cond := .code y_K_crash b_K_crash 4 (some .int)
def y_M_crash : MethodName := ⟨"KeepHeapModel", "crash", "(I)I"⟩
abbrev b_M_crash : ByteArray := prog_6_method_22_code
abbrev cd_M_crash : Cond := .code y_M_crash b_M_crash 6 (some .int)
def y_K_kind : MethodName := ⟨"KeepHeap", "kind", "(I)I"⟩
abbrev b_K_kind : ByteArray := prog_1_method_16_code
abbrev cd_K_kind : Cond := .code y_K_kind b_K_kind 3 (some .int)
def y_M_kind : MethodName := ⟨"KeepHeapModel", "kind", "(I)I"⟩
abbrev b_M_kind : ByteArray := prog_6_method_23_code
abbrev cd_M_kind : Cond := .code y_M_kind b_M_kind 2 (some .int)
def y_K_size : MethodName := ⟨"KeepHeap", "size", "(I)I"⟩
abbrev b_K_size : ByteArray := prog_1_method_17_code
abbrev cd_K_size : Cond := .code y_K_size b_K_size 3 (some .int)
def y_M_size : MethodName := ⟨"KeepHeapModel", "size", "(I)I"⟩
abbrev b_M_size : ByteArray := prog_6_method_24_code
abbrev cd_M_size : Cond := .code y_M_size b_M_size 2 (some .int)
def y_T_objectsThere : MethodName := ⟨"KeepHeap$State", "objectsThere", "()I"⟩
abbrev b_T_objectsThere : ByteArray := prog_4_method_5_code
abbrev cd_T_objectsThere : Cond := .code y_T_objectsThere b_T_objectsThere 3 (some .int)
def y_K_count : MethodName := ⟨"KeepHeap", "count", "(I)I"⟩
abbrev b_K_count : ByteArray := prog_1_method_18_code
abbrev cd_K_count : Cond := .code y_K_count b_K_count 2 (some .int)
def y_M_count : MethodName := ⟨"KeepHeapModel", "count", "(I)I"⟩
abbrev b_M_count : ByteArray := prog_6_method_25_code
abbrev cd_M_count : Cond := .code y_M_count b_M_count 7 (some .int)
abbrev b_L_law : ByteArray := code
def F_0 : u_T := fun k => match k with
  | 0 => ("KeepHeap", "now", "LKeepHeap$State;", true)
  | 1 => ("KeepHeap", "ring", "[LKeepHeap$State;", true)
  | 2 => ("KeepHeap", "ringBytes", "[I", true)
  | 3 => ("KeepHeap", "reach", "LKeepHeap$Reach;", true)
  | 4 => ("KeepHeap", "safeAt", "I", false)
  | 5 => ("KeepHeap", "waiting", "I", false)
  | _ => ("KeepHeap", "logBytes", "I", false)
def ty_0 : Nat → FieldType := fun k => match k with
  | 0 => (.object "KeepHeap$State")
  | 1 => (.array (.object "KeepHeap$State"))
  | 2 => (.array .int)
  | 3 => (.object "KeepHeap$Reach")
  | 4 => .int
  | 5 => .int
  | _ => .int
abbrev cq_0 : vw_C := ("KeepHeap", F_0, 7)
theorem nm_0 : ∀ a, a < 7 → ∀ b, b < 7 → a ≠ b → (F_0 a).2.1 ≠ (F_0 b).2.1 := by decide +kernel
theorem ok_0 : ∀ k, k < 7 → parseFieldDescriptor (F_0 k).2.2.1 = some (ty_0 k) := by decide +kernel
theorem df_0 : ∀ j, j < 7 → defaultValue (ty_0 j) = vp_V [.null, .null, .null, .null, .int 0, .int 0, .int 0] j := by
  intro j hj
  rcases (show j = 0 ∨ j = 1 ∨ j = 2 ∨ j = 3 ∨ j = 4 ∨ j = 5 ∨ j = 6 by omega) with rfl | rfl | rfl | rfl | rfl | rfl | rfl <;> rfl
def F_1 : u_T := fun k => match k with
  | 0 => ("KeepHeap$Slots", "form", "I", true)
  | 1 => ("KeepHeap$Slots", "names", "[I", true)
  | 2 => ("KeepHeap$Slots", "values", "[J", true)
  | _ => ("KeepHeap$Slots", "used", "I", false)
def ty_1 : Nat → FieldType := fun k => match k with
  | 0 => .int
  | 1 => (.array .int)
  | 2 => (.array .long)
  | _ => .int
abbrev cq_1 : vw_C := ("KeepHeap$Slots", F_1, 4)
theorem nm_1 : ∀ a, a < 4 → ∀ b, b < 4 → a ≠ b → (F_1 a).2.1 ≠ (F_1 b).2.1 := by decide +kernel
theorem ok_1 : ∀ k, k < 4 → parseFieldDescriptor (F_1 k).2.2.1 = some (ty_1 k) := by decide +kernel
theorem df_1 : ∀ j, j < 4 → defaultValue (ty_1 j) = vp_V [.int 0, .null, .null, .int 0] j := by
  intro j hj
  rcases (show j = 0 ∨ j = 1 ∨ j = 2 ∨ j = 3 by omega) with rfl | rfl | rfl | rfl <;> rfl
def F_2 : u_T := fun k => match k with
  | 0 => ("KeepHeap$State", "objects", "[LKeepHeap$Slots;", true)
  | _ => ("KeepHeap$State", "roots", "LKeepHeap$Slots;", false)
def ty_2 : Nat → FieldType := fun k => match k with
  | 0 => (.array (.object "KeepHeap$Slots"))
  | _ => (.object "KeepHeap$Slots")
abbrev cq_2 : vw_C := ("KeepHeap$State", F_2, 2)
theorem nm_2 : ∀ a, a < 2 → ∀ b, b < 2 → a ≠ b → (F_2 a).2.1 ≠ (F_2 b).2.1 := by decide +kernel
theorem ok_2 : ∀ k, k < 2 → parseFieldDescriptor (F_2 k).2.2.1 = some (ty_2 k) := by decide +kernel
theorem df_2 : ∀ j, j < 2 → defaultValue (ty_2 j) = vp_V [.null, .null] j := by
  intro j hj
  rcases (show j = 0 ∨ j = 1 by omega) with rfl | rfl <;> rfl
def F_3 : u_T := fun k => match k with
  | 0 => ("KeepHeap$Reach", "reached", "[Z", true)
  | 1 => ("KeepHeap$Reach", "queue", "[I", true)
  | _ => ("KeepHeap$Reach", "found", "I", false)
def ty_3 : Nat → FieldType := fun k => match k with
  | 0 => (.array .boolean)
  | 1 => (.array .int)
  | _ => .int
abbrev cq_3 : vw_C := ("KeepHeap$Reach", F_3, 3)
theorem nm_3 : ∀ a, a < 3 → ∀ b, b < 3 → a ≠ b → (F_3 a).2.1 ≠ (F_3 b).2.1 := by decide +kernel
theorem ok_3 : ∀ k, k < 3 → parseFieldDescriptor (F_3 k).2.2.1 = some (ty_3 k) := by decide +kernel
theorem df_3 : ∀ j, j < 3 → defaultValue (ty_3 j) = vp_V [.null, .null, .int 0] j := by
  intro j hj
  rcases (show j = 0 ∨ j = 1 ∨ j = 2 by omega) with rfl | rfl | rfl <;> rfl
def F_4 : u_T := fun k => match k with
  | 0 => ("KeepHeapModel", "now", "LKeepHeapModel$State;", true)
  | 1 => ("KeepHeapModel", "kept", "LKeepHeapModel$State;", true)
  | 2 => ("KeepHeapModel", "safe", "LKeepHeapModel$State;", true)
  | 3 => ("KeepHeapModel", "waiting", "[LKeepHeapModel$State;", true)
  | 4 => ("KeepHeapModel", "waits", "I", false)
  | 5 => ("KeepHeapModel", "logged", "I", false)
  | 6 => ("KeepHeapModel", "reached", "[Z", true)
  | _ => ("KeepHeapModel", "path", "[I", true)
def ty_4 : Nat → FieldType := fun k => match k with
  | 0 => (.object "KeepHeapModel$State")
  | 1 => (.object "KeepHeapModel$State")
  | 2 => (.object "KeepHeapModel$State")
  | 3 => (.array (.object "KeepHeapModel$State"))
  | 4 => .int
  | 5 => .int
  | 6 => (.array .boolean)
  | _ => (.array .int)
abbrev cq_4 : vw_C := ("KeepHeapModel", F_4, 8)
theorem nm_4 : ∀ a, a < 8 → ∀ b, b < 8 → a ≠ b → (F_4 a).2.1 ≠ (F_4 b).2.1 := by decide +kernel
theorem ok_4 : ∀ k, k < 8 → parseFieldDescriptor (F_4 k).2.2.1 = some (ty_4 k) := by decide +kernel
theorem df_4 : ∀ j, j < 8 → defaultValue (ty_4 j) = vp_V [.null, .null, .null, .null, .int 0, .int 0, .null, .null] j := by
  intro j hj
  rcases (show j = 0 ∨ j = 1 ∨ j = 2 ∨ j = 3 ∨ j = 4 ∨ j = 5 ∨ j = 6 ∨ j = 7 by omega) with rfl | rfl | rfl | rfl | rfl | rfl | rfl | rfl <;> rfl
def F_5 : u_T := fun k => match k with
  | 0 => ("KeepHeapModel$State", "kind", "[I", true)
  | 1 => ("KeepHeapModel$State", "size", "[I", true)
  | 2 => ("KeepHeapModel$State", "name", "[I", true)
  | 3 => ("KeepHeapModel$State", "root", "[I", true)
  | 4 => ("KeepHeapModel$State", "slot", "[J", true)
  | 5 => ("KeepHeapModel$State", "value", "[J", true)
  | 6 => ("KeepHeapModel$State", "roots", "I", false)
  | _ => ("KeepHeapModel$State", "bytes", "I", false)
def ty_5 : Nat → FieldType := fun k => match k with
  | 0 => (.array .int)
  | 1 => (.array .int)
  | 2 => (.array .int)
  | 3 => (.array .int)
  | 4 => (.array .long)
  | 5 => (.array .long)
  | 6 => .int
  | _ => .int
abbrev cq_5 : vw_C := ("KeepHeapModel$State", F_5, 8)
theorem nm_5 : ∀ a, a < 8 → ∀ b, b < 8 → a ≠ b → (F_5 a).2.1 ≠ (F_5 b).2.1 := by decide +kernel
theorem ok_5 : ∀ k, k < 8 → parseFieldDescriptor (F_5 k).2.2.1 = some (ty_5 k) := by decide +kernel
theorem df_5 : ∀ j, j < 8 → defaultValue (ty_5 j) = vp_V [.null, .null, .null, .null, .null, .null, .int 0, .int 0] j := by
  intro j hj
  rcases (show j = 0 ∨ j = 1 ∨ j = 2 ∨ j = 3 ∨ j = 4 ∨ j = 5 ∨ j = 6 ∨ j = 7 by omega) with rfl | rfl | rfl | rfl | rfl | rfl | rfl | rfl <;> rfl
abbrev CL : List vw_C := [cq_0, cq_1, cq_2, cq_3, cq_4, cq_5]
theorem hc_0 : CL[0]? = some ("KeepHeap", F_0, 7) := rfl
theorem hc_1 : CL[1]? = some ("KeepHeap$Slots", F_1, 4) := rfl
theorem hc_2 : CL[2]? = some ("KeepHeap$State", F_2, 2) := rfl
theorem hc_3 : CL[3]? = some ("KeepHeap$Reach", F_3, 3) := rfl
theorem hc_4 : CL[4]? = some ("KeepHeapModel", F_4, 8) := rfl
theorem hc_5 : CL[5]? = some ("KeepHeapModel$State", F_5, 8) := rfl
abbrev TY (dA : Nat → ClassId) : List (ClassId × FieldType) := [(dA 0, .int), (dA 1, .long), (dA 2, .boolean), (dA 3, .object "KeepHeap$Slots"), (dA 4, .object "KeepHeap$State"), (dA 5, .object "KeepHeapModel$State")]
abbrev ZZ : mw_Z := ([("KeepHeap", 21, y_R_init, "KeepHeap"), ("KeepHeapModel", 9, y_N_init, "KeepHeapModel")], ["KeepHeap$Slots", "KeepHeap$State", "KeepHeapModel$State"])
def AL0 : List Cond := [.methodLink "KeepHeap$Reach" 3 Lib.objectInit, .instanceMethod Lib.objectInit, .code Lib.objectInit ⟨#[0xb1]⟩ 1 none, .arrayClass (newarray.typeOf .boolean), .fieldLink "KeepHeap$Reach" 9 "KeepHeap$Reach" "reached" "[Z", .arrayClass (newarray.typeOf .int), .fieldLink "KeepHeap$Reach" 15 "KeepHeap$Reach" "queue" "[I", .fieldLink "KeepHeap$Reach" 19 "KeepHeap$Reach" "found" "I", .methodLink "KeepHeap$Slots" 3 Lib.objectInit, .fieldLink "KeepHeap$Slots" 9 "KeepHeap$Slots" "used" "I", .fieldLink "KeepHeap$Slots" 15 "KeepHeap$Slots" "form" "I", .fieldLink "KeepHeap$Slots" 18 "KeepHeap$Slots" "names" "[I", .arrayClass (newarray.typeOf .long), .fieldLink "KeepHeap$Slots" 22 "KeepHeap$Slots" "values" "[J", .methodLink "KeepHeap$State" 3 Lib.objectInit, .classLink "KeepHeap$State" 9 "KeepHeap$Slots", .fieldLink "KeepHeap$State" 11 "KeepHeap$State" "objects" "[LKeepHeap$Slots;", .fieldLink "KeepHeap$State" 17 "KeepHeap$State" "roots" "LKeepHeap$Slots;", .methodLink "KeepHeap" 3 Lib.objectInit, .classLink "KeepHeap" 9 "KeepHeap$State", .fieldLink "KeepHeap" 11 "KeepHeap" "ring" "[LKeepHeap$State;", .fieldLink "KeepHeap" 15 "KeepHeap" "ringBytes" "[I", .classLink "KeepHeap" 19 "KeepHeap$Reach", .instantiable "KeepHeap$Reach" 3, .initialized "KeepHeap$Reach", cd_R_init, .instanceMethod y_R_init, .fieldLink "KeepHeap" 22 "KeepHeap" "reach" "LKeepHeap$Reach;", .fieldLink "KeepHeap" 26 "KeepHeap" "safeAt" "I", .fieldLink "KeepHeap" 30 "KeepHeap" "waiting" "I", .fieldLink "KeepHeap" 33 "KeepHeap" "logBytes" "I", .classLink "KeepHeap" 36 "KeepHeap$Slots", .instantiable "KeepHeap$Slots" 4, .initialized "KeepHeap$Slots", cd_S_init, .methodLink "KeepHeap" 38 y_S_init, .instanceMethod y_S_init, .instantiable "KeepHeap$State" 2, .initialized "KeepHeap$State", cd_T_init, .methodLink "KeepHeap" 41 y_T_init, .instanceMethod y_T_init, .fieldLink "KeepHeap" 44 "KeepHeap" "now" "LKeepHeap$State;", .methodLink "KeepHeapModel$State" 3 Lib.objectInit, .fieldLink "KeepHeapModel$State" 9 "KeepHeapModel$State" "kind" "[I", .fieldLink "KeepHeapModel$State" 15 "KeepHeapModel$State" "size" "[I", .fieldLink "KeepHeapModel$State" 18 "KeepHeapModel$State" "name" "[I", .fieldLink "KeepHeapModel$State" 21 "KeepHeapModel$State" "root" "[I", .fieldLink "KeepHeapModel$State" 24 "KeepHeapModel$State" "slot" "[J", .fieldLink "KeepHeapModel$State" 28 "KeepHeapModel$State" "value" "[J", .methodLink "KeepHeapModel" 1 Lib.objectInit, .classLink "KeepHeapModel" 7 "KeepHeapModel$State", .instantiable "KeepHeapModel$State" 8, .initialized "KeepHeapModel$State", cd_N_init, .instanceMethod y_N_init, .fieldLink "KeepHeapModel" 10 "KeepHeapModel" "now" "LKeepHeapModel$State;", .fieldLink "KeepHeapModel" 16 "KeepHeapModel" "kept" "LKeepHeapModel$State;", .fieldLink "KeepHeapModel" 19 "KeepHeapModel" "safe" "LKeepHeapModel$State;", .fieldLink "KeepHeapModel" 22 "KeepHeapModel" "waiting" "[LKeepHeapModel$State;", .fieldLink "KeepHeapModel" 26 "KeepHeapModel" "reached" "[Z", .fieldLink "KeepHeapModel" 30 "KeepHeapModel" "path" "[I", .fieldLink "KeepHeap" 48 "KeepHeap$State" "objects" "[LKeepHeap$Slots;", .fieldLink "KeepHeapModel" 40 "KeepHeapModel$State" "kind" "[I", .fieldLink "KeepHeapModel" 51 "KeepHeapModel$State" "size" "[I", .constantLong "KeepHeap" 132 1099511627776, cd_T_has, .methodLink "KeepHeap" 134 y_T_has, .instanceMethod y_T_has, .selects "KeepHeap$State" y_T_has y_T_has, .constantLong "KeepHeap" 60 (-1099511627776), .constantLong "KeepHeap" 137 1099511627777, .methodLink "KeepHeap$State" 21 y_T_has, .fieldLink "KeepHeap$State" 25 "KeepHeap$Slots" "form" "I", cd_K_ringIndex, .methodLink "KeepHeap" 116 y_K_ringIndex, .instanceMethod y_K_ringIndex, .selects "KeepHeap" y_K_ringIndex y_K_ringIndex, .initialized "KeepHeap", .classLink "KeepHeap$Slots" 10 "KeepHeap$Slots", .methodLink "KeepHeap$Slots" 26 y_S_init, .methodLink "KeepHeap$Slots" 29 arraycopyName, .native arraycopyName, .static arraycopyName, .initialized "java/lang/System", cd_T_find, .methodLink "KeepHeap" 66 y_T_find, .instanceMethod y_T_find, .selects "KeepHeap$State" y_T_find y_T_find, cd_K_kept, .methodLink "KeepHeap" 104 y_K_kept, .instanceMethod y_K_kept, .selects "KeepHeap" y_K_kept y_K_kept, cd_S_twin, .methodLink "KeepHeap" 139 y_S_twin, .instanceMethod y_S_twin, .selects "KeepHeap$Slots" y_S_twin y_S_twin, cd_S_holds, .methodLink "KeepHeap$Slots" 49 y_S_holds, .instanceMethod y_S_holds, .selects "KeepHeap$Slots" y_S_holds y_S_holds, cd_S_placeOf, .methodLink "KeepHeap$Slots" 35 y_S_placeOf, .instanceMethod y_S_placeOf, .selects "KeepHeap$Slots" y_S_placeOf y_S_placeOf, .constantLong "KeepHeap$Slots" 39 1099511627776, cd_S_append, .methodLink "KeepHeap$Slots" 45 y_S_append, .instanceMethod y_S_append, .selects "KeepHeap$Slots" y_S_append y_S_append, cd_S_removeAt, .methodLink "KeepHeap$Slots" 41 y_S_removeAt, .instanceMethod y_S_removeAt, .selects "KeepHeap$Slots" y_S_removeAt y_S_removeAt, cd_K_valueOf, .methodLink "KeepHeap" 52 y_K_valueOf, .instanceMethod y_K_valueOf, .selects "KeepHeap" y_K_valueOf y_K_valueOf, cd_K_own, .methodLink "KeepHeap" 56 y_K_own, .instanceMethod y_K_own, .selects "KeepHeap" y_K_own y_K_own, cd_S_assign, .methodLink "KeepHeap" 62 y_S_assign, .instanceMethod y_S_assign, .selects "KeepHeap$Slots" y_S_assign y_S_assign, .constantLong "KeepHeapModel" 34 99, cd_M_in, .methodLink "KeepHeapModel" 36 y_M_in, .static y_M_in, .initialized "KeepHeapModel", cd_M_isThere, .methodLink "KeepHeapModel" 43 y_M_isThere, .instanceMethod y_M_isThere, .selects "KeepHeapModel" y_M_isThere y_M_isThere, .constantLong "KeepHeapModel" 49 1099511627777, .constantLong "KeepHeapModel" 47 1099511627776, cd_M_is, .methodLink "KeepHeapModel" 54 y_M_is, .instanceMethod y_M_is, .selects "KeepHeapModel" y_M_is y_M_is, cd_M_isValue, .methodLink "KeepHeapModel" 58 y_M_isValue, .instanceMethod y_M_isValue, .selects "KeepHeapModel" y_M_isValue y_M_isValue, cd_N_findField, .methodLink "KeepHeapModel" 61 y_N_findField, .instanceMethod y_N_findField, .selects "KeepHeapModel$State" y_N_findField y_N_findField, .fieldLink "KeepHeapModel" 68 "KeepHeapModel$State" "slot" "[J", cd_M_value, .methodLink "KeepHeapModel" 72 y_M_value, .static y_M_value, .fieldLink "KeepHeapModel" 65 "KeepHeapModel$State" "name" "[I", cd_S_named, .methodLink "KeepHeap" 69 y_S_named, .instanceMethod y_S_named, .selects "KeepHeap$Slots" y_S_named y_S_named, .constantLong "KeepHeapModel" 76 (-1099511627776), .methodLink "KeepHeap" 73 y_S_append, .constantLong "KeepHeap$Slots" 53 (-1099511627776), cd_S_takeLast, .methodLink "KeepHeap" 76 y_S_takeLast, .instanceMethod y_S_takeLast, .selects "KeepHeap$Slots" y_S_takeLast y_S_takeLast, .methodLink "KeepHeap" 80 y_S_holds, .fieldLink "KeepHeap" 84 "KeepHeap$Slots" "values" "[J", .fieldLink "KeepHeap" 92 "KeepHeap$State" "roots" "LKeepHeap$Slots;", cd_K_ownRoots, .methodLink "KeepHeap" 88 y_K_ownRoots, .instanceMethod y_K_ownRoots, .selects "KeepHeap" y_K_ownRoots y_K_ownRoots, .fieldLink "KeepHeapModel$State" 37 "KeepHeapModel$State" "roots" "I", cd_N_findRoot, .methodLink "KeepHeapModel" 78 y_N_findRoot, .instanceMethod y_N_findRoot, .selects "KeepHeapModel$State" y_N_findRoot y_N_findRoot, .fieldLink "KeepHeapModel" 89 "KeepHeapModel$State" "value" "[J", .fieldLink "KeepHeapModel" 82 "KeepHeapModel$State" "roots" "I", .fieldLink "KeepHeapModel" 86 "KeepHeapModel$State" "root" "[I", .methodLink "KeepHeap$Slots" 55 y_S_named, cd_S_namesChangedFrom, .methodLink "KeepHeap" 146 y_S_namesChangedFrom, .instanceMethod y_S_namesChangedFrom, .selects "KeepHeap$Slots" y_S_namesChangedFrom y_S_namesChangedFrom, cd_S_sameAs, .methodLink "KeepHeap" 142 y_S_sameAs, .instanceMethod y_S_sameAs, .selects "KeepHeap$Slots" y_S_sameAs y_S_sameAs, cd_T_become, .methodLink "KeepHeap" 108 y_T_become, .instanceMethod y_T_become, .selects "KeepHeap$State" y_T_become y_T_become, cd_K_changedBytes, .methodLink "KeepHeap" 96 y_K_changedBytes, .instanceMethod y_K_changedBytes, .selects "KeepHeap" y_K_changedBytes y_K_changedBytes, cd_K_keepNow, .methodLink "KeepHeap" 100 y_K_keepNow, .instanceMethod y_K_keepNow, .selects "KeepHeap" y_K_keepNow y_K_keepNow, cd_N_isSame, .methodLink "KeepHeapModel$State" 41 y_N_isSame, .instanceMethod y_N_isSame, .selects "KeepHeapModel$State" y_N_isSame y_N_isSame, .methodLink "KeepHeapModel$State" 45 y_N_findRoot, .methodLink "KeepHeapModel$State" 31 arraycopyName, cd_N_copy, .methodLink "KeepHeapModel" 91 y_N_copy, .instanceMethod y_N_copy, .selects "KeepHeapModel$State" y_N_copy y_N_copy, .fieldLink "KeepHeapModel" 95 "KeepHeapModel" "logged" "I", .fieldLink "KeepHeapModel" 98 "KeepHeapModel" "waits" "I", .fieldLink "KeepHeapModel" 101 "KeepHeapModel$State" "bytes" "I", cd_N_bytesBehind, .methodLink "KeepHeapModel" 104 y_N_bytesBehind, .instanceMethod y_N_bytesBehind, .selects "KeepHeapModel$State" y_N_bytesBehind y_N_bytesBehind, cd_M_keep, .methodLink "KeepHeapModel" 108 y_M_keep, .instanceMethod y_M_keep, .selects "KeepHeapModel" y_M_keep y_M_keep, .fieldLink "KeepHeap$Reach" 41 "KeepHeap$Slots" "used" "I", .fieldLink "KeepHeap$Reach" 46 "KeepHeap$Slots" "values" "[J", .constantLong "KeepHeap$Reach" 50 1099511627777, .constantLong "KeepHeap$Reach" 52 100, cd_R_enqueue, .methodLink "KeepHeap$Reach" 54 y_R_enqueue, .instanceMethod y_R_enqueue, .selects "KeepHeap$Reach" y_R_enqueue y_R_enqueue, .fieldLink "KeepHeap$Reach" 33 "KeepHeap$State" "roots" "LKeepHeap$Slots;", cd_R_enqueueAll, .methodLink "KeepHeap$Reach" 37 y_R_enqueueAll, .instanceMethod y_R_enqueueAll, .selects "KeepHeap$Reach" y_R_enqueueAll y_R_enqueueAll, .fieldLink "KeepHeap$Reach" 27 "KeepHeap$State" "objects" "[LKeepHeap$Slots;", cd_R_walk, .methodLink "KeepHeap$Reach" 23 y_R_walk, .instanceMethod y_R_walk, .selects "KeepHeap$Reach" y_R_walk y_R_walk, cd_R_dropUnreached, .methodLink "KeepHeap" 112 y_R_dropUnreached, .instanceMethod y_R_dropUnreached, .selects "KeepHeap$Reach" y_R_dropUnreached y_R_dropUnreached, cd_M_reach, .methodLink "KeepHeapModel" 112 y_M_reach, .instanceMethod y_M_reach, .selects "KeepHeapModel" y_M_reach y_M_reach, cd_K_entriesWithin, .methodLink "KeepHeap" 120 y_K_entriesWithin, .instanceMethod y_K_entriesWithin, .selects "KeepHeap" y_K_entriesWithin y_K_entriesWithin, .fieldLink "KeepHeap" 123 "KeepHeap$Slots" "form" "I", .fieldLink "KeepHeap" 126 "KeepHeap$Slots" "used" "I", cd_T_objectsThere, .methodLink "KeepHeap" 129 y_T_objectsThere, .instanceMethod y_T_objectsThere, .selects "KeepHeap$State" y_T_objectsThere y_T_objectsThere, .classLink "KeepHeapLaw" 7 "KeepHeap", .instantiable "KeepHeap" 7, cd_K_init, .methodLink "KeepHeapLaw" 9 y_K_init, .instanceMethod y_K_init, .classLink "KeepHeapLaw" 10 "KeepHeapModel", .instantiable "KeepHeapModel" 8, cd_M_init, .methodLink "KeepHeapLaw" 12 y_M_init, .instanceMethod y_M_init, cd_K_make, .methodLink "KeepHeapLaw" 13 y_K_make, .instanceMethod y_K_make, .selects "KeepHeap" y_K_make y_K_make, cd_M_make, .methodLink "KeepHeapLaw" 17 y_M_make, .instanceMethod y_M_make, .selects "KeepHeapModel" y_M_make y_M_make, cd_K_set, .methodLink "KeepHeapLaw" 18 y_K_set, .instanceMethod y_K_set, .selects "KeepHeap" y_K_set y_K_set, cd_M_set, .methodLink "KeepHeapLaw" 22 y_M_set, .instanceMethod y_M_set, .selects "KeepHeapModel" y_M_set y_M_set, cd_K_get, .methodLink "KeepHeapLaw" 23 y_K_get, .instanceMethod y_K_get, .selects "KeepHeap" y_K_get y_K_get, cd_M_get, .methodLink "KeepHeapLaw" 27 y_M_get, .instanceMethod y_M_get, .selects "KeepHeapModel" y_M_get y_M_get, cd_K_push, .methodLink "KeepHeapLaw" 28 y_K_push, .instanceMethod y_K_push, .selects "KeepHeap" y_K_push y_K_push, cd_M_push, .methodLink "KeepHeapLaw" 32 y_M_push, .instanceMethod y_M_push, .selects "KeepHeapModel" y_M_push y_M_push, cd_K_pop, .methodLink "KeepHeapLaw" 33 y_K_pop, .instanceMethod y_K_pop, .selects "KeepHeap" y_K_pop y_K_pop, cd_M_pop, .methodLink "KeepHeapLaw" 37 y_M_pop, .instanceMethod y_M_pop, .selects "KeepHeapModel" y_M_pop y_M_pop, cd_K_put, .methodLink "KeepHeapLaw" 38 y_K_put, .instanceMethod y_K_put, .selects "KeepHeap" y_K_put y_K_put, cd_M_put, .methodLink "KeepHeapLaw" 41 y_M_put, .instanceMethod y_M_put, .selects "KeepHeapModel" y_M_put y_M_put, cd_K_item, .methodLink "KeepHeapLaw" 42 y_K_item, .instanceMethod y_K_item, .selects "KeepHeap" y_K_item y_K_item, cd_M_item, .methodLink "KeepHeapLaw" 45 y_M_item, .instanceMethod y_M_item, .selects "KeepHeapModel" y_M_item y_M_item, cd_K_root, .methodLink "KeepHeapLaw" 46 y_K_root, .instanceMethod y_K_root, .selects "KeepHeap" y_K_root y_K_root, cd_M_root, .methodLink "KeepHeapLaw" 49 y_M_root, .instanceMethod y_M_root, .selects "KeepHeapModel" y_M_root y_M_root, cd_K_rooted, .methodLink "KeepHeapLaw" 50 y_K_rooted, .instanceMethod y_K_rooted, .selects "KeepHeap" y_K_rooted y_K_rooted, cd_M_rooted, .methodLink "KeepHeapLaw" 53 y_M_rooted, .instanceMethod y_M_rooted, .selects "KeepHeapModel" y_M_rooted y_M_rooted, cd_K_commit, .methodLink "KeepHeapLaw" 54 y_K_commit, .instanceMethod y_K_commit, .selects "KeepHeap" y_K_commit y_K_commit, cd_M_commit, .methodLink "KeepHeapLaw" 58 y_M_commit, .instanceMethod y_M_commit, .selects "KeepHeapModel" y_M_commit y_M_commit, cd_K_undo, .methodLink "KeepHeapLaw" 59 y_K_undo, .instanceMethod y_K_undo, .selects "KeepHeap" y_K_undo y_K_undo, cd_M_undo, .methodLink "KeepHeapLaw" 62 y_M_undo, .instanceMethod y_M_undo, .selects "KeepHeapModel" y_M_undo y_M_undo, cd_K_sweep, .methodLink "KeepHeapLaw" 63 y_K_sweep, .instanceMethod y_K_sweep, .selects "KeepHeap" y_K_sweep y_K_sweep, cd_M_sweep, .methodLink "KeepHeapLaw" 66 y_M_sweep, .instanceMethod y_M_sweep, .selects "KeepHeapModel" y_M_sweep y_M_sweep, cd_K_sync, .methodLink "KeepHeapLaw" 67 y_K_sync, .instanceMethod y_K_sync, .selects "KeepHeap" y_K_sync y_K_sync, cd_M_sync, .methodLink "KeepHeapLaw" 70 y_M_sync, .instanceMethod y_M_sync, .selects "KeepHeapModel" y_M_sync y_M_sync, cd_K_crash, .methodLink "KeepHeapLaw" 71 y_K_crash, .instanceMethod y_K_crash, .selects "KeepHeap" y_K_crash y_K_crash, cd_M_crash, .methodLink "KeepHeapLaw" 75 y_M_crash, .instanceMethod y_M_crash, .selects "KeepHeapModel" y_M_crash y_M_crash, cd_K_kind, .methodLink "KeepHeapLaw" 76 y_K_kind, .instanceMethod y_K_kind, .selects "KeepHeap" y_K_kind y_K_kind, cd_M_kind, .methodLink "KeepHeapLaw" 79 y_M_kind, .instanceMethod y_M_kind, .selects "KeepHeapModel" y_M_kind y_M_kind, cd_K_size, .methodLink "KeepHeapLaw" 80 y_K_size, .instanceMethod y_K_size, .selects "KeepHeap" y_K_size y_K_size, cd_M_size, .methodLink "KeepHeapLaw" 83 y_M_size, .instanceMethod y_M_size, .selects "KeepHeapModel" y_M_size y_M_size, cd_K_count, .methodLink "KeepHeapLaw" 84 y_K_count, .instanceMethod y_K_count, .selects "KeepHeap" y_K_count y_K_count, cd_M_count, .methodLink "KeepHeapLaw" 87 y_M_count, .instanceMethod y_M_count, .selects "KeepHeapModel" y_M_count y_M_count]
def ALL : List Cond := AL0 ++ (u_ws "KeepHeap" F_0 7 ++ (u_ws "KeepHeap$Slots" F_1 4 ++ (u_ws "KeepHeap$State" F_2 2 ++ (u_ws "KeepHeap$Reach" F_3 3 ++ (u_ws "KeepHeapModel" F_4 8 ++ (u_ws "KeepHeapModel$State" F_5 8))))))
theorem k_0 : (.methodLink "KeepHeap$Reach" 3 Lib.objectInit : Cond) ∈ ALL := List.mem_append_left _ (List.mem_of_getElem? (i := 0) rfl)
theorem k_1 : (.instanceMethod Lib.objectInit : Cond) ∈ ALL := List.mem_append_left _ (List.mem_of_getElem? (i := 1) rfl)
theorem k_2 : (.code Lib.objectInit ⟨#[0xb1]⟩ 1 none : Cond) ∈ ALL := List.mem_append_left _ (List.mem_of_getElem? (i := 2) rfl)
theorem k_3 : (.arrayClass (newarray.typeOf .boolean) : Cond) ∈ ALL := List.mem_append_left _ (List.mem_of_getElem? (i := 3) rfl)
theorem k_4 : (.fieldLink "KeepHeap$Reach" 9 "KeepHeap$Reach" "reached" "[Z" : Cond) ∈ ALL := List.mem_append_left _ (List.mem_of_getElem? (i := 4) rfl)
theorem k_5 : (.arrayClass (newarray.typeOf .int) : Cond) ∈ ALL := List.mem_append_left _ (List.mem_of_getElem? (i := 5) rfl)
theorem k_6 : (.fieldLink "KeepHeap$Reach" 15 "KeepHeap$Reach" "queue" "[I" : Cond) ∈ ALL := List.mem_append_left _ (List.mem_of_getElem? (i := 6) rfl)
theorem k_7 : (.fieldLink "KeepHeap$Reach" 19 "KeepHeap$Reach" "found" "I" : Cond) ∈ ALL := List.mem_append_left _ (List.mem_of_getElem? (i := 7) rfl)
theorem k_8 : (.methodLink "KeepHeap$Slots" 3 Lib.objectInit : Cond) ∈ ALL := List.mem_append_left _ (List.mem_of_getElem? (i := 8) rfl)
theorem k_9 : (.fieldLink "KeepHeap$Slots" 9 "KeepHeap$Slots" "used" "I" : Cond) ∈ ALL := List.mem_append_left _ (List.mem_of_getElem? (i := 9) rfl)
theorem k_10 : (.fieldLink "KeepHeap$Slots" 15 "KeepHeap$Slots" "form" "I" : Cond) ∈ ALL := List.mem_append_left _ (List.mem_of_getElem? (i := 10) rfl)
theorem k_11 : (.fieldLink "KeepHeap$Slots" 18 "KeepHeap$Slots" "names" "[I" : Cond) ∈ ALL := List.mem_append_left _ (List.mem_of_getElem? (i := 11) rfl)
theorem k_12 : (.arrayClass (newarray.typeOf .long) : Cond) ∈ ALL := List.mem_append_left _ (List.mem_of_getElem? (i := 12) rfl)
theorem k_13 : (.fieldLink "KeepHeap$Slots" 22 "KeepHeap$Slots" "values" "[J" : Cond) ∈ ALL := List.mem_append_left _ (List.mem_of_getElem? (i := 13) rfl)
theorem k_14 : (.methodLink "KeepHeap$State" 3 Lib.objectInit : Cond) ∈ ALL := List.mem_append_left _ (List.mem_of_getElem? (i := 14) rfl)
theorem k_15 : (.classLink "KeepHeap$State" 9 "KeepHeap$Slots" : Cond) ∈ ALL := List.mem_append_left _ (List.mem_of_getElem? (i := 15) rfl)
theorem k_16 : (.fieldLink "KeepHeap$State" 11 "KeepHeap$State" "objects" "[LKeepHeap$Slots;" : Cond) ∈ ALL := List.mem_append_left _ (List.mem_of_getElem? (i := 16) rfl)
theorem k_17 : (.fieldLink "KeepHeap$State" 17 "KeepHeap$State" "roots" "LKeepHeap$Slots;" : Cond) ∈ ALL := List.mem_append_left _ (List.mem_of_getElem? (i := 17) rfl)
theorem k_18 : (.methodLink "KeepHeap" 3 Lib.objectInit : Cond) ∈ ALL := List.mem_append_left _ (List.mem_of_getElem? (i := 18) rfl)
theorem k_19 : (.classLink "KeepHeap" 9 "KeepHeap$State" : Cond) ∈ ALL := List.mem_append_left _ (List.mem_of_getElem? (i := 19) rfl)
theorem k_20 : (.fieldLink "KeepHeap" 11 "KeepHeap" "ring" "[LKeepHeap$State;" : Cond) ∈ ALL := List.mem_append_left _ (List.mem_of_getElem? (i := 20) rfl)
theorem k_21 : (.fieldLink "KeepHeap" 15 "KeepHeap" "ringBytes" "[I" : Cond) ∈ ALL := List.mem_append_left _ (List.mem_of_getElem? (i := 21) rfl)
theorem k_22 : (.classLink "KeepHeap" 19 "KeepHeap$Reach" : Cond) ∈ ALL := List.mem_append_left _ (List.mem_of_getElem? (i := 22) rfl)
theorem k_23 : (.instantiable "KeepHeap$Reach" 3 : Cond) ∈ ALL := List.mem_append_left _ (List.mem_of_getElem? (i := 23) rfl)
theorem k_24 : (.initialized "KeepHeap$Reach" : Cond) ∈ ALL := List.mem_append_left _ (List.mem_of_getElem? (i := 24) rfl)
theorem k_25 : (cd_R_init : Cond) ∈ ALL := List.mem_append_left _ (List.mem_of_getElem? (i := 25) rfl)
theorem k_26 : (.instanceMethod y_R_init : Cond) ∈ ALL := List.mem_append_left _ (List.mem_of_getElem? (i := 26) rfl)
theorem k_27 : (.fieldLink "KeepHeap" 22 "KeepHeap" "reach" "LKeepHeap$Reach;" : Cond) ∈ ALL := List.mem_append_left _ (List.mem_of_getElem? (i := 27) rfl)
theorem k_28 : (.fieldLink "KeepHeap" 26 "KeepHeap" "safeAt" "I" : Cond) ∈ ALL := List.mem_append_left _ (List.mem_of_getElem? (i := 28) rfl)
theorem k_29 : (.fieldLink "KeepHeap" 30 "KeepHeap" "waiting" "I" : Cond) ∈ ALL := List.mem_append_left _ (List.mem_of_getElem? (i := 29) rfl)
theorem k_30 : (.fieldLink "KeepHeap" 33 "KeepHeap" "logBytes" "I" : Cond) ∈ ALL := List.mem_append_left _ (List.mem_of_getElem? (i := 30) rfl)
theorem k_31 : (.classLink "KeepHeap" 36 "KeepHeap$Slots" : Cond) ∈ ALL := List.mem_append_left _ (List.mem_of_getElem? (i := 31) rfl)
theorem k_32 : (.instantiable "KeepHeap$Slots" 4 : Cond) ∈ ALL := List.mem_append_left _ (List.mem_of_getElem? (i := 32) rfl)
theorem k_33 : (.initialized "KeepHeap$Slots" : Cond) ∈ ALL := List.mem_append_left _ (List.mem_of_getElem? (i := 33) rfl)
theorem k_34 : (cd_S_init : Cond) ∈ ALL := List.mem_append_left _ (List.mem_of_getElem? (i := 34) rfl)
theorem k_35 : (.methodLink "KeepHeap" 38 y_S_init : Cond) ∈ ALL := List.mem_append_left _ (List.mem_of_getElem? (i := 35) rfl)
theorem k_36 : (.instanceMethod y_S_init : Cond) ∈ ALL := List.mem_append_left _ (List.mem_of_getElem? (i := 36) rfl)
theorem k_37 : (.instantiable "KeepHeap$State" 2 : Cond) ∈ ALL := List.mem_append_left _ (List.mem_of_getElem? (i := 37) rfl)
theorem k_38 : (.initialized "KeepHeap$State" : Cond) ∈ ALL := List.mem_append_left _ (List.mem_of_getElem? (i := 38) rfl)
theorem k_39 : (cd_T_init : Cond) ∈ ALL := List.mem_append_left _ (List.mem_of_getElem? (i := 39) rfl)
theorem k_40 : (.methodLink "KeepHeap" 41 y_T_init : Cond) ∈ ALL := List.mem_append_left _ (List.mem_of_getElem? (i := 40) rfl)
theorem k_41 : (.instanceMethod y_T_init : Cond) ∈ ALL := List.mem_append_left _ (List.mem_of_getElem? (i := 41) rfl)
theorem k_42 : (.fieldLink "KeepHeap" 44 "KeepHeap" "now" "LKeepHeap$State;" : Cond) ∈ ALL := List.mem_append_left _ (List.mem_of_getElem? (i := 42) rfl)
theorem k_43 : (.methodLink "KeepHeapModel$State" 3 Lib.objectInit : Cond) ∈ ALL := List.mem_append_left _ (List.mem_of_getElem? (i := 43) rfl)
theorem k_44 : (.fieldLink "KeepHeapModel$State" 9 "KeepHeapModel$State" "kind" "[I" : Cond) ∈ ALL := List.mem_append_left _ (List.mem_of_getElem? (i := 44) rfl)
theorem k_45 : (.fieldLink "KeepHeapModel$State" 15 "KeepHeapModel$State" "size" "[I" : Cond) ∈ ALL := List.mem_append_left _ (List.mem_of_getElem? (i := 45) rfl)
theorem k_46 : (.fieldLink "KeepHeapModel$State" 18 "KeepHeapModel$State" "name" "[I" : Cond) ∈ ALL := List.mem_append_left _ (List.mem_of_getElem? (i := 46) rfl)
theorem k_47 : (.fieldLink "KeepHeapModel$State" 21 "KeepHeapModel$State" "root" "[I" : Cond) ∈ ALL := List.mem_append_left _ (List.mem_of_getElem? (i := 47) rfl)
theorem k_48 : (.fieldLink "KeepHeapModel$State" 24 "KeepHeapModel$State" "slot" "[J" : Cond) ∈ ALL := List.mem_append_left _ (List.mem_of_getElem? (i := 48) rfl)
theorem k_49 : (.fieldLink "KeepHeapModel$State" 28 "KeepHeapModel$State" "value" "[J" : Cond) ∈ ALL := List.mem_append_left _ (List.mem_of_getElem? (i := 49) rfl)
theorem k_50 : (.methodLink "KeepHeapModel" 1 Lib.objectInit : Cond) ∈ ALL := List.mem_append_left _ (List.mem_of_getElem? (i := 50) rfl)
theorem k_51 : (.classLink "KeepHeapModel" 7 "KeepHeapModel$State" : Cond) ∈ ALL := List.mem_append_left _ (List.mem_of_getElem? (i := 51) rfl)
theorem k_52 : (.instantiable "KeepHeapModel$State" 8 : Cond) ∈ ALL := List.mem_append_left _ (List.mem_of_getElem? (i := 52) rfl)
theorem k_53 : (.initialized "KeepHeapModel$State" : Cond) ∈ ALL := List.mem_append_left _ (List.mem_of_getElem? (i := 53) rfl)
theorem k_54 : (cd_N_init : Cond) ∈ ALL := List.mem_append_left _ (List.mem_of_getElem? (i := 54) rfl)
theorem k_55 : (.instanceMethod y_N_init : Cond) ∈ ALL := List.mem_append_left _ (List.mem_of_getElem? (i := 55) rfl)
theorem k_56 : (.fieldLink "KeepHeapModel" 10 "KeepHeapModel" "now" "LKeepHeapModel$State;" : Cond) ∈ ALL := List.mem_append_left _ (List.mem_of_getElem? (i := 56) rfl)
theorem k_57 : (.fieldLink "KeepHeapModel" 16 "KeepHeapModel" "kept" "LKeepHeapModel$State;" : Cond) ∈ ALL := List.mem_append_left _ (List.mem_of_getElem? (i := 57) rfl)
theorem k_58 : (.fieldLink "KeepHeapModel" 19 "KeepHeapModel" "safe" "LKeepHeapModel$State;" : Cond) ∈ ALL := List.mem_append_left _ (List.mem_of_getElem? (i := 58) rfl)
theorem k_59 : (.fieldLink "KeepHeapModel" 22 "KeepHeapModel" "waiting" "[LKeepHeapModel$State;" : Cond) ∈ ALL := List.mem_append_left _ (List.mem_of_getElem? (i := 59) rfl)
theorem k_60 : (.fieldLink "KeepHeapModel" 26 "KeepHeapModel" "reached" "[Z" : Cond) ∈ ALL := List.mem_append_left _ (List.mem_of_getElem? (i := 60) rfl)
theorem k_61 : (.fieldLink "KeepHeapModel" 30 "KeepHeapModel" "path" "[I" : Cond) ∈ ALL := List.mem_append_left _ (List.mem_of_getElem? (i := 61) rfl)
theorem k_62 : (.fieldLink "KeepHeap" 48 "KeepHeap$State" "objects" "[LKeepHeap$Slots;" : Cond) ∈ ALL := List.mem_append_left _ (List.mem_of_getElem? (i := 62) rfl)
theorem k_63 : (.fieldLink "KeepHeapModel" 40 "KeepHeapModel$State" "kind" "[I" : Cond) ∈ ALL := List.mem_append_left _ (List.mem_of_getElem? (i := 63) rfl)
theorem k_64 : (.fieldLink "KeepHeapModel" 51 "KeepHeapModel$State" "size" "[I" : Cond) ∈ ALL := List.mem_append_left _ (List.mem_of_getElem? (i := 64) rfl)
theorem k_65 : (.constantLong "KeepHeap" 132 1099511627776 : Cond) ∈ ALL := List.mem_append_left _ (List.mem_of_getElem? (i := 65) rfl)
theorem k_66 : (cd_T_has : Cond) ∈ ALL := List.mem_append_left _ (List.mem_of_getElem? (i := 66) rfl)
theorem k_67 : (.methodLink "KeepHeap" 134 y_T_has : Cond) ∈ ALL := List.mem_append_left _ (List.mem_of_getElem? (i := 67) rfl)
theorem k_68 : (.instanceMethod y_T_has : Cond) ∈ ALL := List.mem_append_left _ (List.mem_of_getElem? (i := 68) rfl)
theorem k_69 : (.selects "KeepHeap$State" y_T_has y_T_has : Cond) ∈ ALL := List.mem_append_left _ (List.mem_of_getElem? (i := 69) rfl)
theorem k_70 : (.constantLong "KeepHeap" 60 (-1099511627776) : Cond) ∈ ALL := List.mem_append_left _ (List.mem_of_getElem? (i := 70) rfl)
theorem k_71 : (.constantLong "KeepHeap" 137 1099511627777 : Cond) ∈ ALL := List.mem_append_left _ (List.mem_of_getElem? (i := 71) rfl)
theorem k_72 : (.methodLink "KeepHeap$State" 21 y_T_has : Cond) ∈ ALL := List.mem_append_left _ (List.mem_of_getElem? (i := 72) rfl)
theorem k_73 : (.fieldLink "KeepHeap$State" 25 "KeepHeap$Slots" "form" "I" : Cond) ∈ ALL := List.mem_append_left _ (List.mem_of_getElem? (i := 73) rfl)
theorem k_74 : (cd_K_ringIndex : Cond) ∈ ALL := List.mem_append_left _ (List.mem_of_getElem? (i := 74) rfl)
theorem k_75 : (.methodLink "KeepHeap" 116 y_K_ringIndex : Cond) ∈ ALL := List.mem_append_left _ (List.mem_of_getElem? (i := 75) rfl)
theorem k_76 : (.instanceMethod y_K_ringIndex : Cond) ∈ ALL := List.mem_append_left _ (List.mem_of_getElem? (i := 76) rfl)
theorem k_77 : (.selects "KeepHeap" y_K_ringIndex y_K_ringIndex : Cond) ∈ ALL := List.mem_append_left _ (List.mem_of_getElem? (i := 77) rfl)
theorem k_78 : (.initialized "KeepHeap" : Cond) ∈ ALL := List.mem_append_left _ (List.mem_of_getElem? (i := 78) rfl)
theorem k_79 : (.classLink "KeepHeap$Slots" 10 "KeepHeap$Slots" : Cond) ∈ ALL := List.mem_append_left _ (List.mem_of_getElem? (i := 79) rfl)
theorem k_80 : (.methodLink "KeepHeap$Slots" 26 y_S_init : Cond) ∈ ALL := List.mem_append_left _ (List.mem_of_getElem? (i := 80) rfl)
theorem k_81 : (.methodLink "KeepHeap$Slots" 29 arraycopyName : Cond) ∈ ALL := List.mem_append_left _ (List.mem_of_getElem? (i := 81) rfl)
theorem k_82 : (.native arraycopyName : Cond) ∈ ALL := List.mem_append_left _ (List.mem_of_getElem? (i := 82) rfl)
theorem k_83 : (.static arraycopyName : Cond) ∈ ALL := List.mem_append_left _ (List.mem_of_getElem? (i := 83) rfl)
theorem k_84 : (.initialized "java/lang/System" : Cond) ∈ ALL := List.mem_append_left _ (List.mem_of_getElem? (i := 84) rfl)
theorem k_85 : (cd_T_find : Cond) ∈ ALL := List.mem_append_left _ (List.mem_of_getElem? (i := 85) rfl)
theorem k_86 : (.methodLink "KeepHeap" 66 y_T_find : Cond) ∈ ALL := List.mem_append_left _ (List.mem_of_getElem? (i := 86) rfl)
theorem k_87 : (.instanceMethod y_T_find : Cond) ∈ ALL := List.mem_append_left _ (List.mem_of_getElem? (i := 87) rfl)
theorem k_88 : (.selects "KeepHeap$State" y_T_find y_T_find : Cond) ∈ ALL := List.mem_append_left _ (List.mem_of_getElem? (i := 88) rfl)
theorem k_89 : (cd_K_kept : Cond) ∈ ALL := List.mem_append_left _ (List.mem_of_getElem? (i := 89) rfl)
theorem k_90 : (.methodLink "KeepHeap" 104 y_K_kept : Cond) ∈ ALL := List.mem_append_left _ (List.mem_of_getElem? (i := 90) rfl)
theorem k_91 : (.instanceMethod y_K_kept : Cond) ∈ ALL := List.mem_append_left _ (List.mem_of_getElem? (i := 91) rfl)
theorem k_92 : (.selects "KeepHeap" y_K_kept y_K_kept : Cond) ∈ ALL := List.mem_append_left _ (List.mem_of_getElem? (i := 92) rfl)
theorem k_93 : (cd_S_twin : Cond) ∈ ALL := List.mem_append_left _ (List.mem_of_getElem? (i := 93) rfl)
theorem k_94 : (.methodLink "KeepHeap" 139 y_S_twin : Cond) ∈ ALL := List.mem_append_left _ (List.mem_of_getElem? (i := 94) rfl)
theorem k_95 : (.instanceMethod y_S_twin : Cond) ∈ ALL := List.mem_append_left _ (List.mem_of_getElem? (i := 95) rfl)
theorem k_96 : (.selects "KeepHeap$Slots" y_S_twin y_S_twin : Cond) ∈ ALL := List.mem_append_left _ (List.mem_of_getElem? (i := 96) rfl)
theorem k_97 : (cd_S_holds : Cond) ∈ ALL := List.mem_append_left _ (List.mem_of_getElem? (i := 97) rfl)
theorem k_98 : (.methodLink "KeepHeap$Slots" 49 y_S_holds : Cond) ∈ ALL := List.mem_append_left _ (List.mem_of_getElem? (i := 98) rfl)
theorem k_99 : (.instanceMethod y_S_holds : Cond) ∈ ALL := List.mem_append_left _ (List.mem_of_getElem? (i := 99) rfl)
theorem k_100 : (.selects "KeepHeap$Slots" y_S_holds y_S_holds : Cond) ∈ ALL := List.mem_append_left _ (List.mem_of_getElem? (i := 100) rfl)
theorem k_101 : (cd_S_placeOf : Cond) ∈ ALL := List.mem_append_left _ (List.mem_of_getElem? (i := 101) rfl)
theorem k_102 : (.methodLink "KeepHeap$Slots" 35 y_S_placeOf : Cond) ∈ ALL := List.mem_append_left _ (List.mem_of_getElem? (i := 102) rfl)
theorem k_103 : (.instanceMethod y_S_placeOf : Cond) ∈ ALL := List.mem_append_left _ (List.mem_of_getElem? (i := 103) rfl)
theorem k_104 : (.selects "KeepHeap$Slots" y_S_placeOf y_S_placeOf : Cond) ∈ ALL := List.mem_append_left _ (List.mem_of_getElem? (i := 104) rfl)
theorem k_105 : (.constantLong "KeepHeap$Slots" 39 1099511627776 : Cond) ∈ ALL := List.mem_append_left _ (List.mem_of_getElem? (i := 105) rfl)
theorem k_106 : (cd_S_append : Cond) ∈ ALL := List.mem_append_left _ (List.mem_of_getElem? (i := 106) rfl)
theorem k_107 : (.methodLink "KeepHeap$Slots" 45 y_S_append : Cond) ∈ ALL := List.mem_append_left _ (List.mem_of_getElem? (i := 107) rfl)
theorem k_108 : (.instanceMethod y_S_append : Cond) ∈ ALL := List.mem_append_left _ (List.mem_of_getElem? (i := 108) rfl)
theorem k_109 : (.selects "KeepHeap$Slots" y_S_append y_S_append : Cond) ∈ ALL := List.mem_append_left _ (List.mem_of_getElem? (i := 109) rfl)
theorem k_110 : (cd_S_removeAt : Cond) ∈ ALL := List.mem_append_left _ (List.mem_of_getElem? (i := 110) rfl)
theorem k_111 : (.methodLink "KeepHeap$Slots" 41 y_S_removeAt : Cond) ∈ ALL := List.mem_append_left _ (List.mem_of_getElem? (i := 111) rfl)
theorem k_112 : (.instanceMethod y_S_removeAt : Cond) ∈ ALL := List.mem_append_left _ (List.mem_of_getElem? (i := 112) rfl)
theorem k_113 : (.selects "KeepHeap$Slots" y_S_removeAt y_S_removeAt : Cond) ∈ ALL := List.mem_append_left _ (List.mem_of_getElem? (i := 113) rfl)
theorem k_114 : (cd_K_valueOf : Cond) ∈ ALL := List.mem_append_left _ (List.mem_of_getElem? (i := 114) rfl)
theorem k_115 : (.methodLink "KeepHeap" 52 y_K_valueOf : Cond) ∈ ALL := List.mem_append_left _ (List.mem_of_getElem? (i := 115) rfl)
theorem k_116 : (.instanceMethod y_K_valueOf : Cond) ∈ ALL := List.mem_append_left _ (List.mem_of_getElem? (i := 116) rfl)
theorem k_117 : (.selects "KeepHeap" y_K_valueOf y_K_valueOf : Cond) ∈ ALL := List.mem_append_left _ (List.mem_of_getElem? (i := 117) rfl)
theorem k_118 : (cd_K_own : Cond) ∈ ALL := List.mem_append_left _ (List.mem_of_getElem? (i := 118) rfl)
theorem k_119 : (.methodLink "KeepHeap" 56 y_K_own : Cond) ∈ ALL := List.mem_append_left _ (List.mem_of_getElem? (i := 119) rfl)
theorem k_120 : (.instanceMethod y_K_own : Cond) ∈ ALL := List.mem_append_left _ (List.mem_of_getElem? (i := 120) rfl)
theorem k_121 : (.selects "KeepHeap" y_K_own y_K_own : Cond) ∈ ALL := List.mem_append_left _ (List.mem_of_getElem? (i := 121) rfl)
theorem k_122 : (cd_S_assign : Cond) ∈ ALL := List.mem_append_left _ (List.mem_of_getElem? (i := 122) rfl)
theorem k_123 : (.methodLink "KeepHeap" 62 y_S_assign : Cond) ∈ ALL := List.mem_append_left _ (List.mem_of_getElem? (i := 123) rfl)
theorem k_124 : (.instanceMethod y_S_assign : Cond) ∈ ALL := List.mem_append_left _ (List.mem_of_getElem? (i := 124) rfl)
theorem k_125 : (.selects "KeepHeap$Slots" y_S_assign y_S_assign : Cond) ∈ ALL := List.mem_append_left _ (List.mem_of_getElem? (i := 125) rfl)
theorem k_126 : (.constantLong "KeepHeapModel" 34 99 : Cond) ∈ ALL := List.mem_append_left _ (List.mem_of_getElem? (i := 126) rfl)
theorem k_127 : (cd_M_in : Cond) ∈ ALL := List.mem_append_left _ (List.mem_of_getElem? (i := 127) rfl)
theorem k_128 : (.methodLink "KeepHeapModel" 36 y_M_in : Cond) ∈ ALL := List.mem_append_left _ (List.mem_of_getElem? (i := 128) rfl)
theorem k_129 : (.static y_M_in : Cond) ∈ ALL := List.mem_append_left _ (List.mem_of_getElem? (i := 129) rfl)
theorem k_130 : (.initialized "KeepHeapModel" : Cond) ∈ ALL := List.mem_append_left _ (List.mem_of_getElem? (i := 130) rfl)
theorem k_131 : (cd_M_isThere : Cond) ∈ ALL := List.mem_append_left _ (List.mem_of_getElem? (i := 131) rfl)
theorem k_132 : (.methodLink "KeepHeapModel" 43 y_M_isThere : Cond) ∈ ALL := List.mem_append_left _ (List.mem_of_getElem? (i := 132) rfl)
theorem k_133 : (.instanceMethod y_M_isThere : Cond) ∈ ALL := List.mem_append_left _ (List.mem_of_getElem? (i := 133) rfl)
theorem k_134 : (.selects "KeepHeapModel" y_M_isThere y_M_isThere : Cond) ∈ ALL := List.mem_append_left _ (List.mem_of_getElem? (i := 134) rfl)
theorem k_135 : (.constantLong "KeepHeapModel" 49 1099511627777 : Cond) ∈ ALL := List.mem_append_left _ (List.mem_of_getElem? (i := 135) rfl)
theorem k_136 : (.constantLong "KeepHeapModel" 47 1099511627776 : Cond) ∈ ALL := List.mem_append_left _ (List.mem_of_getElem? (i := 136) rfl)
theorem k_137 : (cd_M_is : Cond) ∈ ALL := List.mem_append_left _ (List.mem_of_getElem? (i := 137) rfl)
theorem k_138 : (.methodLink "KeepHeapModel" 54 y_M_is : Cond) ∈ ALL := List.mem_append_left _ (List.mem_of_getElem? (i := 138) rfl)
theorem k_139 : (.instanceMethod y_M_is : Cond) ∈ ALL := List.mem_append_left _ (List.mem_of_getElem? (i := 139) rfl)
theorem k_140 : (.selects "KeepHeapModel" y_M_is y_M_is : Cond) ∈ ALL := List.mem_append_left _ (List.mem_of_getElem? (i := 140) rfl)
theorem k_141 : (cd_M_isValue : Cond) ∈ ALL := List.mem_append_left _ (List.mem_of_getElem? (i := 141) rfl)
theorem k_142 : (.methodLink "KeepHeapModel" 58 y_M_isValue : Cond) ∈ ALL := List.mem_append_left _ (List.mem_of_getElem? (i := 142) rfl)
theorem k_143 : (.instanceMethod y_M_isValue : Cond) ∈ ALL := List.mem_append_left _ (List.mem_of_getElem? (i := 143) rfl)
theorem k_144 : (.selects "KeepHeapModel" y_M_isValue y_M_isValue : Cond) ∈ ALL := List.mem_append_left _ (List.mem_of_getElem? (i := 144) rfl)
theorem k_145 : (cd_N_findField : Cond) ∈ ALL := List.mem_append_left _ (List.mem_of_getElem? (i := 145) rfl)
theorem k_146 : (.methodLink "KeepHeapModel" 61 y_N_findField : Cond) ∈ ALL := List.mem_append_left _ (List.mem_of_getElem? (i := 146) rfl)
theorem k_147 : (.instanceMethod y_N_findField : Cond) ∈ ALL := List.mem_append_left _ (List.mem_of_getElem? (i := 147) rfl)
theorem k_148 : (.selects "KeepHeapModel$State" y_N_findField y_N_findField : Cond) ∈ ALL := List.mem_append_left _ (List.mem_of_getElem? (i := 148) rfl)
theorem k_149 : (.fieldLink "KeepHeapModel" 68 "KeepHeapModel$State" "slot" "[J" : Cond) ∈ ALL := List.mem_append_left _ (List.mem_of_getElem? (i := 149) rfl)
theorem k_150 : (cd_M_value : Cond) ∈ ALL := List.mem_append_left _ (List.mem_of_getElem? (i := 150) rfl)
theorem k_151 : (.methodLink "KeepHeapModel" 72 y_M_value : Cond) ∈ ALL := List.mem_append_left _ (List.mem_of_getElem? (i := 151) rfl)
theorem k_152 : (.static y_M_value : Cond) ∈ ALL := List.mem_append_left _ (List.mem_of_getElem? (i := 152) rfl)
theorem k_153 : (.fieldLink "KeepHeapModel" 65 "KeepHeapModel$State" "name" "[I" : Cond) ∈ ALL := List.mem_append_left _ (List.mem_of_getElem? (i := 153) rfl)
theorem k_154 : (cd_S_named : Cond) ∈ ALL := List.mem_append_left _ (List.mem_of_getElem? (i := 154) rfl)
theorem k_155 : (.methodLink "KeepHeap" 69 y_S_named : Cond) ∈ ALL := List.mem_append_left _ (List.mem_of_getElem? (i := 155) rfl)
theorem k_156 : (.instanceMethod y_S_named : Cond) ∈ ALL := List.mem_append_left _ (List.mem_of_getElem? (i := 156) rfl)
theorem k_157 : (.selects "KeepHeap$Slots" y_S_named y_S_named : Cond) ∈ ALL := List.mem_append_left _ (List.mem_of_getElem? (i := 157) rfl)
theorem k_158 : (.constantLong "KeepHeapModel" 76 (-1099511627776) : Cond) ∈ ALL := List.mem_append_left _ (List.mem_of_getElem? (i := 158) rfl)
theorem k_159 : (.methodLink "KeepHeap" 73 y_S_append : Cond) ∈ ALL := List.mem_append_left _ (List.mem_of_getElem? (i := 159) rfl)
theorem k_160 : (.constantLong "KeepHeap$Slots" 53 (-1099511627776) : Cond) ∈ ALL := List.mem_append_left _ (List.mem_of_getElem? (i := 160) rfl)
theorem k_161 : (cd_S_takeLast : Cond) ∈ ALL := List.mem_append_left _ (List.mem_of_getElem? (i := 161) rfl)
theorem k_162 : (.methodLink "KeepHeap" 76 y_S_takeLast : Cond) ∈ ALL := List.mem_append_left _ (List.mem_of_getElem? (i := 162) rfl)
theorem k_163 : (.instanceMethod y_S_takeLast : Cond) ∈ ALL := List.mem_append_left _ (List.mem_of_getElem? (i := 163) rfl)
theorem k_164 : (.selects "KeepHeap$Slots" y_S_takeLast y_S_takeLast : Cond) ∈ ALL := List.mem_append_left _ (List.mem_of_getElem? (i := 164) rfl)
theorem k_165 : (.methodLink "KeepHeap" 80 y_S_holds : Cond) ∈ ALL := List.mem_append_left _ (List.mem_of_getElem? (i := 165) rfl)
theorem k_166 : (.fieldLink "KeepHeap" 84 "KeepHeap$Slots" "values" "[J" : Cond) ∈ ALL := List.mem_append_left _ (List.mem_of_getElem? (i := 166) rfl)
theorem k_167 : (.fieldLink "KeepHeap" 92 "KeepHeap$State" "roots" "LKeepHeap$Slots;" : Cond) ∈ ALL := List.mem_append_left _ (List.mem_of_getElem? (i := 167) rfl)
theorem k_168 : (cd_K_ownRoots : Cond) ∈ ALL := List.mem_append_left _ (List.mem_of_getElem? (i := 168) rfl)
theorem k_169 : (.methodLink "KeepHeap" 88 y_K_ownRoots : Cond) ∈ ALL := List.mem_append_left _ (List.mem_of_getElem? (i := 169) rfl)
theorem k_170 : (.instanceMethod y_K_ownRoots : Cond) ∈ ALL := List.mem_append_left _ (List.mem_of_getElem? (i := 170) rfl)
theorem k_171 : (.selects "KeepHeap" y_K_ownRoots y_K_ownRoots : Cond) ∈ ALL := List.mem_append_left _ (List.mem_of_getElem? (i := 171) rfl)
theorem k_172 : (.fieldLink "KeepHeapModel$State" 37 "KeepHeapModel$State" "roots" "I" : Cond) ∈ ALL := List.mem_append_left _ (List.mem_of_getElem? (i := 172) rfl)
theorem k_173 : (cd_N_findRoot : Cond) ∈ ALL := List.mem_append_left _ (List.mem_of_getElem? (i := 173) rfl)
theorem k_174 : (.methodLink "KeepHeapModel" 78 y_N_findRoot : Cond) ∈ ALL := List.mem_append_left _ (List.mem_of_getElem? (i := 174) rfl)
theorem k_175 : (.instanceMethod y_N_findRoot : Cond) ∈ ALL := List.mem_append_left _ (List.mem_of_getElem? (i := 175) rfl)
theorem k_176 : (.selects "KeepHeapModel$State" y_N_findRoot y_N_findRoot : Cond) ∈ ALL := List.mem_append_left _ (List.mem_of_getElem? (i := 176) rfl)
theorem k_177 : (.fieldLink "KeepHeapModel" 89 "KeepHeapModel$State" "value" "[J" : Cond) ∈ ALL := List.mem_append_left _ (List.mem_of_getElem? (i := 177) rfl)
theorem k_178 : (.fieldLink "KeepHeapModel" 82 "KeepHeapModel$State" "roots" "I" : Cond) ∈ ALL := List.mem_append_left _ (List.mem_of_getElem? (i := 178) rfl)
theorem k_179 : (.fieldLink "KeepHeapModel" 86 "KeepHeapModel$State" "root" "[I" : Cond) ∈ ALL := List.mem_append_left _ (List.mem_of_getElem? (i := 179) rfl)
theorem k_180 : (.methodLink "KeepHeap$Slots" 55 y_S_named : Cond) ∈ ALL := List.mem_append_left _ (List.mem_of_getElem? (i := 180) rfl)
theorem k_181 : (cd_S_namesChangedFrom : Cond) ∈ ALL := List.mem_append_left _ (List.mem_of_getElem? (i := 181) rfl)
theorem k_182 : (.methodLink "KeepHeap" 146 y_S_namesChangedFrom : Cond) ∈ ALL := List.mem_append_left _ (List.mem_of_getElem? (i := 182) rfl)
theorem k_183 : (.instanceMethod y_S_namesChangedFrom : Cond) ∈ ALL := List.mem_append_left _ (List.mem_of_getElem? (i := 183) rfl)
theorem k_184 : (.selects "KeepHeap$Slots" y_S_namesChangedFrom y_S_namesChangedFrom : Cond) ∈ ALL := List.mem_append_left _ (List.mem_of_getElem? (i := 184) rfl)
theorem k_185 : (cd_S_sameAs : Cond) ∈ ALL := List.mem_append_left _ (List.mem_of_getElem? (i := 185) rfl)
theorem k_186 : (.methodLink "KeepHeap" 142 y_S_sameAs : Cond) ∈ ALL := List.mem_append_left _ (List.mem_of_getElem? (i := 186) rfl)
theorem k_187 : (.instanceMethod y_S_sameAs : Cond) ∈ ALL := List.mem_append_left _ (List.mem_of_getElem? (i := 187) rfl)
theorem k_188 : (.selects "KeepHeap$Slots" y_S_sameAs y_S_sameAs : Cond) ∈ ALL := List.mem_append_left _ (List.mem_of_getElem? (i := 188) rfl)
theorem k_189 : (cd_T_become : Cond) ∈ ALL := List.mem_append_left _ (List.mem_of_getElem? (i := 189) rfl)
theorem k_190 : (.methodLink "KeepHeap" 108 y_T_become : Cond) ∈ ALL := List.mem_append_left _ (List.mem_of_getElem? (i := 190) rfl)
theorem k_191 : (.instanceMethod y_T_become : Cond) ∈ ALL := List.mem_append_left _ (List.mem_of_getElem? (i := 191) rfl)
theorem k_192 : (.selects "KeepHeap$State" y_T_become y_T_become : Cond) ∈ ALL := List.mem_append_left _ (List.mem_of_getElem? (i := 192) rfl)
theorem k_193 : (cd_K_changedBytes : Cond) ∈ ALL := List.mem_append_left _ (List.mem_of_getElem? (i := 193) rfl)
theorem k_194 : (.methodLink "KeepHeap" 96 y_K_changedBytes : Cond) ∈ ALL := List.mem_append_left _ (List.mem_of_getElem? (i := 194) rfl)
theorem k_195 : (.instanceMethod y_K_changedBytes : Cond) ∈ ALL := List.mem_append_left _ (List.mem_of_getElem? (i := 195) rfl)
theorem k_196 : (.selects "KeepHeap" y_K_changedBytes y_K_changedBytes : Cond) ∈ ALL := List.mem_append_left _ (List.mem_of_getElem? (i := 196) rfl)
theorem k_197 : (cd_K_keepNow : Cond) ∈ ALL := List.mem_append_left _ (List.mem_of_getElem? (i := 197) rfl)
theorem k_198 : (.methodLink "KeepHeap" 100 y_K_keepNow : Cond) ∈ ALL := List.mem_append_left _ (List.mem_of_getElem? (i := 198) rfl)
theorem k_199 : (.instanceMethod y_K_keepNow : Cond) ∈ ALL := List.mem_append_left _ (List.mem_of_getElem? (i := 199) rfl)
theorem k_200 : (.selects "KeepHeap" y_K_keepNow y_K_keepNow : Cond) ∈ ALL := List.mem_append_left _ (List.mem_of_getElem? (i := 200) rfl)
theorem k_201 : (cd_N_isSame : Cond) ∈ ALL := List.mem_append_left _ (List.mem_of_getElem? (i := 201) rfl)
theorem k_202 : (.methodLink "KeepHeapModel$State" 41 y_N_isSame : Cond) ∈ ALL := List.mem_append_left _ (List.mem_of_getElem? (i := 202) rfl)
theorem k_203 : (.instanceMethod y_N_isSame : Cond) ∈ ALL := List.mem_append_left _ (List.mem_of_getElem? (i := 203) rfl)
theorem k_204 : (.selects "KeepHeapModel$State" y_N_isSame y_N_isSame : Cond) ∈ ALL := List.mem_append_left _ (List.mem_of_getElem? (i := 204) rfl)
theorem k_205 : (.methodLink "KeepHeapModel$State" 45 y_N_findRoot : Cond) ∈ ALL := List.mem_append_left _ (List.mem_of_getElem? (i := 205) rfl)
theorem k_206 : (.methodLink "KeepHeapModel$State" 31 arraycopyName : Cond) ∈ ALL := List.mem_append_left _ (List.mem_of_getElem? (i := 206) rfl)
theorem k_207 : (cd_N_copy : Cond) ∈ ALL := List.mem_append_left _ (List.mem_of_getElem? (i := 207) rfl)
theorem k_208 : (.methodLink "KeepHeapModel" 91 y_N_copy : Cond) ∈ ALL := List.mem_append_left _ (List.mem_of_getElem? (i := 208) rfl)
theorem k_209 : (.instanceMethod y_N_copy : Cond) ∈ ALL := List.mem_append_left _ (List.mem_of_getElem? (i := 209) rfl)
theorem k_210 : (.selects "KeepHeapModel$State" y_N_copy y_N_copy : Cond) ∈ ALL := List.mem_append_left _ (List.mem_of_getElem? (i := 210) rfl)
theorem k_211 : (.fieldLink "KeepHeapModel" 95 "KeepHeapModel" "logged" "I" : Cond) ∈ ALL := List.mem_append_left _ (List.mem_of_getElem? (i := 211) rfl)
theorem k_212 : (.fieldLink "KeepHeapModel" 98 "KeepHeapModel" "waits" "I" : Cond) ∈ ALL := List.mem_append_left _ (List.mem_of_getElem? (i := 212) rfl)
theorem k_213 : (.fieldLink "KeepHeapModel" 101 "KeepHeapModel$State" "bytes" "I" : Cond) ∈ ALL := List.mem_append_left _ (List.mem_of_getElem? (i := 213) rfl)
theorem k_214 : (cd_N_bytesBehind : Cond) ∈ ALL := List.mem_append_left _ (List.mem_of_getElem? (i := 214) rfl)
theorem k_215 : (.methodLink "KeepHeapModel" 104 y_N_bytesBehind : Cond) ∈ ALL := List.mem_append_left _ (List.mem_of_getElem? (i := 215) rfl)
theorem k_216 : (.instanceMethod y_N_bytesBehind : Cond) ∈ ALL := List.mem_append_left _ (List.mem_of_getElem? (i := 216) rfl)
theorem k_217 : (.selects "KeepHeapModel$State" y_N_bytesBehind y_N_bytesBehind : Cond) ∈ ALL := List.mem_append_left _ (List.mem_of_getElem? (i := 217) rfl)
theorem k_218 : (cd_M_keep : Cond) ∈ ALL := List.mem_append_left _ (List.mem_of_getElem? (i := 218) rfl)
theorem k_219 : (.methodLink "KeepHeapModel" 108 y_M_keep : Cond) ∈ ALL := List.mem_append_left _ (List.mem_of_getElem? (i := 219) rfl)
theorem k_220 : (.instanceMethod y_M_keep : Cond) ∈ ALL := List.mem_append_left _ (List.mem_of_getElem? (i := 220) rfl)
theorem k_221 : (.selects "KeepHeapModel" y_M_keep y_M_keep : Cond) ∈ ALL := List.mem_append_left _ (List.mem_of_getElem? (i := 221) rfl)
theorem k_222 : (.fieldLink "KeepHeap$Reach" 41 "KeepHeap$Slots" "used" "I" : Cond) ∈ ALL := List.mem_append_left _ (List.mem_of_getElem? (i := 222) rfl)
theorem k_223 : (.fieldLink "KeepHeap$Reach" 46 "KeepHeap$Slots" "values" "[J" : Cond) ∈ ALL := List.mem_append_left _ (List.mem_of_getElem? (i := 223) rfl)
theorem k_224 : (.constantLong "KeepHeap$Reach" 50 1099511627777 : Cond) ∈ ALL := List.mem_append_left _ (List.mem_of_getElem? (i := 224) rfl)
theorem k_225 : (.constantLong "KeepHeap$Reach" 52 100 : Cond) ∈ ALL := List.mem_append_left _ (List.mem_of_getElem? (i := 225) rfl)
theorem k_226 : (cd_R_enqueue : Cond) ∈ ALL := List.mem_append_left _ (List.mem_of_getElem? (i := 226) rfl)
theorem k_227 : (.methodLink "KeepHeap$Reach" 54 y_R_enqueue : Cond) ∈ ALL := List.mem_append_left _ (List.mem_of_getElem? (i := 227) rfl)
theorem k_228 : (.instanceMethod y_R_enqueue : Cond) ∈ ALL := List.mem_append_left _ (List.mem_of_getElem? (i := 228) rfl)
theorem k_229 : (.selects "KeepHeap$Reach" y_R_enqueue y_R_enqueue : Cond) ∈ ALL := List.mem_append_left _ (List.mem_of_getElem? (i := 229) rfl)
theorem k_230 : (.fieldLink "KeepHeap$Reach" 33 "KeepHeap$State" "roots" "LKeepHeap$Slots;" : Cond) ∈ ALL := List.mem_append_left _ (List.mem_of_getElem? (i := 230) rfl)
theorem k_231 : (cd_R_enqueueAll : Cond) ∈ ALL := List.mem_append_left _ (List.mem_of_getElem? (i := 231) rfl)
theorem k_232 : (.methodLink "KeepHeap$Reach" 37 y_R_enqueueAll : Cond) ∈ ALL := List.mem_append_left _ (List.mem_of_getElem? (i := 232) rfl)
theorem k_233 : (.instanceMethod y_R_enqueueAll : Cond) ∈ ALL := List.mem_append_left _ (List.mem_of_getElem? (i := 233) rfl)
theorem k_234 : (.selects "KeepHeap$Reach" y_R_enqueueAll y_R_enqueueAll : Cond) ∈ ALL := List.mem_append_left _ (List.mem_of_getElem? (i := 234) rfl)
theorem k_235 : (.fieldLink "KeepHeap$Reach" 27 "KeepHeap$State" "objects" "[LKeepHeap$Slots;" : Cond) ∈ ALL := List.mem_append_left _ (List.mem_of_getElem? (i := 235) rfl)
theorem k_236 : (cd_R_walk : Cond) ∈ ALL := List.mem_append_left _ (List.mem_of_getElem? (i := 236) rfl)
theorem k_237 : (.methodLink "KeepHeap$Reach" 23 y_R_walk : Cond) ∈ ALL := List.mem_append_left _ (List.mem_of_getElem? (i := 237) rfl)
theorem k_238 : (.instanceMethod y_R_walk : Cond) ∈ ALL := List.mem_append_left _ (List.mem_of_getElem? (i := 238) rfl)
theorem k_239 : (.selects "KeepHeap$Reach" y_R_walk y_R_walk : Cond) ∈ ALL := List.mem_append_left _ (List.mem_of_getElem? (i := 239) rfl)
theorem k_240 : (cd_R_dropUnreached : Cond) ∈ ALL := List.mem_append_left _ (List.mem_of_getElem? (i := 240) rfl)
theorem k_241 : (.methodLink "KeepHeap" 112 y_R_dropUnreached : Cond) ∈ ALL := List.mem_append_left _ (List.mem_of_getElem? (i := 241) rfl)
theorem k_242 : (.instanceMethod y_R_dropUnreached : Cond) ∈ ALL := List.mem_append_left _ (List.mem_of_getElem? (i := 242) rfl)
theorem k_243 : (.selects "KeepHeap$Reach" y_R_dropUnreached y_R_dropUnreached : Cond) ∈ ALL := List.mem_append_left _ (List.mem_of_getElem? (i := 243) rfl)
theorem k_244 : (cd_M_reach : Cond) ∈ ALL := List.mem_append_left _ (List.mem_of_getElem? (i := 244) rfl)
theorem k_245 : (.methodLink "KeepHeapModel" 112 y_M_reach : Cond) ∈ ALL := List.mem_append_left _ (List.mem_of_getElem? (i := 245) rfl)
theorem k_246 : (.instanceMethod y_M_reach : Cond) ∈ ALL := List.mem_append_left _ (List.mem_of_getElem? (i := 246) rfl)
theorem k_247 : (.selects "KeepHeapModel" y_M_reach y_M_reach : Cond) ∈ ALL := List.mem_append_left _ (List.mem_of_getElem? (i := 247) rfl)
theorem k_248 : (cd_K_entriesWithin : Cond) ∈ ALL := List.mem_append_left _ (List.mem_of_getElem? (i := 248) rfl)
theorem k_249 : (.methodLink "KeepHeap" 120 y_K_entriesWithin : Cond) ∈ ALL := List.mem_append_left _ (List.mem_of_getElem? (i := 249) rfl)
theorem k_250 : (.instanceMethod y_K_entriesWithin : Cond) ∈ ALL := List.mem_append_left _ (List.mem_of_getElem? (i := 250) rfl)
theorem k_251 : (.selects "KeepHeap" y_K_entriesWithin y_K_entriesWithin : Cond) ∈ ALL := List.mem_append_left _ (List.mem_of_getElem? (i := 251) rfl)
theorem k_252 : (.fieldLink "KeepHeap" 123 "KeepHeap$Slots" "form" "I" : Cond) ∈ ALL := List.mem_append_left _ (List.mem_of_getElem? (i := 252) rfl)
theorem k_253 : (.fieldLink "KeepHeap" 126 "KeepHeap$Slots" "used" "I" : Cond) ∈ ALL := List.mem_append_left _ (List.mem_of_getElem? (i := 253) rfl)
theorem k_254 : (cd_T_objectsThere : Cond) ∈ ALL := List.mem_append_left _ (List.mem_of_getElem? (i := 254) rfl)
theorem k_255 : (.methodLink "KeepHeap" 129 y_T_objectsThere : Cond) ∈ ALL := List.mem_append_left _ (List.mem_of_getElem? (i := 255) rfl)
theorem k_256 : (.instanceMethod y_T_objectsThere : Cond) ∈ ALL := List.mem_append_left _ (List.mem_of_getElem? (i := 256) rfl)
theorem k_257 : (.selects "KeepHeap$State" y_T_objectsThere y_T_objectsThere : Cond) ∈ ALL := List.mem_append_left _ (List.mem_of_getElem? (i := 257) rfl)
theorem k_258 : (.classLink "KeepHeapLaw" 7 "KeepHeap" : Cond) ∈ ALL := List.mem_append_left _ (List.mem_of_getElem? (i := 258) rfl)
theorem k_259 : (.instantiable "KeepHeap" 7 : Cond) ∈ ALL := List.mem_append_left _ (List.mem_of_getElem? (i := 259) rfl)
theorem k_260 : (cd_K_init : Cond) ∈ ALL := List.mem_append_left _ (List.mem_of_getElem? (i := 260) rfl)
theorem k_261 : (.methodLink "KeepHeapLaw" 9 y_K_init : Cond) ∈ ALL := List.mem_append_left _ (List.mem_of_getElem? (i := 261) rfl)
theorem k_262 : (.instanceMethod y_K_init : Cond) ∈ ALL := List.mem_append_left _ (List.mem_of_getElem? (i := 262) rfl)
theorem k_263 : (.classLink "KeepHeapLaw" 10 "KeepHeapModel" : Cond) ∈ ALL := List.mem_append_left _ (List.mem_of_getElem? (i := 263) rfl)
theorem k_264 : (.instantiable "KeepHeapModel" 8 : Cond) ∈ ALL := List.mem_append_left _ (List.mem_of_getElem? (i := 264) rfl)
theorem k_265 : (cd_M_init : Cond) ∈ ALL := List.mem_append_left _ (List.mem_of_getElem? (i := 265) rfl)
theorem k_266 : (.methodLink "KeepHeapLaw" 12 y_M_init : Cond) ∈ ALL := List.mem_append_left _ (List.mem_of_getElem? (i := 266) rfl)
theorem k_267 : (.instanceMethod y_M_init : Cond) ∈ ALL := List.mem_append_left _ (List.mem_of_getElem? (i := 267) rfl)
theorem k_268 : (cd_K_make : Cond) ∈ ALL := List.mem_append_left _ (List.mem_of_getElem? (i := 268) rfl)
theorem k_269 : (.methodLink "KeepHeapLaw" 13 y_K_make : Cond) ∈ ALL := List.mem_append_left _ (List.mem_of_getElem? (i := 269) rfl)
theorem k_270 : (.instanceMethod y_K_make : Cond) ∈ ALL := List.mem_append_left _ (List.mem_of_getElem? (i := 270) rfl)
theorem k_271 : (.selects "KeepHeap" y_K_make y_K_make : Cond) ∈ ALL := List.mem_append_left _ (List.mem_of_getElem? (i := 271) rfl)
theorem k_272 : (cd_M_make : Cond) ∈ ALL := List.mem_append_left _ (List.mem_of_getElem? (i := 272) rfl)
theorem k_273 : (.methodLink "KeepHeapLaw" 17 y_M_make : Cond) ∈ ALL := List.mem_append_left _ (List.mem_of_getElem? (i := 273) rfl)
theorem k_274 : (.instanceMethod y_M_make : Cond) ∈ ALL := List.mem_append_left _ (List.mem_of_getElem? (i := 274) rfl)
theorem k_275 : (.selects "KeepHeapModel" y_M_make y_M_make : Cond) ∈ ALL := List.mem_append_left _ (List.mem_of_getElem? (i := 275) rfl)
theorem k_276 : (cd_K_set : Cond) ∈ ALL := List.mem_append_left _ (List.mem_of_getElem? (i := 276) rfl)
theorem k_277 : (.methodLink "KeepHeapLaw" 18 y_K_set : Cond) ∈ ALL := List.mem_append_left _ (List.mem_of_getElem? (i := 277) rfl)
theorem k_278 : (.instanceMethod y_K_set : Cond) ∈ ALL := List.mem_append_left _ (List.mem_of_getElem? (i := 278) rfl)
theorem k_279 : (.selects "KeepHeap" y_K_set y_K_set : Cond) ∈ ALL := List.mem_append_left _ (List.mem_of_getElem? (i := 279) rfl)
theorem k_280 : (cd_M_set : Cond) ∈ ALL := List.mem_append_left _ (List.mem_of_getElem? (i := 280) rfl)
theorem k_281 : (.methodLink "KeepHeapLaw" 22 y_M_set : Cond) ∈ ALL := List.mem_append_left _ (List.mem_of_getElem? (i := 281) rfl)
theorem k_282 : (.instanceMethod y_M_set : Cond) ∈ ALL := List.mem_append_left _ (List.mem_of_getElem? (i := 282) rfl)
theorem k_283 : (.selects "KeepHeapModel" y_M_set y_M_set : Cond) ∈ ALL := List.mem_append_left _ (List.mem_of_getElem? (i := 283) rfl)
theorem k_284 : (cd_K_get : Cond) ∈ ALL := List.mem_append_left _ (List.mem_of_getElem? (i := 284) rfl)
theorem k_285 : (.methodLink "KeepHeapLaw" 23 y_K_get : Cond) ∈ ALL := List.mem_append_left _ (List.mem_of_getElem? (i := 285) rfl)
theorem k_286 : (.instanceMethod y_K_get : Cond) ∈ ALL := List.mem_append_left _ (List.mem_of_getElem? (i := 286) rfl)
theorem k_287 : (.selects "KeepHeap" y_K_get y_K_get : Cond) ∈ ALL := List.mem_append_left _ (List.mem_of_getElem? (i := 287) rfl)
theorem k_288 : (cd_M_get : Cond) ∈ ALL := List.mem_append_left _ (List.mem_of_getElem? (i := 288) rfl)
theorem k_289 : (.methodLink "KeepHeapLaw" 27 y_M_get : Cond) ∈ ALL := List.mem_append_left _ (List.mem_of_getElem? (i := 289) rfl)
theorem k_290 : (.instanceMethod y_M_get : Cond) ∈ ALL := List.mem_append_left _ (List.mem_of_getElem? (i := 290) rfl)
theorem k_291 : (.selects "KeepHeapModel" y_M_get y_M_get : Cond) ∈ ALL := List.mem_append_left _ (List.mem_of_getElem? (i := 291) rfl)
theorem k_292 : (cd_K_push : Cond) ∈ ALL := List.mem_append_left _ (List.mem_of_getElem? (i := 292) rfl)
theorem k_293 : (.methodLink "KeepHeapLaw" 28 y_K_push : Cond) ∈ ALL := List.mem_append_left _ (List.mem_of_getElem? (i := 293) rfl)
theorem k_294 : (.instanceMethod y_K_push : Cond) ∈ ALL := List.mem_append_left _ (List.mem_of_getElem? (i := 294) rfl)
theorem k_295 : (.selects "KeepHeap" y_K_push y_K_push : Cond) ∈ ALL := List.mem_append_left _ (List.mem_of_getElem? (i := 295) rfl)
theorem k_296 : (cd_M_push : Cond) ∈ ALL := List.mem_append_left _ (List.mem_of_getElem? (i := 296) rfl)
theorem k_297 : (.methodLink "KeepHeapLaw" 32 y_M_push : Cond) ∈ ALL := List.mem_append_left _ (List.mem_of_getElem? (i := 297) rfl)
theorem k_298 : (.instanceMethod y_M_push : Cond) ∈ ALL := List.mem_append_left _ (List.mem_of_getElem? (i := 298) rfl)
theorem k_299 : (.selects "KeepHeapModel" y_M_push y_M_push : Cond) ∈ ALL := List.mem_append_left _ (List.mem_of_getElem? (i := 299) rfl)
theorem k_300 : (cd_K_pop : Cond) ∈ ALL := List.mem_append_left _ (List.mem_of_getElem? (i := 300) rfl)
theorem k_301 : (.methodLink "KeepHeapLaw" 33 y_K_pop : Cond) ∈ ALL := List.mem_append_left _ (List.mem_of_getElem? (i := 301) rfl)
theorem k_302 : (.instanceMethod y_K_pop : Cond) ∈ ALL := List.mem_append_left _ (List.mem_of_getElem? (i := 302) rfl)
theorem k_303 : (.selects "KeepHeap" y_K_pop y_K_pop : Cond) ∈ ALL := List.mem_append_left _ (List.mem_of_getElem? (i := 303) rfl)
theorem k_304 : (cd_M_pop : Cond) ∈ ALL := List.mem_append_left _ (List.mem_of_getElem? (i := 304) rfl)
theorem k_305 : (.methodLink "KeepHeapLaw" 37 y_M_pop : Cond) ∈ ALL := List.mem_append_left _ (List.mem_of_getElem? (i := 305) rfl)
theorem k_306 : (.instanceMethod y_M_pop : Cond) ∈ ALL := List.mem_append_left _ (List.mem_of_getElem? (i := 306) rfl)
theorem k_307 : (.selects "KeepHeapModel" y_M_pop y_M_pop : Cond) ∈ ALL := List.mem_append_left _ (List.mem_of_getElem? (i := 307) rfl)
theorem k_308 : (cd_K_put : Cond) ∈ ALL := List.mem_append_left _ (List.mem_of_getElem? (i := 308) rfl)
theorem k_309 : (.methodLink "KeepHeapLaw" 38 y_K_put : Cond) ∈ ALL := List.mem_append_left _ (List.mem_of_getElem? (i := 309) rfl)
theorem k_310 : (.instanceMethod y_K_put : Cond) ∈ ALL := List.mem_append_left _ (List.mem_of_getElem? (i := 310) rfl)
theorem k_311 : (.selects "KeepHeap" y_K_put y_K_put : Cond) ∈ ALL := List.mem_append_left _ (List.mem_of_getElem? (i := 311) rfl)
theorem k_312 : (cd_M_put : Cond) ∈ ALL := List.mem_append_left _ (List.mem_of_getElem? (i := 312) rfl)
theorem k_313 : (.methodLink "KeepHeapLaw" 41 y_M_put : Cond) ∈ ALL := List.mem_append_left _ (List.mem_of_getElem? (i := 313) rfl)
theorem k_314 : (.instanceMethod y_M_put : Cond) ∈ ALL := List.mem_append_left _ (List.mem_of_getElem? (i := 314) rfl)
theorem k_315 : (.selects "KeepHeapModel" y_M_put y_M_put : Cond) ∈ ALL := List.mem_append_left _ (List.mem_of_getElem? (i := 315) rfl)
theorem k_316 : (cd_K_item : Cond) ∈ ALL := List.mem_append_left _ (List.mem_of_getElem? (i := 316) rfl)
theorem k_317 : (.methodLink "KeepHeapLaw" 42 y_K_item : Cond) ∈ ALL := List.mem_append_left _ (List.mem_of_getElem? (i := 317) rfl)
theorem k_318 : (.instanceMethod y_K_item : Cond) ∈ ALL := List.mem_append_left _ (List.mem_of_getElem? (i := 318) rfl)
theorem k_319 : (.selects "KeepHeap" y_K_item y_K_item : Cond) ∈ ALL := List.mem_append_left _ (List.mem_of_getElem? (i := 319) rfl)
theorem k_320 : (cd_M_item : Cond) ∈ ALL := List.mem_append_left _ (List.mem_of_getElem? (i := 320) rfl)
theorem k_321 : (.methodLink "KeepHeapLaw" 45 y_M_item : Cond) ∈ ALL := List.mem_append_left _ (List.mem_of_getElem? (i := 321) rfl)
theorem k_322 : (.instanceMethod y_M_item : Cond) ∈ ALL := List.mem_append_left _ (List.mem_of_getElem? (i := 322) rfl)
theorem k_323 : (.selects "KeepHeapModel" y_M_item y_M_item : Cond) ∈ ALL := List.mem_append_left _ (List.mem_of_getElem? (i := 323) rfl)
theorem k_324 : (cd_K_root : Cond) ∈ ALL := List.mem_append_left _ (List.mem_of_getElem? (i := 324) rfl)
theorem k_325 : (.methodLink "KeepHeapLaw" 46 y_K_root : Cond) ∈ ALL := List.mem_append_left _ (List.mem_of_getElem? (i := 325) rfl)
theorem k_326 : (.instanceMethod y_K_root : Cond) ∈ ALL := List.mem_append_left _ (List.mem_of_getElem? (i := 326) rfl)
theorem k_327 : (.selects "KeepHeap" y_K_root y_K_root : Cond) ∈ ALL := List.mem_append_left _ (List.mem_of_getElem? (i := 327) rfl)
theorem k_328 : (cd_M_root : Cond) ∈ ALL := List.mem_append_left _ (List.mem_of_getElem? (i := 328) rfl)
theorem k_329 : (.methodLink "KeepHeapLaw" 49 y_M_root : Cond) ∈ ALL := List.mem_append_left _ (List.mem_of_getElem? (i := 329) rfl)
theorem k_330 : (.instanceMethod y_M_root : Cond) ∈ ALL := List.mem_append_left _ (List.mem_of_getElem? (i := 330) rfl)
theorem k_331 : (.selects "KeepHeapModel" y_M_root y_M_root : Cond) ∈ ALL := List.mem_append_left _ (List.mem_of_getElem? (i := 331) rfl)
theorem k_332 : (cd_K_rooted : Cond) ∈ ALL := List.mem_append_left _ (List.mem_of_getElem? (i := 332) rfl)
theorem k_333 : (.methodLink "KeepHeapLaw" 50 y_K_rooted : Cond) ∈ ALL := List.mem_append_left _ (List.mem_of_getElem? (i := 333) rfl)
theorem k_334 : (.instanceMethod y_K_rooted : Cond) ∈ ALL := List.mem_append_left _ (List.mem_of_getElem? (i := 334) rfl)
theorem k_335 : (.selects "KeepHeap" y_K_rooted y_K_rooted : Cond) ∈ ALL := List.mem_append_left _ (List.mem_of_getElem? (i := 335) rfl)
theorem k_336 : (cd_M_rooted : Cond) ∈ ALL := List.mem_append_left _ (List.mem_of_getElem? (i := 336) rfl)
theorem k_337 : (.methodLink "KeepHeapLaw" 53 y_M_rooted : Cond) ∈ ALL := List.mem_append_left _ (List.mem_of_getElem? (i := 337) rfl)
theorem k_338 : (.instanceMethod y_M_rooted : Cond) ∈ ALL := List.mem_append_left _ (List.mem_of_getElem? (i := 338) rfl)
theorem k_339 : (.selects "KeepHeapModel" y_M_rooted y_M_rooted : Cond) ∈ ALL := List.mem_append_left _ (List.mem_of_getElem? (i := 339) rfl)
theorem k_340 : (cd_K_commit : Cond) ∈ ALL := List.mem_append_left _ (List.mem_of_getElem? (i := 340) rfl)
theorem k_341 : (.methodLink "KeepHeapLaw" 54 y_K_commit : Cond) ∈ ALL := List.mem_append_left _ (List.mem_of_getElem? (i := 341) rfl)
theorem k_342 : (.instanceMethod y_K_commit : Cond) ∈ ALL := List.mem_append_left _ (List.mem_of_getElem? (i := 342) rfl)
theorem k_343 : (.selects "KeepHeap" y_K_commit y_K_commit : Cond) ∈ ALL := List.mem_append_left _ (List.mem_of_getElem? (i := 343) rfl)
theorem k_344 : (cd_M_commit : Cond) ∈ ALL := List.mem_append_left _ (List.mem_of_getElem? (i := 344) rfl)
theorem k_345 : (.methodLink "KeepHeapLaw" 58 y_M_commit : Cond) ∈ ALL := List.mem_append_left _ (List.mem_of_getElem? (i := 345) rfl)
theorem k_346 : (.instanceMethod y_M_commit : Cond) ∈ ALL := List.mem_append_left _ (List.mem_of_getElem? (i := 346) rfl)
theorem k_347 : (.selects "KeepHeapModel" y_M_commit y_M_commit : Cond) ∈ ALL := List.mem_append_left _ (List.mem_of_getElem? (i := 347) rfl)
theorem k_348 : (cd_K_undo : Cond) ∈ ALL := List.mem_append_left _ (List.mem_of_getElem? (i := 348) rfl)
theorem k_349 : (.methodLink "KeepHeapLaw" 59 y_K_undo : Cond) ∈ ALL := List.mem_append_left _ (List.mem_of_getElem? (i := 349) rfl)
theorem k_350 : (.instanceMethod y_K_undo : Cond) ∈ ALL := List.mem_append_left _ (List.mem_of_getElem? (i := 350) rfl)
theorem k_351 : (.selects "KeepHeap" y_K_undo y_K_undo : Cond) ∈ ALL := List.mem_append_left _ (List.mem_of_getElem? (i := 351) rfl)
theorem k_352 : (cd_M_undo : Cond) ∈ ALL := List.mem_append_left _ (List.mem_of_getElem? (i := 352) rfl)
theorem k_353 : (.methodLink "KeepHeapLaw" 62 y_M_undo : Cond) ∈ ALL := List.mem_append_left _ (List.mem_of_getElem? (i := 353) rfl)
theorem k_354 : (.instanceMethod y_M_undo : Cond) ∈ ALL := List.mem_append_left _ (List.mem_of_getElem? (i := 354) rfl)
theorem k_355 : (.selects "KeepHeapModel" y_M_undo y_M_undo : Cond) ∈ ALL := List.mem_append_left _ (List.mem_of_getElem? (i := 355) rfl)
theorem k_356 : (cd_K_sweep : Cond) ∈ ALL := List.mem_append_left _ (List.mem_of_getElem? (i := 356) rfl)
theorem k_357 : (.methodLink "KeepHeapLaw" 63 y_K_sweep : Cond) ∈ ALL := List.mem_append_left _ (List.mem_of_getElem? (i := 357) rfl)
theorem k_358 : (.instanceMethod y_K_sweep : Cond) ∈ ALL := List.mem_append_left _ (List.mem_of_getElem? (i := 358) rfl)
theorem k_359 : (.selects "KeepHeap" y_K_sweep y_K_sweep : Cond) ∈ ALL := List.mem_append_left _ (List.mem_of_getElem? (i := 359) rfl)
theorem k_360 : (cd_M_sweep : Cond) ∈ ALL := List.mem_append_left _ (List.mem_of_getElem? (i := 360) rfl)
theorem k_361 : (.methodLink "KeepHeapLaw" 66 y_M_sweep : Cond) ∈ ALL := List.mem_append_left _ (List.mem_of_getElem? (i := 361) rfl)
theorem k_362 : (.instanceMethod y_M_sweep : Cond) ∈ ALL := List.mem_append_left _ (List.mem_of_getElem? (i := 362) rfl)
theorem k_363 : (.selects "KeepHeapModel" y_M_sweep y_M_sweep : Cond) ∈ ALL := List.mem_append_left _ (List.mem_of_getElem? (i := 363) rfl)
theorem k_364 : (cd_K_sync : Cond) ∈ ALL := List.mem_append_left _ (List.mem_of_getElem? (i := 364) rfl)
theorem k_365 : (.methodLink "KeepHeapLaw" 67 y_K_sync : Cond) ∈ ALL := List.mem_append_left _ (List.mem_of_getElem? (i := 365) rfl)
theorem k_366 : (.instanceMethod y_K_sync : Cond) ∈ ALL := List.mem_append_left _ (List.mem_of_getElem? (i := 366) rfl)
theorem k_367 : (.selects "KeepHeap" y_K_sync y_K_sync : Cond) ∈ ALL := List.mem_append_left _ (List.mem_of_getElem? (i := 367) rfl)
theorem k_368 : (cd_M_sync : Cond) ∈ ALL := List.mem_append_left _ (List.mem_of_getElem? (i := 368) rfl)
theorem k_369 : (.methodLink "KeepHeapLaw" 70 y_M_sync : Cond) ∈ ALL := List.mem_append_left _ (List.mem_of_getElem? (i := 369) rfl)
theorem k_370 : (.instanceMethod y_M_sync : Cond) ∈ ALL := List.mem_append_left _ (List.mem_of_getElem? (i := 370) rfl)
theorem k_371 : (.selects "KeepHeapModel" y_M_sync y_M_sync : Cond) ∈ ALL := List.mem_append_left _ (List.mem_of_getElem? (i := 371) rfl)
theorem k_372 : (cd_K_crash : Cond) ∈ ALL := List.mem_append_left _ (List.mem_of_getElem? (i := 372) rfl)
theorem k_373 : (.methodLink "KeepHeapLaw" 71 y_K_crash : Cond) ∈ ALL := List.mem_append_left _ (List.mem_of_getElem? (i := 373) rfl)
theorem k_374 : (.instanceMethod y_K_crash : Cond) ∈ ALL := List.mem_append_left _ (List.mem_of_getElem? (i := 374) rfl)
theorem k_375 : (.selects "KeepHeap" y_K_crash y_K_crash : Cond) ∈ ALL := List.mem_append_left _ (List.mem_of_getElem? (i := 375) rfl)
theorem k_376 : (cd_M_crash : Cond) ∈ ALL := List.mem_append_left _ (List.mem_of_getElem? (i := 376) rfl)
theorem k_377 : (.methodLink "KeepHeapLaw" 75 y_M_crash : Cond) ∈ ALL := List.mem_append_left _ (List.mem_of_getElem? (i := 377) rfl)
theorem k_378 : (.instanceMethod y_M_crash : Cond) ∈ ALL := List.mem_append_left _ (List.mem_of_getElem? (i := 378) rfl)
theorem k_379 : (.selects "KeepHeapModel" y_M_crash y_M_crash : Cond) ∈ ALL := List.mem_append_left _ (List.mem_of_getElem? (i := 379) rfl)
theorem k_380 : (cd_K_kind : Cond) ∈ ALL := List.mem_append_left _ (List.mem_of_getElem? (i := 380) rfl)
theorem k_381 : (.methodLink "KeepHeapLaw" 76 y_K_kind : Cond) ∈ ALL := List.mem_append_left _ (List.mem_of_getElem? (i := 381) rfl)
theorem k_382 : (.instanceMethod y_K_kind : Cond) ∈ ALL := List.mem_append_left _ (List.mem_of_getElem? (i := 382) rfl)
theorem k_383 : (.selects "KeepHeap" y_K_kind y_K_kind : Cond) ∈ ALL := List.mem_append_left _ (List.mem_of_getElem? (i := 383) rfl)
theorem k_384 : (cd_M_kind : Cond) ∈ ALL := List.mem_append_left _ (List.mem_of_getElem? (i := 384) rfl)
theorem k_385 : (.methodLink "KeepHeapLaw" 79 y_M_kind : Cond) ∈ ALL := List.mem_append_left _ (List.mem_of_getElem? (i := 385) rfl)
theorem k_386 : (.instanceMethod y_M_kind : Cond) ∈ ALL := List.mem_append_left _ (List.mem_of_getElem? (i := 386) rfl)
theorem k_387 : (.selects "KeepHeapModel" y_M_kind y_M_kind : Cond) ∈ ALL := List.mem_append_left _ (List.mem_of_getElem? (i := 387) rfl)
theorem k_388 : (cd_K_size : Cond) ∈ ALL := List.mem_append_left _ (List.mem_of_getElem? (i := 388) rfl)
theorem k_389 : (.methodLink "KeepHeapLaw" 80 y_K_size : Cond) ∈ ALL := List.mem_append_left _ (List.mem_of_getElem? (i := 389) rfl)
theorem k_390 : (.instanceMethod y_K_size : Cond) ∈ ALL := List.mem_append_left _ (List.mem_of_getElem? (i := 390) rfl)
theorem k_391 : (.selects "KeepHeap" y_K_size y_K_size : Cond) ∈ ALL := List.mem_append_left _ (List.mem_of_getElem? (i := 391) rfl)
theorem k_392 : (cd_M_size : Cond) ∈ ALL := List.mem_append_left _ (List.mem_of_getElem? (i := 392) rfl)
theorem k_393 : (.methodLink "KeepHeapLaw" 83 y_M_size : Cond) ∈ ALL := List.mem_append_left _ (List.mem_of_getElem? (i := 393) rfl)
theorem k_394 : (.instanceMethod y_M_size : Cond) ∈ ALL := List.mem_append_left _ (List.mem_of_getElem? (i := 394) rfl)
theorem k_395 : (.selects "KeepHeapModel" y_M_size y_M_size : Cond) ∈ ALL := List.mem_append_left _ (List.mem_of_getElem? (i := 395) rfl)
theorem k_396 : (cd_K_count : Cond) ∈ ALL := List.mem_append_left _ (List.mem_of_getElem? (i := 396) rfl)
theorem k_397 : (.methodLink "KeepHeapLaw" 84 y_K_count : Cond) ∈ ALL := List.mem_append_left _ (List.mem_of_getElem? (i := 397) rfl)
theorem k_398 : (.instanceMethod y_K_count : Cond) ∈ ALL := List.mem_append_left _ (List.mem_of_getElem? (i := 398) rfl)
theorem k_399 : (.selects "KeepHeap" y_K_count y_K_count : Cond) ∈ ALL := List.mem_append_left _ (List.mem_of_getElem? (i := 399) rfl)
theorem k_400 : (cd_M_count : Cond) ∈ ALL := List.mem_append_left _ (List.mem_of_getElem? (i := 400) rfl)
theorem k_401 : (.methodLink "KeepHeapLaw" 87 y_M_count : Cond) ∈ ALL := List.mem_append_left _ (List.mem_of_getElem? (i := 401) rfl)
theorem k_402 : (.instanceMethod y_M_count : Cond) ∈ ALL := List.mem_append_left _ (List.mem_of_getElem? (i := 402) rfl)
theorem k_403 : (.selects "KeepHeapModel" y_M_count y_M_count : Cond) ∈ ALL := List.mem_append_left _ (List.mem_of_getElem? (i := 403) rfl)
theorem in_0 (c : Cond) : ∀ w ∈ u_ws "KeepHeap" F_0 7, w ∈ c :: ALL := fun w h => List.mem_cons_of_mem _ (List.mem_append_right _ (List.mem_append_left _ h))
theorem in_1 (c : Cond) : ∀ w ∈ u_ws "KeepHeap$Slots" F_1 4, w ∈ c :: ALL := fun w h => List.mem_cons_of_mem _ (List.mem_append_right _ (List.mem_append_right _ (List.mem_append_left _ h)))
theorem in_2 (c : Cond) : ∀ w ∈ u_ws "KeepHeap$State" F_2 2, w ∈ c :: ALL := fun w h => List.mem_cons_of_mem _ (List.mem_append_right _ (List.mem_append_right _ (List.mem_append_right _ (List.mem_append_left _ h))))
theorem in_3 (c : Cond) : ∀ w ∈ u_ws "KeepHeap$Reach" F_3 3, w ∈ c :: ALL := fun w h => List.mem_cons_of_mem _ (List.mem_append_right _ (List.mem_append_right _ (List.mem_append_right _ (List.mem_append_right _ (List.mem_append_left _ h)))))
theorem in_4 (c : Cond) : ∀ w ∈ u_ws "KeepHeapModel" F_4 8, w ∈ c :: ALL := fun w h => List.mem_cons_of_mem _ (List.mem_append_right _ (List.mem_append_right _ (List.mem_append_right _ (List.mem_append_right _ (List.mem_append_right _ (List.mem_append_left _ h))))))
theorem in_5 (c : Cond) : ∀ w ∈ u_ws "KeepHeapModel$State" F_5 8, w ∈ c :: ALL := fun w h => List.mem_cons_of_mem _ (List.mem_append_right _ (List.mem_append_right _ (List.mem_append_right _ (List.mem_append_right _ (List.mem_append_right _ (List.mem_append_right _ h))))))
theorem mA {c w : Cond} (h : w ∈ ALL) : w ∈ c :: ALL := List.mem_cons_of_mem _ h
theorem gd_w : ALL.all goodWord = true := by decide +kernel
theorem gd_a {c w : Cond} (h : w ∈ ALL) : w ∈ c :: ALL ∧ ((w.onTables && w.keeps) = true ∨ ∃ ty, w = .arrayClass ty) := ⟨mA h, good_of_word (List.all_eq_true.mp gd_w w h)⟩
theorem gd_I {c1 c2 : Cond} (h : c2 ∈ ALL) : GoodIn (c1 :: ALL) (c2 :: ALL) := fun w hw => by
  rcases List.mem_cons.mp hw with rfl | hw
  · exact gd_a h
  · exact gd_a hw
theorem gd_V {c1 c2 : Cond} {own C : String} {idx : Nat} {y : MethodName} (h : c2 ∈ ALL) (h1 : Cond.methodLink own idx y ∈ ALL) (h2 : Cond.instanceMethod y ∈ ALL) (h3 : Cond.selects C y y ∈ ALL) (h4 : Cond.initialized C ∈ ALL) : GoodIn (c1 :: ALL) (wsV own idx C y (c2 :: ALL)) := fun w hw => by
  rcases List.mem_append.mp hw with hw | hw
  · rcases List.mem_cons.mp hw with rfl | hw
    · exact gd_a h1
    · rcases List.mem_cons.mp hw with rfl | hw
      · exact gd_a h2
      · rcases List.mem_cons.mp hw with rfl | hw
        · exact gd_a h3
        · rcases List.mem_cons.mp hw with rfl | hw
          · exact gd_a h4
          · cases hw
  · exact gd_I h w hw
theorem gd_S {c1 c2 : Cond} {own : String} {idx : Nat} {y : MethodName} (h : c2 ∈ ALL) (h1 : Cond.methodLink own idx y ∈ ALL) (h2 : Cond.static y ∈ ALL) (h3 : Cond.initialized own ∈ ALL) : GoodIn (c1 :: ALL) (wsS own idx y (c2 :: ALL)) := fun w hw => by
  rcases List.mem_append.mp hw with hw | hw
  · rcases List.mem_cons.mp hw with rfl | hw
    · exact gd_a h1
    · rcases List.mem_cons.mp hw with rfl | hw
      · exact gd_a h2
      · rcases List.mem_cons.mp hw with rfl | hw
        · exact gd_a h3
        · cases hw
  · exact gd_I h w hw
theorem hd_R_init : y_R_init.cls ≠ "java/lang/invoke/MethodHandle" ∧ y_R_init.cls ≠ "java/lang/invoke/VarHandle" ∧ (parseMethodDescriptor y_R_init.desc).map (fun d => d.parameters.length) = some 0 := by decide +kernel
theorem hd_S_init : y_S_init.cls ≠ "java/lang/invoke/MethodHandle" ∧ y_S_init.cls ≠ "java/lang/invoke/VarHandle" ∧ (parseMethodDescriptor y_S_init.desc).map (fun d => d.parameters.length) = some 2 := by decide +kernel
theorem hd_T_init : y_T_init.cls ≠ "java/lang/invoke/MethodHandle" ∧ y_T_init.cls ≠ "java/lang/invoke/VarHandle" ∧ (parseMethodDescriptor y_T_init.desc).map (fun d => d.parameters.length) = some 1 := by decide +kernel
theorem hd_K_init : y_K_init.cls ≠ "java/lang/invoke/MethodHandle" ∧ y_K_init.cls ≠ "java/lang/invoke/VarHandle" ∧ (parseMethodDescriptor y_K_init.desc).map (fun d => d.parameters.length) = some 0 := by decide +kernel
theorem hd_N_init : y_N_init.cls ≠ "java/lang/invoke/MethodHandle" ∧ y_N_init.cls ≠ "java/lang/invoke/VarHandle" ∧ (parseMethodDescriptor y_N_init.desc).map (fun d => d.parameters.length) = some 0 := by decide +kernel
theorem hd_M_init : y_M_init.cls ≠ "java/lang/invoke/MethodHandle" ∧ y_M_init.cls ≠ "java/lang/invoke/VarHandle" ∧ (parseMethodDescriptor y_M_init.desc).map (fun d => d.parameters.length) = some 0 := by decide +kernel
theorem hd_K_make : y_K_make.cls = "KeepHeap" ∧ y_K_make.cls ≠ "java/lang/invoke/MethodHandle" ∧ y_K_make.cls ≠ "java/lang/invoke/VarHandle" ∧ (parseMethodDescriptor y_K_make.desc).map (fun d => d.parameters.length) = some 1 := by decide +kernel
theorem hd_M_make : y_M_make.cls = "KeepHeapModel" ∧ y_M_make.cls ≠ "java/lang/invoke/MethodHandle" ∧ y_M_make.cls ≠ "java/lang/invoke/VarHandle" ∧ (parseMethodDescriptor y_M_make.desc).map (fun d => d.parameters.length) = some 1 := by decide +kernel
theorem hd_T_has : y_T_has.cls = "KeepHeap$State" ∧ y_T_has.cls ≠ "java/lang/invoke/MethodHandle" ∧ y_T_has.cls ≠ "java/lang/invoke/VarHandle" ∧ (parseMethodDescriptor y_T_has.desc).map (fun d => d.parameters.length) = some 1 := by decide +kernel
theorem hd_K_valueOf : y_K_valueOf.cls = "KeepHeap" ∧ y_K_valueOf.cls ≠ "java/lang/invoke/MethodHandle" ∧ y_K_valueOf.cls ≠ "java/lang/invoke/VarHandle" ∧ (parseMethodDescriptor y_K_valueOf.desc).map (fun d => d.parameters.length) = some 2 := by decide +kernel
theorem hd_T_find : y_T_find.cls = "KeepHeap$State" ∧ y_T_find.cls ≠ "java/lang/invoke/MethodHandle" ∧ y_T_find.cls ≠ "java/lang/invoke/VarHandle" ∧ (parseMethodDescriptor y_T_find.desc).map (fun d => d.parameters.length) = some 2 := by decide +kernel
theorem hd_K_ringIndex : y_K_ringIndex.cls = "KeepHeap" ∧ y_K_ringIndex.cls ≠ "java/lang/invoke/MethodHandle" ∧ y_K_ringIndex.cls ≠ "java/lang/invoke/VarHandle" ∧ (parseMethodDescriptor y_K_ringIndex.desc).map (fun d => d.parameters.length) = some 1 := by decide +kernel
theorem hd_K_kept : y_K_kept.cls = "KeepHeap" ∧ y_K_kept.cls ≠ "java/lang/invoke/MethodHandle" ∧ y_K_kept.cls ≠ "java/lang/invoke/VarHandle" ∧ (parseMethodDescriptor y_K_kept.desc).map (fun d => d.parameters.length) = some 0 := by decide +kernel
theorem hd_S_twin : y_S_twin.cls = "KeepHeap$Slots" ∧ y_S_twin.cls ≠ "java/lang/invoke/MethodHandle" ∧ y_S_twin.cls ≠ "java/lang/invoke/VarHandle" ∧ (parseMethodDescriptor y_S_twin.desc).map (fun d => d.parameters.length) = some 0 := by decide +kernel
theorem hd_K_own : y_K_own.cls = "KeepHeap" ∧ y_K_own.cls ≠ "java/lang/invoke/MethodHandle" ∧ y_K_own.cls ≠ "java/lang/invoke/VarHandle" ∧ (parseMethodDescriptor y_K_own.desc).map (fun d => d.parameters.length) = some 2 := by decide +kernel
theorem hd_S_placeOf : y_S_placeOf.cls = "KeepHeap$Slots" ∧ y_S_placeOf.cls ≠ "java/lang/invoke/MethodHandle" ∧ y_S_placeOf.cls ≠ "java/lang/invoke/VarHandle" ∧ (parseMethodDescriptor y_S_placeOf.desc).map (fun d => d.parameters.length) = some 1 := by decide +kernel
theorem hd_S_holds : y_S_holds.cls = "KeepHeap$Slots" ∧ y_S_holds.cls ≠ "java/lang/invoke/MethodHandle" ∧ y_S_holds.cls ≠ "java/lang/invoke/VarHandle" ∧ (parseMethodDescriptor y_S_holds.desc).map (fun d => d.parameters.length) = some 1 := by decide +kernel
theorem hd_S_removeAt : y_S_removeAt.cls = "KeepHeap$Slots" ∧ y_S_removeAt.cls ≠ "java/lang/invoke/MethodHandle" ∧ y_S_removeAt.cls ≠ "java/lang/invoke/VarHandle" ∧ (parseMethodDescriptor y_S_removeAt.desc).map (fun d => d.parameters.length) = some 1 := by decide +kernel
theorem hd_S_append : y_S_append.cls = "KeepHeap$Slots" ∧ y_S_append.cls ≠ "java/lang/invoke/MethodHandle" ∧ y_S_append.cls ≠ "java/lang/invoke/VarHandle" ∧ (parseMethodDescriptor y_S_append.desc).map (fun d => d.parameters.length) = some 2 := by decide +kernel
theorem hd_S_assign : y_S_assign.cls = "KeepHeap$Slots" ∧ y_S_assign.cls ≠ "java/lang/invoke/MethodHandle" ∧ y_S_assign.cls ≠ "java/lang/invoke/VarHandle" ∧ (parseMethodDescriptor y_S_assign.desc).map (fun d => d.parameters.length) = some 2 := by decide +kernel
theorem hd_K_set : y_K_set.cls = "KeepHeap" ∧ y_K_set.cls ≠ "java/lang/invoke/MethodHandle" ∧ y_K_set.cls ≠ "java/lang/invoke/VarHandle" ∧ (parseMethodDescriptor y_K_set.desc).map (fun d => d.parameters.length) = some 4 := by decide +kernel
theorem hd_M_in : y_M_in.cls = "KeepHeapModel" ∧ y_M_in.cls ≠ "java/lang/invoke/MethodHandle" ∧ y_M_in.cls ≠ "java/lang/invoke/VarHandle" ∧ (parseMethodDescriptor y_M_in.desc).map (fun d => d.parameters.length) = some 3 := by decide +kernel
theorem hd_M_is : y_M_is.cls = "KeepHeapModel" ∧ y_M_is.cls ≠ "java/lang/invoke/MethodHandle" ∧ y_M_is.cls ≠ "java/lang/invoke/VarHandle" ∧ (parseMethodDescriptor y_M_is.desc).map (fun d => d.parameters.length) = some 2 := by decide +kernel
theorem hd_M_isThere : y_M_isThere.cls = "KeepHeapModel" ∧ y_M_isThere.cls ≠ "java/lang/invoke/MethodHandle" ∧ y_M_isThere.cls ≠ "java/lang/invoke/VarHandle" ∧ (parseMethodDescriptor y_M_isThere.desc).map (fun d => d.parameters.length) = some 1 := by decide +kernel
theorem hd_M_isValue : y_M_isValue.cls = "KeepHeapModel" ∧ y_M_isValue.cls ≠ "java/lang/invoke/MethodHandle" ∧ y_M_isValue.cls ≠ "java/lang/invoke/VarHandle" ∧ (parseMethodDescriptor y_M_isValue.desc).map (fun d => d.parameters.length) = some 2 := by decide +kernel
theorem hd_N_findField : y_N_findField.cls = "KeepHeapModel$State" ∧ y_N_findField.cls ≠ "java/lang/invoke/MethodHandle" ∧ y_N_findField.cls ≠ "java/lang/invoke/VarHandle" ∧ (parseMethodDescriptor y_N_findField.desc).map (fun d => d.parameters.length) = some 2 := by decide +kernel
theorem hd_M_value : y_M_value.cls = "KeepHeapModel" ∧ y_M_value.cls ≠ "java/lang/invoke/MethodHandle" ∧ y_M_value.cls ≠ "java/lang/invoke/VarHandle" ∧ (parseMethodDescriptor y_M_value.desc).map (fun d => d.parameters.length) = some 2 := by decide +kernel
theorem hd_M_set : y_M_set.cls = "KeepHeapModel" ∧ y_M_set.cls ≠ "java/lang/invoke/MethodHandle" ∧ y_M_set.cls ≠ "java/lang/invoke/VarHandle" ∧ (parseMethodDescriptor y_M_set.desc).map (fun d => d.parameters.length) = some 4 := by decide +kernel
theorem hd_S_named : y_S_named.cls = "KeepHeap$Slots" ∧ y_S_named.cls ≠ "java/lang/invoke/MethodHandle" ∧ y_S_named.cls ≠ "java/lang/invoke/VarHandle" ∧ (parseMethodDescriptor y_S_named.desc).map (fun d => d.parameters.length) = some 1 := by decide +kernel
theorem hd_K_get : y_K_get.cls = "KeepHeap" ∧ y_K_get.cls ≠ "java/lang/invoke/MethodHandle" ∧ y_K_get.cls ≠ "java/lang/invoke/VarHandle" ∧ (parseMethodDescriptor y_K_get.desc).map (fun d => d.parameters.length) = some 2 := by decide +kernel
theorem hd_M_get : y_M_get.cls = "KeepHeapModel" ∧ y_M_get.cls ≠ "java/lang/invoke/MethodHandle" ∧ y_M_get.cls ≠ "java/lang/invoke/VarHandle" ∧ (parseMethodDescriptor y_M_get.desc).map (fun d => d.parameters.length) = some 2 := by decide +kernel
theorem hd_K_push : y_K_push.cls = "KeepHeap" ∧ y_K_push.cls ≠ "java/lang/invoke/MethodHandle" ∧ y_K_push.cls ≠ "java/lang/invoke/VarHandle" ∧ (parseMethodDescriptor y_K_push.desc).map (fun d => d.parameters.length) = some 3 := by decide +kernel
theorem hd_M_push : y_M_push.cls = "KeepHeapModel" ∧ y_M_push.cls ≠ "java/lang/invoke/MethodHandle" ∧ y_M_push.cls ≠ "java/lang/invoke/VarHandle" ∧ (parseMethodDescriptor y_M_push.desc).map (fun d => d.parameters.length) = some 3 := by decide +kernel
theorem hd_S_takeLast : y_S_takeLast.cls = "KeepHeap$Slots" ∧ y_S_takeLast.cls ≠ "java/lang/invoke/MethodHandle" ∧ y_S_takeLast.cls ≠ "java/lang/invoke/VarHandle" ∧ (parseMethodDescriptor y_S_takeLast.desc).map (fun d => d.parameters.length) = some 0 := by decide +kernel
theorem hd_K_pop : y_K_pop.cls = "KeepHeap" ∧ y_K_pop.cls ≠ "java/lang/invoke/MethodHandle" ∧ y_K_pop.cls ≠ "java/lang/invoke/VarHandle" ∧ (parseMethodDescriptor y_K_pop.desc).map (fun d => d.parameters.length) = some 1 := by decide +kernel
theorem hd_M_pop : y_M_pop.cls = "KeepHeapModel" ∧ y_M_pop.cls ≠ "java/lang/invoke/MethodHandle" ∧ y_M_pop.cls ≠ "java/lang/invoke/VarHandle" ∧ (parseMethodDescriptor y_M_pop.desc).map (fun d => d.parameters.length) = some 1 := by decide +kernel
theorem hd_K_put : y_K_put.cls = "KeepHeap" ∧ y_K_put.cls ≠ "java/lang/invoke/MethodHandle" ∧ y_K_put.cls ≠ "java/lang/invoke/VarHandle" ∧ (parseMethodDescriptor y_K_put.desc).map (fun d => d.parameters.length) = some 4 := by decide +kernel
theorem hd_M_put : y_M_put.cls = "KeepHeapModel" ∧ y_M_put.cls ≠ "java/lang/invoke/MethodHandle" ∧ y_M_put.cls ≠ "java/lang/invoke/VarHandle" ∧ (parseMethodDescriptor y_M_put.desc).map (fun d => d.parameters.length) = some 4 := by decide +kernel
theorem hd_K_item : y_K_item.cls = "KeepHeap" ∧ y_K_item.cls ≠ "java/lang/invoke/MethodHandle" ∧ y_K_item.cls ≠ "java/lang/invoke/VarHandle" ∧ (parseMethodDescriptor y_K_item.desc).map (fun d => d.parameters.length) = some 2 := by decide +kernel
theorem hd_M_item : y_M_item.cls = "KeepHeapModel" ∧ y_M_item.cls ≠ "java/lang/invoke/MethodHandle" ∧ y_M_item.cls ≠ "java/lang/invoke/VarHandle" ∧ (parseMethodDescriptor y_M_item.desc).map (fun d => d.parameters.length) = some 2 := by decide +kernel
theorem hd_K_ownRoots : y_K_ownRoots.cls = "KeepHeap" ∧ y_K_ownRoots.cls ≠ "java/lang/invoke/MethodHandle" ∧ y_K_ownRoots.cls ≠ "java/lang/invoke/VarHandle" ∧ (parseMethodDescriptor y_K_ownRoots.desc).map (fun d => d.parameters.length) = some 0 := by decide +kernel
theorem hd_K_root : y_K_root.cls = "KeepHeap" ∧ y_K_root.cls ≠ "java/lang/invoke/MethodHandle" ∧ y_K_root.cls ≠ "java/lang/invoke/VarHandle" ∧ (parseMethodDescriptor y_K_root.desc).map (fun d => d.parameters.length) = some 3 := by decide +kernel
theorem hd_N_findRoot : y_N_findRoot.cls = "KeepHeapModel$State" ∧ y_N_findRoot.cls ≠ "java/lang/invoke/MethodHandle" ∧ y_N_findRoot.cls ≠ "java/lang/invoke/VarHandle" ∧ (parseMethodDescriptor y_N_findRoot.desc).map (fun d => d.parameters.length) = some 1 := by decide +kernel
theorem hd_M_root : y_M_root.cls = "KeepHeapModel" ∧ y_M_root.cls ≠ "java/lang/invoke/MethodHandle" ∧ y_M_root.cls ≠ "java/lang/invoke/VarHandle" ∧ (parseMethodDescriptor y_M_root.desc).map (fun d => d.parameters.length) = some 3 := by decide +kernel
theorem hd_K_rooted : y_K_rooted.cls = "KeepHeap" ∧ y_K_rooted.cls ≠ "java/lang/invoke/MethodHandle" ∧ y_K_rooted.cls ≠ "java/lang/invoke/VarHandle" ∧ (parseMethodDescriptor y_K_rooted.desc).map (fun d => d.parameters.length) = some 1 := by decide +kernel
theorem hd_M_rooted : y_M_rooted.cls = "KeepHeapModel" ∧ y_M_rooted.cls ≠ "java/lang/invoke/MethodHandle" ∧ y_M_rooted.cls ≠ "java/lang/invoke/VarHandle" ∧ (parseMethodDescriptor y_M_rooted.desc).map (fun d => d.parameters.length) = some 1 := by decide +kernel
theorem hd_S_sameAs : y_S_sameAs.cls = "KeepHeap$Slots" ∧ y_S_sameAs.cls ≠ "java/lang/invoke/MethodHandle" ∧ y_S_sameAs.cls ≠ "java/lang/invoke/VarHandle" ∧ (parseMethodDescriptor y_S_sameAs.desc).map (fun d => d.parameters.length) = some 1 := by decide +kernel
theorem hd_S_namesChangedFrom : y_S_namesChangedFrom.cls = "KeepHeap$Slots" ∧ y_S_namesChangedFrom.cls ≠ "java/lang/invoke/MethodHandle" ∧ y_S_namesChangedFrom.cls ≠ "java/lang/invoke/VarHandle" ∧ (parseMethodDescriptor y_S_namesChangedFrom.desc).map (fun d => d.parameters.length) = some 1 := by decide +kernel
theorem hd_K_changedBytes : y_K_changedBytes.cls = "KeepHeap" ∧ y_K_changedBytes.cls ≠ "java/lang/invoke/MethodHandle" ∧ y_K_changedBytes.cls ≠ "java/lang/invoke/VarHandle" ∧ (parseMethodDescriptor y_K_changedBytes.desc).map (fun d => d.parameters.length) = some 0 := by decide +kernel
theorem hd_T_become : y_T_become.cls = "KeepHeap$State" ∧ y_T_become.cls ≠ "java/lang/invoke/MethodHandle" ∧ y_T_become.cls ≠ "java/lang/invoke/VarHandle" ∧ (parseMethodDescriptor y_T_become.desc).map (fun d => d.parameters.length) = some 1 := by decide +kernel
theorem hd_K_keepNow : y_K_keepNow.cls = "KeepHeap" ∧ y_K_keepNow.cls ≠ "java/lang/invoke/MethodHandle" ∧ y_K_keepNow.cls ≠ "java/lang/invoke/VarHandle" ∧ (parseMethodDescriptor y_K_keepNow.desc).map (fun d => d.parameters.length) = some 1 := by decide +kernel
theorem hd_K_commit : y_K_commit.cls = "KeepHeap" ∧ y_K_commit.cls ≠ "java/lang/invoke/MethodHandle" ∧ y_K_commit.cls ≠ "java/lang/invoke/VarHandle" ∧ (parseMethodDescriptor y_K_commit.desc).map (fun d => d.parameters.length) = some 0 := by decide +kernel
theorem hd_N_isSame : y_N_isSame.cls = "KeepHeapModel$State" ∧ y_N_isSame.cls ≠ "java/lang/invoke/MethodHandle" ∧ y_N_isSame.cls ≠ "java/lang/invoke/VarHandle" ∧ (parseMethodDescriptor y_N_isSame.desc).map (fun d => d.parameters.length) = some 2 := by decide +kernel
theorem hd_N_bytesBehind : y_N_bytesBehind.cls = "KeepHeapModel$State" ∧ y_N_bytesBehind.cls ≠ "java/lang/invoke/MethodHandle" ∧ y_N_bytesBehind.cls ≠ "java/lang/invoke/VarHandle" ∧ (parseMethodDescriptor y_N_bytesBehind.desc).map (fun d => d.parameters.length) = some 1 := by decide +kernel
theorem hd_N_copy : y_N_copy.cls = "KeepHeapModel$State" ∧ y_N_copy.cls ≠ "java/lang/invoke/MethodHandle" ∧ y_N_copy.cls ≠ "java/lang/invoke/VarHandle" ∧ (parseMethodDescriptor y_N_copy.desc).map (fun d => d.parameters.length) = some 1 := by decide +kernel
theorem hd_M_keep : y_M_keep.cls = "KeepHeapModel" ∧ y_M_keep.cls ≠ "java/lang/invoke/MethodHandle" ∧ y_M_keep.cls ≠ "java/lang/invoke/VarHandle" ∧ (parseMethodDescriptor y_M_keep.desc).map (fun d => d.parameters.length) = some 1 := by decide +kernel
theorem hd_M_commit : y_M_commit.cls = "KeepHeapModel" ∧ y_M_commit.cls ≠ "java/lang/invoke/MethodHandle" ∧ y_M_commit.cls ≠ "java/lang/invoke/VarHandle" ∧ (parseMethodDescriptor y_M_commit.desc).map (fun d => d.parameters.length) = some 0 := by decide +kernel
theorem hd_K_undo : y_K_undo.cls = "KeepHeap" ∧ y_K_undo.cls ≠ "java/lang/invoke/MethodHandle" ∧ y_K_undo.cls ≠ "java/lang/invoke/VarHandle" ∧ (parseMethodDescriptor y_K_undo.desc).map (fun d => d.parameters.length) = some 0 := by decide +kernel
theorem hd_M_undo : y_M_undo.cls = "KeepHeapModel" ∧ y_M_undo.cls ≠ "java/lang/invoke/MethodHandle" ∧ y_M_undo.cls ≠ "java/lang/invoke/VarHandle" ∧ (parseMethodDescriptor y_M_undo.desc).map (fun d => d.parameters.length) = some 0 := by decide +kernel
theorem hd_R_enqueue : y_R_enqueue.cls = "KeepHeap$Reach" ∧ y_R_enqueue.cls ≠ "java/lang/invoke/MethodHandle" ∧ y_R_enqueue.cls ≠ "java/lang/invoke/VarHandle" ∧ (parseMethodDescriptor y_R_enqueue.desc).map (fun d => d.parameters.length) = some 1 := by decide +kernel
theorem hd_R_enqueueAll : y_R_enqueueAll.cls = "KeepHeap$Reach" ∧ y_R_enqueueAll.cls ≠ "java/lang/invoke/MethodHandle" ∧ y_R_enqueueAll.cls ≠ "java/lang/invoke/VarHandle" ∧ (parseMethodDescriptor y_R_enqueueAll.desc).map (fun d => d.parameters.length) = some 1 := by decide +kernel
theorem hd_R_walk : y_R_walk.cls = "KeepHeap$Reach" ∧ y_R_walk.cls ≠ "java/lang/invoke/MethodHandle" ∧ y_R_walk.cls ≠ "java/lang/invoke/VarHandle" ∧ (parseMethodDescriptor y_R_walk.desc).map (fun d => d.parameters.length) = some 1 := by decide +kernel
theorem hd_R_dropUnreached : y_R_dropUnreached.cls = "KeepHeap$Reach" ∧ y_R_dropUnreached.cls ≠ "java/lang/invoke/MethodHandle" ∧ y_R_dropUnreached.cls ≠ "java/lang/invoke/VarHandle" ∧ (parseMethodDescriptor y_R_dropUnreached.desc).map (fun d => d.parameters.length) = some 1 := by decide +kernel
theorem hd_K_sweep : y_K_sweep.cls = "KeepHeap" ∧ y_K_sweep.cls ≠ "java/lang/invoke/MethodHandle" ∧ y_K_sweep.cls ≠ "java/lang/invoke/VarHandle" ∧ (parseMethodDescriptor y_K_sweep.desc).map (fun d => d.parameters.length) = some 0 := by decide +kernel
theorem hd_M_reach : y_M_reach.cls = "KeepHeapModel" ∧ y_M_reach.cls ≠ "java/lang/invoke/MethodHandle" ∧ y_M_reach.cls ≠ "java/lang/invoke/VarHandle" ∧ (parseMethodDescriptor y_M_reach.desc).map (fun d => d.parameters.length) = some 2 := by decide +kernel
theorem hd_M_sweep : y_M_sweep.cls = "KeepHeapModel" ∧ y_M_sweep.cls ≠ "java/lang/invoke/MethodHandle" ∧ y_M_sweep.cls ≠ "java/lang/invoke/VarHandle" ∧ (parseMethodDescriptor y_M_sweep.desc).map (fun d => d.parameters.length) = some 0 := by decide +kernel
theorem hd_K_sync : y_K_sync.cls = "KeepHeap" ∧ y_K_sync.cls ≠ "java/lang/invoke/MethodHandle" ∧ y_K_sync.cls ≠ "java/lang/invoke/VarHandle" ∧ (parseMethodDescriptor y_K_sync.desc).map (fun d => d.parameters.length) = some 0 := by decide +kernel
theorem hd_M_sync : y_M_sync.cls = "KeepHeapModel" ∧ y_M_sync.cls ≠ "java/lang/invoke/MethodHandle" ∧ y_M_sync.cls ≠ "java/lang/invoke/VarHandle" ∧ (parseMethodDescriptor y_M_sync.desc).map (fun d => d.parameters.length) = some 0 := by decide +kernel
theorem hd_K_entriesWithin : y_K_entriesWithin.cls = "KeepHeap" ∧ y_K_entriesWithin.cls ≠ "java/lang/invoke/MethodHandle" ∧ y_K_entriesWithin.cls ≠ "java/lang/invoke/VarHandle" ∧ (parseMethodDescriptor y_K_entriesWithin.desc).map (fun d => d.parameters.length) = some 1 := by decide +kernel
theorem hd_K_crash : y_K_crash.cls = "KeepHeap" ∧ y_K_crash.cls ≠ "java/lang/invoke/MethodHandle" ∧ y_K_crash.cls ≠ "java/lang/invoke/VarHandle" ∧ (parseMethodDescriptor y_K_crash.desc).map (fun d => d.parameters.length) = some 1 := by decide +kernel
theorem hd_M_crash : y_M_crash.cls = "KeepHeapModel" ∧ y_M_crash.cls ≠ "java/lang/invoke/MethodHandle" ∧ y_M_crash.cls ≠ "java/lang/invoke/VarHandle" ∧ (parseMethodDescriptor y_M_crash.desc).map (fun d => d.parameters.length) = some 1 := by decide +kernel
theorem hd_K_kind : y_K_kind.cls = "KeepHeap" ∧ y_K_kind.cls ≠ "java/lang/invoke/MethodHandle" ∧ y_K_kind.cls ≠ "java/lang/invoke/VarHandle" ∧ (parseMethodDescriptor y_K_kind.desc).map (fun d => d.parameters.length) = some 1 := by decide +kernel
theorem hd_M_kind : y_M_kind.cls = "KeepHeapModel" ∧ y_M_kind.cls ≠ "java/lang/invoke/MethodHandle" ∧ y_M_kind.cls ≠ "java/lang/invoke/VarHandle" ∧ (parseMethodDescriptor y_M_kind.desc).map (fun d => d.parameters.length) = some 1 := by decide +kernel
theorem hd_K_size : y_K_size.cls = "KeepHeap" ∧ y_K_size.cls ≠ "java/lang/invoke/MethodHandle" ∧ y_K_size.cls ≠ "java/lang/invoke/VarHandle" ∧ (parseMethodDescriptor y_K_size.desc).map (fun d => d.parameters.length) = some 1 := by decide +kernel
theorem hd_M_size : y_M_size.cls = "KeepHeapModel" ∧ y_M_size.cls ≠ "java/lang/invoke/MethodHandle" ∧ y_M_size.cls ≠ "java/lang/invoke/VarHandle" ∧ (parseMethodDescriptor y_M_size.desc).map (fun d => d.parameters.length) = some 1 := by decide +kernel
theorem hd_T_objectsThere : y_T_objectsThere.cls = "KeepHeap$State" ∧ y_T_objectsThere.cls ≠ "java/lang/invoke/MethodHandle" ∧ y_T_objectsThere.cls ≠ "java/lang/invoke/VarHandle" ∧ (parseMethodDescriptor y_T_objectsThere.desc).map (fun d => d.parameters.length) = some 0 := by decide +kernel
theorem hd_K_count : y_K_count.cls = "KeepHeap" ∧ y_K_count.cls ≠ "java/lang/invoke/MethodHandle" ∧ y_K_count.cls ≠ "java/lang/invoke/VarHandle" ∧ (parseMethodDescriptor y_K_count.desc).map (fun d => d.parameters.length) = some 1 := by decide +kernel
theorem hd_M_count : y_M_count.cls = "KeepHeapModel" ∧ y_M_count.cls ≠ "java/lang/invoke/MethodHandle" ∧ y_M_count.cls ≠ "java/lang/invoke/VarHandle" ∧ (parseMethodDescriptor y_M_count.desc).map (fun d => d.parameters.length) = some 1 := by decide +kernel
end
