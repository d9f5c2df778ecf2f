section
def lw_okq (q : MethodName × Nat) : Prop := (q.1.cls ≠ "java/lang/invoke/MethodHandle" ∧ q.1.cls ≠ "java/lang/invoke/VarHandle") ∧ Cond.instantiable q.1.cls q.2 ∈ tables_1 ∧ Cond.privateMethod q.1 ∈ tables_1 ∧ Cond.instanceMethod q.1 ∈ tables_1
theorem lw_p0 : lw_okq (⟨"KeepHeap", "valueOf", "(II)J"⟩, 7) := ⟨⟨by decide +kernel, by decide +kernel⟩, List.mem_of_getElem? (i := 9) (by decide +kernel), List.mem_of_getElem? (i := 111) (by decide +kernel), List.mem_of_getElem? (i := 112) (by decide +kernel)⟩
theorem lw_p1 : lw_okq (⟨"KeepHeap", "own", "(II)LKeepHeap$Slots;"⟩, 7) := ⟨⟨by decide +kernel, by decide +kernel⟩, List.mem_of_getElem? (i := 9) (by decide +kernel), List.mem_of_getElem? (i := 122) (by decide +kernel), List.mem_of_getElem? (i := 123) (by decide +kernel)⟩
theorem lw_p2 : lw_okq (⟨"KeepHeap", "kept", "()LKeepHeap$State;"⟩, 7) := ⟨⟨by decide +kernel, by decide +kernel⟩, List.mem_of_getElem? (i := 9) (by decide +kernel), List.mem_of_getElem? (i := 131) (by decide +kernel), List.mem_of_getElem? (i := 132) (by decide +kernel)⟩
theorem lw_p3 : lw_okq (⟨"KeepHeap", "ringIndex", "(I)I"⟩, 7) := ⟨⟨by decide +kernel, by decide +kernel⟩, List.mem_of_getElem? (i := 9) (by decide +kernel), List.mem_of_getElem? (i := 135) (by decide +kernel), List.mem_of_getElem? (i := 136) (by decide +kernel)⟩
theorem lw_p4 : lw_okq (⟨"KeepHeap", "ownRoots", "()LKeepHeap$Slots;"⟩, 7) := ⟨⟨by decide +kernel, by decide +kernel⟩, List.mem_of_getElem? (i := 9) (by decide +kernel), List.mem_of_getElem? (i := 204) (by decide +kernel), List.mem_of_getElem? (i := 205) (by decide +kernel)⟩
theorem lw_p5 : lw_okq (⟨"KeepHeap", "changedBytes", "()I"⟩, 7) := ⟨⟨by decide +kernel, by decide +kernel⟩, List.mem_of_getElem? (i := 9) (by decide +kernel), List.mem_of_getElem? (i := 216) (by decide +kernel), List.mem_of_getElem? (i := 217) (by decide +kernel)⟩
theorem lw_p6 : lw_okq (⟨"KeepHeap", "keepNow", "(I)V"⟩, 7) := ⟨⟨by decide +kernel, by decide +kernel⟩, List.mem_of_getElem? (i := 9) (by decide +kernel), List.mem_of_getElem? (i := 229) (by decide +kernel), List.mem_of_getElem? (i := 230) (by decide +kernel)⟩
theorem lw_p7 : lw_okq (⟨"KeepHeap", "entriesWithin", "(I)I"⟩, 7) := ⟨⟨by decide +kernel, by decide +kernel⟩, List.mem_of_getElem? (i := 9) (by decide +kernel), List.mem_of_getElem? (i := 271) (by decide +kernel), List.mem_of_getElem? (i := 272) (by decide +kernel)⟩
theorem lw_p8 : lw_okq (⟨"KeepHeapModel", "is", "(II)Z"⟩, 8) := ⟨⟨by decide +kernel, by decide +kernel⟩, List.mem_of_getElem? (i := 291) (by decide +kernel), List.mem_of_getElem? (i := 369) (by decide +kernel), List.mem_of_getElem? (i := 370) (by decide +kernel)⟩
theorem lw_p9 : lw_okq (⟨"KeepHeapModel", "isValue", "(II)Z"⟩, 8) := ⟨⟨by decide +kernel, by decide +kernel⟩, List.mem_of_getElem? (i := 291) (by decide +kernel), List.mem_of_getElem? (i := 377) (by decide +kernel), List.mem_of_getElem? (i := 378) (by decide +kernel)⟩
theorem lw_p10 : lw_okq (⟨"KeepHeapModel", "isThere", "(I)Z"⟩, 8) := ⟨⟨by decide +kernel, by decide +kernel⟩, List.mem_of_getElem? (i := 291) (by decide +kernel), List.mem_of_getElem? (i := 381) (by decide +kernel), List.mem_of_getElem? (i := 382) (by decide +kernel)⟩
theorem lw_p11 : lw_okq (⟨"KeepHeapModel", "keep", "(I)V"⟩, 8) := ⟨⟨by decide +kernel, by decide +kernel⟩, List.mem_of_getElem? (i := 291) (by decide +kernel), List.mem_of_getElem? (i := 440) (by decide +kernel), List.mem_of_getElem? (i := 441) (by decide +kernel)⟩
theorem lw_p12 : lw_okq (⟨"KeepHeapModel", "reach", "(JI)I"⟩, 8) := ⟨⟨by decide +kernel, by decide +kernel⟩, List.mem_of_getElem? (i := 291) (by decide +kernel), List.mem_of_getElem? (i := 457) (by decide +kernel), List.mem_of_getElem? (i := 458) (by decide +kernel)⟩
def lw_privs_1 : List (MethodName × Nat) := [(⟨"KeepHeap", "valueOf", "(II)J"⟩, 7), (⟨"KeepHeap", "own", "(II)LKeepHeap$Slots;"⟩, 7), (⟨"KeepHeap", "kept", "()LKeepHeap$State;"⟩, 7), (⟨"KeepHeap", "ringIndex", "(I)I"⟩, 7), (⟨"KeepHeap", "ownRoots", "()LKeepHeap$Slots;"⟩, 7), (⟨"KeepHeap", "changedBytes", "()I"⟩, 7), (⟨"KeepHeap", "keepNow", "(I)V"⟩, 7), (⟨"KeepHeap", "entriesWithin", "(I)I"⟩, 7), (⟨"KeepHeapModel", "is", "(II)Z"⟩, 8), (⟨"KeepHeapModel", "isValue", "(II)Z"⟩, 8), (⟨"KeepHeapModel", "isThere", "(I)Z"⟩, 8), (⟨"KeepHeapModel", "keep", "(I)V"⟩, 8), (⟨"KeepHeapModel", "reach", "(JI)I"⟩, 8)]
theorem lw_r1 : ∀ q ∈ lw_privs_1, lw_okq q := List.forall_mem_cons.mpr ⟨lw_p0, List.forall_mem_cons.mpr ⟨lw_p1, List.forall_mem_cons.mpr ⟨lw_p2, List.forall_mem_cons.mpr ⟨lw_p3, List.forall_mem_cons.mpr ⟨lw_p4, List.forall_mem_cons.mpr ⟨lw_p5, List.forall_mem_cons.mpr ⟨lw_p6, List.forall_mem_cons.mpr ⟨lw_p7, List.forall_mem_cons.mpr ⟨lw_p8, List.forall_mem_cons.mpr ⟨lw_p9, List.forall_mem_cons.mpr ⟨lw_p10, List.forall_mem_cons.mpr ⟨lw_p11, List.forall_mem_cons.mpr ⟨lw_p12, fun _ h => absurd h List.not_mem_nil⟩⟩⟩⟩⟩⟩⟩⟩⟩⟩⟩⟩⟩
def lw_privs : List (MethodName × Nat) := lw_privs_1
def lw_tbl : List Cond := k2_sels lw_privs ++ tables_1
theorem lw_privs_ok : ∀ q ∈ lw_privs, lw_okq q := lw_r1
end
section
abbrev mc_E : Type := (Nat × vp_A) ⊕ (Nat × List Value)
abbrev mc_M : Type := Nat → Option mc_E
abbrev mc_S : Type := mc_M × Nat
def mw_tr (dA : Nat → ClassId) (x : mc_E) : va_E := match x with
  | .inl a => .inl (dA a.1, a.2)
  | .inr o => .inr o
def mw_P (D : va_G) (dA : Nat → ClassId) (cl : List vw_C) (M : mc_M) (H : Heap) : Prop := ∀ (a : Nat) (x : mc_E), M a = some x → va_at D cl (a, mw_tr dA x) H
def mw_I (D : va_G) (dA : Nat → ClassId) (cl : List vw_C) (A : Nat → Prop) (S : mc_S) (H0 H : Heap) (locs : List Loc) : Prop := mw_P D dA cl S.1 H ∧ H.size = S.2 ∧ (∀ (a : Nat) (x : mc_E), S.1 a = some x → A a) ∧ (∀ q : Nat, H0.size ≤ q → A q) ∧ va_S A H0 H locs
abbrev mw_Z : Type := List (String × Nat × MethodName × String) × List String
def mw_K (D : va_G) (cl : List vw_C) (tys : List (ClassId × FieldType)) (Z : mw_Z) (U : State) : Prop := va_K D cl tys U ∧ (∀ z ∈ Z.1, va_Nw (.methodLinkNest z.1 z.2.1 z.2.2.1 z.2.2.2) U) ∧ ∀ C ∈ Z.2, va_AO C U
def mw_B (D : va_G) (dA : Nat → ClassId) (cl : List vw_C) (tys : List (ClassId × FieldType)) (Z : mw_Z) (A : Nat → Prop) (S : mc_S) (U : State) : Prop := mw_P D dA cl S.1 U.heap ∧ U.heap.size = S.2 ∧ (∀ (a : Nat) (x : mc_E), S.1 a = some x → A a) ∧ (∀ q : Nat, S.2 ≤ q → A q) ∧ mw_K D cl tys Z U
def mw_R (D : va_G) (dA : Nat → ClassId) (cl : List vw_C) (A : Nat → Prop) (S : mc_S) (t : State) : Prop := mw_P D dA cl S.1 t.heap ∧ t.heap.size = S.2 ∧ ∀ (a : Nat) (x : mc_E), S.1 a = some x → A a
theorem mw_K.warm {D : va_G} {cl : List vw_C} {tys : List (ClassId × FieldType)} {Z : mw_Z} {s U : State} (hW : s.WarmedH U.vm) (h : mw_K D cl tys Z s) : mw_K D cl tys Z U := ⟨va_K.moved hW.alike h.1, fun z hz => va_Nw.warmM hW (h.2.1 z hz), fun C hC => (h.2.2 C hC).moved hW.alike⟩
theorem mw_K.same {D : va_G} {cl : List vw_C} {tys : List (ClassId × FieldType)} {Z : mw_Z} {u U : State} (hv : u.vm = U.vm) (h : mw_K D cl tys Z u) : mw_K D cl tys Z U := ⟨va_K.moved (u := u) (U := U) (by rw [hv]; exact Vm.Alike.refl U.vm) h.1, fun z hz => va_Nw.same rfl hv (h.2.1 z hz), fun C hC => (h.2.2 C hC).moved (by rw [hv]; exact Vm.Alike.refl U.vm)⟩
theorem mw_P.lt {D : va_G} {dA : Nat → ClassId} {cl : List vw_C} {M : mc_M} {H : Heap} (h : mw_P D dA cl M H) {a : Nat} {x : mc_E} (ha : M a = some x) : a < H.size := (h a x ha).lt
theorem mw_I.set {D : va_G} {dA : Nat → ClassId} {cl : List vw_C} {A : Nat → Prop} {S : mc_S} {H0 H H1 : Heap} {locs : List Loc} (h : mw_I D dA cl A S H0 H locs) {a k : Nat} {x0 x1 : mc_E} (ha : S.1 a = some x0) (hx : va_at D cl (a, mw_tr dA x1) H1) (z : H1.size = H.size) (oq : ∀ q : Nat, q ≠ a → H1[q]? = H[q]?) : mw_I D dA cl A (va_up S.1 a (some x1), S.2) H0 H1 (locs ++ [⟨a, k⟩]) := by
  obtain ⟨hP, hz, hA, hN, hS⟩ := h
  refine ⟨fun b y hb => ?_, z.trans hz, fun b y hb => ?_, hN, hS.put z oq (hA a x0 ha)⟩
  · by_cases hba : b = a
    · subst hba
      have hb : va_up S.1 b (some x1) b = some y := hb
      rw [va_up_self] at hb
      cases hb
      exact hx
    · have hb : va_up S.1 a (some x1) b = some y := hb
      rw [va_up_ne _ _ hba] at hb
      exact (hP b y hb).kept (oq b hba)
  · by_cases hba : b = a
    · subst hba
      exact hA b x0 ha
    · have hb : va_up S.1 a (some x1) b = some y := hb
      rw [va_up_ne _ _ hba] at hb
      exact hA b y hb
theorem mw_I.push {D : va_G} {dA : Nat → ClassId} {cl : List vw_C} {A : Nat → Prop} {S : mc_S} {H0 H H1 : Heap} {locs : List Loc} (h : mw_I D dA cl A S H0 H locs) {x1 : mc_E} (hx : va_at D cl (S.2, mw_tr dA x1) H1) (z : H1.size = H.size + 1) (o1 : ∀ q : Nat, q < H.size → H1[q]? = H[q]?) : mw_I D dA cl A (va_up S.1 S.2 (some x1), S.2 + 1) H0 H1 locs := by
  obtain ⟨hP, hz, hA, hN, hS⟩ := h
  have hsz : A S.2 := hN S.2 (by rw [← hz]; exact hS.1)
  refine ⟨fun b y hb => ?_, by show H1.size = S.2 + 1; omega, fun b y hb => ?_, hN, ⟨Nat.le_trans hS.1 (by omega), fun q h1 h2 => (o1 q (Nat.lt_of_lt_of_le h1 hS.1)).trans (hS.2.1 q h1 h2), hS.2.2⟩⟩
  · have hb : va_up S.1 S.2 (some x1) b = some y := hb
    by_cases hba : b = S.2
    · subst hba
      rw [va_up_self] at hb
      cases hb
      exact hx
    · rw [va_up_ne _ _ hba] at hb
      exact (hP b y hb).kept (o1 b (hP.lt hb))
  · have hb : va_up S.1 S.2 (some x1) b = some y := hb
    by_cases hba : b = S.2
    · subst hba
      exact hsz
    · rw [va_up_ne _ _ hba] at hb
      exact hA b y hb
theorem mw_bind {α β : Type} {x : Option α} {f : α → Option β} {y : β} (h : x.bind f = some y) : ∃ a : α, x = some a ∧ f a = some y := Option.bind_eq_some_iff.mp h
def mv_I (v : Value) : Option Int32 := match v with
  | .int x => some x
  | _ => none
def mv_R (v : Value) : Option (Option Nat) := match v with
  | .null => some none
  | .ref a => some (some a)
  | _ => none
def rdV (S : mc_S) (r : Option Nat) (ci k : Nat) : Option Value := match r with
  | none => none
  | some a => match S.1 a with
    | some (.inr o) => if o.1 = ci then o.2[k]? else none
    | _ => none
def rdI (S : mc_S) (r : Option Nat) (ci k : Nat) : Option Int32 := (rdV S r ci k).bind mv_I
def rdR (S : mc_S) (r : Option Nat) (ci k : Nat) : Option (Option Nat) := (rdV S r ci k).bind mv_R
def wrV (S : mc_S) (r : Option Nat) (ci k : Nat) (v : Value) : Option mc_S := match r with
  | none => none
  | some a => match S.1 a with
    | some (.inr o) => if o.1 = ci ∧ k < o.2.length then some (va_up S.1 a (some (.inr (ci, o.2.set k v))), S.2) else none
    | _ => none
def rcv (S : mc_S) (r : Option Nat) (ci : Nat) : Option Nat := match r with
  | none => none
  | some a => match S.1 a with
    | some (.inr o) => if o.1 = ci then some a else none
    | _ => none
def arr (S : mc_S) (r : Option Nat) (t : Nat) : Option vp_A := match r with
  | none => none
  | some a => match S.1 a with
    | some (.inl x) => if x.1 = t then some x.2 else none
    | _ => none
def aix (i : Int32) (n : Nat) : Prop := ¬ i < 0 ∧ i.toNatClampNeg < n
def ldI (S : mc_S) (r : Option Nat) (t : Nat) (i : Int32) : Option Int32 := match arr S r t with
  | some (n, .inl f) => if ¬ i < 0 ∧ i.toNatClampNeg < n then some (f i.toNatClampNeg) else none
  | _ => none
def ldL (S : mc_S) (r : Option Nat) (t : Nat) (i : Int32) : Option Int64 := match arr S r t with
  | some (n, .inr (.inl f)) => if ¬ i < 0 ∧ i.toNatClampNeg < n then some (f i.toNatClampNeg) else none
  | _ => none
def ldR (S : mc_S) (r : Option Nat) (t : Nat) (i : Int32) : Option (Option Nat) := match arr S r t with
  | some (n, .inr (.inr (.inr (.inr f)))) => if ¬ i < 0 ∧ i.toNatClampNeg < n then some (f i.toNatClampNeg) else none
  | _ => none
def alen (S : mc_S) (r : Option Nat) (t : Nat) : Option Int32 := (arr S r t).map (fun x => Int32.ofNat x.1)
def stA (S : mc_S) (r : Option Nat) (x : mc_E) : mc_S := match r with
  | none => S
  | some a => (va_up S.1 a (some x), S.2)
def stI (S : mc_S) (r : Option Nat) (t : Nat) (i v : Int32) : Option mc_S := match arr S r t with
  | some (n, .inl f) => if ¬ i < 0 ∧ i.toNatClampNeg < n then some (stA S r (.inl (t, n, .inl (va_up f i.toNatClampNeg v)))) else none
  | _ => none
def stL (S : mc_S) (r : Option Nat) (t : Nat) (i : Int32) (v : Int64) : Option mc_S := match arr S r t with
  | some (n, .inr (.inl f)) => if ¬ i < 0 ∧ i.toNatClampNeg < n then some (stA S r (.inl (t, n, .inr (.inl (va_up f i.toNatClampNeg v))))) else none
  | _ => none
def stR (S : mc_S) (r : Option Nat) (t ci : Nat) (i : Int32) (v : Option Nat) : Option mc_S := match arr S r t with
  | some (n, .inr (.inr (.inr (.inr f)))) => if (¬ i < 0 ∧ i.toNatClampNeg < n) ∧ (v = none ∨ rcv S v ci = v) then some (stA S r (.inl (t, n, .inr (.inr (.inr (.inr (va_up f i.toNatClampNeg v))))))) else none
  | _ => none
def nwO (ci : Nat) (fs : List Value) (S : mc_S) : mc_S := (va_up S.1 S.2 (some (.inr (ci, fs))), S.2 + 1)
def nwA (t cap : Nat) (n : Int32) (z : (Nat → Int32) ⊕ (Nat → Int64) ⊕ (Nat → UInt32) ⊕ (Nat → UInt64) ⊕ (Nat → Option Nat)) (S : mc_S) : Option mc_S := if ¬ n < 0 ∧ n.toNatClampNeg ≤ cap then some (va_up S.1 S.2 (some (.inl (t, n.toNatClampNeg, z))), S.2 + 1) else none
def cpI (S : mc_S) (r0 : Option Nat) (sp : Int32) (r1 : Option Nat) (dp n : Int32) (t : Nat) : Option mc_S := match arr S r0 t, arr S r1 t with
  | some (n0, .inl f), some (n1, .inl g) => if ¬ sp < 0 ∧ ¬ dp < 0 ∧ ¬ n < 0 ∧ sp.toNatClampNeg + n.toNatClampNeg ≤ n0 ∧ dp.toNatClampNeg + n.toNatClampNeg ≤ n1 then some (stA S r1 (.inl (t, n1, .inl (va_cpy f g sp.toNatClampNeg dp.toNatClampNeg n.toNatClampNeg)))) else none
  | _, _ => none
def cpL (S : mc_S) (r0 : Option Nat) (sp : Int32) (r1 : Option Nat) (dp n : Int32) (t : Nat) : Option mc_S := match arr S r0 t, arr S r1 t with
  | some (n0, .inr (.inl f)), some (n1, .inr (.inl g)) => if ¬ sp < 0 ∧ ¬ dp < 0 ∧ ¬ n < 0 ∧ sp.toNatClampNeg + n.toNatClampNeg ≤ n0 ∧ dp.toNatClampNeg + n.toNatClampNeg ≤ n1 then some (stA S r1 (.inl (t, n1, .inr (.inl (va_cpy f g sp.toNatClampNeg dp.toNatClampNeg n.toNatClampNeg))))) else none
  | _, _ => none
def scI (L : Nat) (xs : Nat → Int32) (i : Int32) : Option Int32 := if ¬ i < 0 ∧ i.toNatClampNeg < L then some (xs i.toNatClampNeg) else none
theorem mv_I_inv {v : Value} {x : Int32} (h : mv_I v = some x) : v = .int x := by
  cases v <;> simp [mv_I] at h
  rw [h]
theorem mv_R_inv {v : Value} {x : Option Nat} (h : mv_R v = some x) : v = va_rf x := by
  cases v <;> simp [mv_R] at h <;> subst h <;> rfl
theorem rdV_inv {S : mc_S} {r : Option Nat} {ci k : Nat} {v : Value} (h : rdV S r ci k = some v) : ∃ (a : Nat) (fs : List Value), r = some a ∧ S.1 a = some (.inr (ci, fs)) ∧ fs[k]? = some v := by
  cases r with
  | none => simp [rdV] at h
  | some a =>
    cases e : S.1 a with
    | none => simp [rdV, e] at h
    | some x =>
      cases x with
      | inl y => simp [rdV, e] at h
      | inr o =>
        obtain ⟨c, fs⟩ := o
        simp only [rdV, e] at h
        by_cases hc : c = ci
        · subst hc
          rw [if_pos rfl] at h
          exact ⟨a, fs, rfl, e, h⟩
        · rw [if_neg hc] at h
          cases h
theorem wrV_inv {S S1 : mc_S} {r : Option Nat} {ci k : Nat} {v : Value} (h : wrV S r ci k v = some S1) : ∃ (a : Nat) (fs : List Value), r = some a ∧ S.1 a = some (.inr (ci, fs)) ∧ k < fs.length ∧ S1 = (va_up S.1 a (some (.inr (ci, fs.set k v))), S.2) := by
  cases r with
  | none => simp [wrV] at h
  | some a =>
    cases e : S.1 a with
    | none => simp [wrV, e] at h
    | some x =>
      cases x with
      | inl y => simp [wrV, e] at h
      | inr o =>
        obtain ⟨c, fs⟩ := o
        simp only [wrV, e] at h
        by_cases hc : c = ci ∧ k < fs.length
        · rw [if_pos hc] at h
          obtain ⟨rfl, hl⟩ := hc
          exact ⟨a, fs, rfl, e, hl, (Option.some.inj h).symm⟩
        · rw [if_neg hc] at h
          cases h
theorem rcv_inv {S : mc_S} {r : Option Nat} {ci b : Nat} (h : rcv S r ci = some b) : r = some b ∧ ∃ fs : List Value, S.1 b = some (.inr (ci, fs)) := by
  cases r with
  | none => simp [rcv] at h
  | some a =>
    cases e : S.1 a with
    | none => simp [rcv, e] at h
    | some x =>
      cases x with
      | inl y => simp [rcv, e] at h
      | inr o =>
        obtain ⟨c, fs⟩ := o
        simp only [rcv, e] at h
        by_cases hc : c = ci
        · subst hc
          rw [if_pos rfl] at h
          cases h
          exact ⟨rfl, fs, e⟩
        · rw [if_neg hc] at h
          cases h
theorem arr_inv {S : mc_S} {r : Option Nat} {t : Nat} {x : vp_A} (h : arr S r t = some x) : ∃ a : Nat, r = some a ∧ S.1 a = some (.inl (t, x)) := by
  cases r with
  | none => simp [arr] at h
  | some a =>
    cases e : S.1 a with
    | none => simp [arr, e] at h
    | some y =>
      cases y with
      | inr o => simp [arr, e] at h
      | inl o =>
        obtain ⟨c, y⟩ := o
        simp only [arr, e] at h
        by_cases hc : c = t
        · subst hc
          rw [if_pos rfl] at h
          cases h
          exact ⟨a, rfl, e⟩
        · rw [if_neg hc] at h
          cases h
theorem mw_ino {i : Int32} {n : Nat} (hc : ¬ i < 0 ∧ i.toNatClampNeg < n) : vp_in i n := fun q => q.elim hc.1 (fun h => Nat.not_le.mpr hc.2 h)
theorem ldI_inv {S : mc_S} {r : Option Nat} {t : Nat} {i v : Int32} (h : ldI S r t i = some v) : ∃ (a n : Nat) (f : Nat → Int32), r = some a ∧ S.1 a = some (.inl (t, n, .inl f)) ∧ vp_in i n ∧ v = f i.toNatClampNeg := by
  unfold ldI at h
  split at h
  · rename_i n f e
    obtain ⟨a, h1, h2⟩ := arr_inv e
    by_cases hc : ¬ i < 0 ∧ i.toNatClampNeg < n
    · rw [if_pos hc] at h
      exact ⟨a, n, f, h1, h2, mw_ino hc, (Option.some.inj h).symm⟩
    · rw [if_neg hc] at h
      cases h
  · cases h
theorem ldL_inv {S : mc_S} {r : Option Nat} {t : Nat} {i : Int32} {v : Int64} (h : ldL S r t i = some v) : ∃ (a n : Nat) (f : Nat → Int64), r = some a ∧ S.1 a = some (.inl (t, n, .inr (.inl f))) ∧ vp_in i n ∧ v = f i.toNatClampNeg := by
  unfold ldL at h
  split at h
  · rename_i n f e
    obtain ⟨a, h1, h2⟩ := arr_inv e
    by_cases hc : ¬ i < 0 ∧ i.toNatClampNeg < n
    · rw [if_pos hc] at h
      exact ⟨a, n, f, h1, h2, mw_ino hc, (Option.some.inj h).symm⟩
    · rw [if_neg hc] at h
      cases h
  · cases h
theorem ldR_inv {S : mc_S} {r : Option Nat} {t : Nat} {i : Int32} {v : Option Nat} (h : ldR S r t i = some v) : ∃ (a n : Nat) (f : Nat → Option Nat), r = some a ∧ S.1 a = some (.inl (t, n, .inr (.inr (.inr (.inr f))))) ∧ vp_in i n ∧ v = f i.toNatClampNeg := by
  unfold ldR at h
  split at h
  · rename_i n f e
    obtain ⟨a, h1, h2⟩ := arr_inv e
    by_cases hc : ¬ i < 0 ∧ i.toNatClampNeg < n
    · rw [if_pos hc] at h
      exact ⟨a, n, f, h1, h2, mw_ino hc, (Option.some.inj h).symm⟩
    · rw [if_neg hc] at h
      cases h
  · cases h
theorem alen_inv {S : mc_S} {r : Option Nat} {t : Nat} {v : Int32} (h : alen S r t = some v) : ∃ (a : Nat) (x : vp_A), r = some a ∧ S.1 a = some (.inl (t, x)) ∧ v = Int32.ofNat x.1 := by
  unfold alen at h
  cases e : arr S r t with
  | none => rw [e] at h; cases h
  | some x =>
    rw [e] at h
    obtain ⟨a, h1, h2⟩ := arr_inv e
    exact ⟨a, x, h1, h2, (Option.some.inj h).symm⟩
theorem stI_inv {S S1 : mc_S} {r : Option Nat} {t : Nat} {i v : Int32} (h : stI S r t i v = some S1) : ∃ (a n : Nat) (f : Nat → Int32), r = some a ∧ S.1 a = some (.inl (t, n, .inl f)) ∧ vp_in i n ∧ S1 = (va_up S.1 a (some (.inl (t, n, .inl (va_up f i.toNatClampNeg v)))), S.2) := by
  unfold stI at h
  split at h
  · rename_i n f e
    obtain ⟨a, h1, h2⟩ := arr_inv e
    subst h1
    by_cases hc : ¬ i < 0 ∧ i.toNatClampNeg < n
    · rw [if_pos hc] at h
      exact ⟨a, n, f, rfl, h2, mw_ino hc, (Option.some.inj h).symm⟩
    · rw [if_neg hc] at h
      cases h
  · cases h
theorem stL_inv {S S1 : mc_S} {r : Option Nat} {t : Nat} {i : Int32} {v : Int64} (h : stL S r t i v = some S1) : ∃ (a n : Nat) (f : Nat → Int64), r = some a ∧ S.1 a = some (.inl (t, n, .inr (.inl f))) ∧ vp_in i n ∧ S1 = (va_up S.1 a (some (.inl (t, n, .inr (.inl (va_up f i.toNatClampNeg v))))), S.2) := by
  unfold stL at h
  split at h
  · rename_i n f e
    obtain ⟨a, h1, h2⟩ := arr_inv e
    subst h1
    by_cases hc : ¬ i < 0 ∧ i.toNatClampNeg < n
    · rw [if_pos hc] at h
      exact ⟨a, n, f, rfl, h2, mw_ino hc, (Option.some.inj h).symm⟩
    · rw [if_neg hc] at h
      cases h
  · cases h
theorem stR_inv {S S1 : mc_S} {r : Option Nat} {t ci : Nat} {i : Int32} {v : Option Nat} (h : stR S r t ci i v = some S1) : ∃ (a n : Nat) (f : Nat → Option Nat), r = some a ∧ S.1 a = some (.inl (t, n, .inr (.inr (.inr (.inr f))))) ∧ vp_in i n ∧ (∀ y, v = some y → ∃ vs, S.1 y = some (.inr (ci, vs))) ∧ S1 = (va_up S.1 a (some (.inl (t, n, .inr (.inr (.inr (.inr (va_up f i.toNatClampNeg v))))))), S.2) := by
  unfold stR at h
  split at h
  · rename_i n f e
    obtain ⟨a, h1, h2⟩ := arr_inv e
    subst h1
    by_cases hc : (¬ i < 0 ∧ i.toNatClampNeg < n) ∧ (v = none ∨ rcv S v ci = v)
    · rw [if_pos hc] at h
      refine ⟨a, n, f, rfl, h2, fun q => ?_, fun y hy => ?_, (Option.some.inj h).symm⟩
      · exact mw_ino hc.1 q
      · subst hy
        rcases hc.2 with q | q
        · cases q
        · exact (rcv_inv q).2
    · rw [if_neg hc] at h
      cases h
  · cases h
theorem nwA_inv {S S1 : mc_S} {t cap : Nat} {n : Int32} {z : (Nat → Int32) ⊕ (Nat → Int64) ⊕ (Nat → UInt32) ⊕ (Nat → UInt64) ⊕ (Nat → Option Nat)} (h : nwA t cap n z S = some S1) : ¬ n < 0 ∧ n.toNatClampNeg ≤ cap ∧ S1 = (va_up S.1 S.2 (some (.inl (t, n.toNatClampNeg, z))), S.2 + 1) := by
  unfold nwA at h
  by_cases hc : ¬ n < 0 ∧ n.toNatClampNeg ≤ cap
  · rw [if_pos hc] at h
    exact ⟨hc.1, hc.2, (Option.some.inj h).symm⟩
  · rw [if_neg hc] at h
    cases h
theorem cpI_inv {S S1 : mc_S} {r0 r1 : Option Nat} {t : Nat} {sp dp n : Int32} (h : cpI S r0 sp r1 dp n t = some S1) : ∃ (a0 a n0 n1 : Nat) (f g : Nat → Int32), r0 = some a0 ∧ r1 = some a ∧ S.1 a0 = some (.inl (t, n0, .inl f)) ∧ S.1 a = some (.inl (t, n1, .inl g)) ∧ (¬ sp < 0 ∧ ¬ dp < 0 ∧ ¬ n < 0 ∧ sp.toNatClampNeg + n.toNatClampNeg ≤ n0 ∧ dp.toNatClampNeg + n.toNatClampNeg ≤ n1) ∧ S1 = (va_up S.1 a (some (.inl (t, n1, .inl (va_cpy f g sp.toNatClampNeg dp.toNatClampNeg n.toNatClampNeg)))), S.2) := by
  unfold cpI at h
  split at h
  · rename_i n0 f n1 g e0 e1
    obtain ⟨a0, h1, h2⟩ := arr_inv e0
    obtain ⟨a, h3, h4⟩ := arr_inv e1
    subst h1
    subst h3
    by_cases hc : ¬ sp < 0 ∧ ¬ dp < 0 ∧ ¬ n < 0 ∧ sp.toNatClampNeg + n.toNatClampNeg ≤ n0 ∧ dp.toNatClampNeg + n.toNatClampNeg ≤ n1
    · rw [if_pos hc] at h
      exact ⟨a0, a, n0, n1, f, g, rfl, rfl, h2, h4, hc, (Option.some.inj h).symm⟩
    · rw [if_neg hc] at h
      cases h
  · cases h
theorem cpL_inv {S S1 : mc_S} {r0 r1 : Option Nat} {t : Nat} {sp dp n : Int32} (h : cpL S r0 sp r1 dp n t = some S1) : ∃ (a0 a n0 n1 : Nat) (f g : Nat → Int64), r0 = some a0 ∧ r1 = some a ∧ S.1 a0 = some (.inl (t, n0, .inr (.inl f))) ∧ S.1 a = some (.inl (t, n1, .inr (.inl g))) ∧ (¬ sp < 0 ∧ ¬ dp < 0 ∧ ¬ n < 0 ∧ sp.toNatClampNeg + n.toNatClampNeg ≤ n0 ∧ dp.toNatClampNeg + n.toNatClampNeg ≤ n1) ∧ S1 = (va_up S.1 a (some (.inl (t, n1, .inr (.inl (va_cpy f g sp.toNatClampNeg dp.toNatClampNeg n.toNatClampNeg))))), S.2) := by
  unfold cpL at h
  split at h
  · rename_i n0 f n1 g e0 e1
    obtain ⟨a0, h1, h2⟩ := arr_inv e0
    obtain ⟨a, h3, h4⟩ := arr_inv e1
    subst h1
    subst h3
    by_cases hc : ¬ sp < 0 ∧ ¬ dp < 0 ∧ ¬ n < 0 ∧ sp.toNatClampNeg + n.toNatClampNeg ≤ n0 ∧ dp.toNatClampNeg + n.toNatClampNeg ≤ n1
    · rw [if_pos hc] at h
      exact ⟨a0, a, n0, n1, f, g, rfl, rfl, h2, h4, hc, (Option.some.inj h).symm⟩
    · rw [if_neg hc] at h
      cases h
  · cases h
theorem scI_inv {L : Nat} {xs : Nat → Int32} {i v : Int32} (h : scI L xs i = some v) : vp_in i L ∧ v = xs i.toNatClampNeg := by
  unfold scI at h
  by_cases hc : ¬ i < 0 ∧ i.toNatClampNeg < L
  · rw [if_pos hc] at h
    exact ⟨mw_ino hc, (Option.some.inj h).symm⟩
  · rw [if_neg hc] at h
    cases h
section MW
variable {p : Program} {l : Launch} {e : Env} {R : Room} {s : State} {m : MethodId} {args : Array Value} {below : List Frame} {meth : Method} {c : Code} {H : Heap} {locs : List Loc} {cells slots : Nat} {Q : State → Prop}
variable {cc : ByteArray} {pc nL : Nat} {ls : Array Slot} {rest : List Value} {D : va_G} {dA : Nat → ClassId} {cl : List vw_C} {A : Nat → Prop} {tys : List (ClassId × FieldType)} {Z : mw_Z} {H0 : Heap} {S S1 : mc_S} {Ts : List Cond} {own : String} {r : Option Nat}
theorem mw_getV (F : CallFix p m c cc nL s args Ts own) (hK : mw_K D cl tys Z s) (hI : mw_I D dA cl A S H0 H locs) {ref C : String} {T : u_T} {N ci index : Nat} (hin : ∀ w ∈ u_ws C T N, w ∈ Ts) (hc : cl[ci]? = some (C, T, N)) (k : Nat) (hk : k < N) (hlink : Cond.fieldLink own index ref (T k).2.1 (T k).2.2.1 ∈ Ts) (hsame : (T k).1 = ref) {v : Value} (h : rdV S r ci k = some v) (hdg : decode cc pc = .ok (.getfield index, 3))
    (kk : W p l e R s m args below meth c H locs cells slots Q (F0 m (pc + 3) ls (v :: rest))) : W p l e R s m args below meth c H locs cells slots Q (F0 m pc ls (va_rf r :: rest)) := by
  obtain ⟨a, fs, rfl, he, hv⟩ := rdV_inv h
  obtain ⟨hexec, hb, -, hown, hts⟩ := F
  obtain ⟨q, h1, cell, q1, q2, q3, q4⟩ := hI.1 a _ he
  have hr : q = (C, T, N) := Option.some.inj (h1.symm.trans hc)
  subst hr
  obtain ⟨hS, hfc, kC, hkC, hkind⟩ := hK.1.1 ci _ hc
  obtain ⟨cf, kf, fi, f, hi, hsl⟩ := hS k hk
  subst hsame
  refine W.getf hexec hb hown (hts _ hlink) hi (u_facts hfc hkC (u_lays hts hin hk) hi).1 q1 (by rw [q3]; exact fun h => by cases h) (v := v) ?_ rfl rfl hdg kk
  rw [hsl, q4 k hk]
  simp [vp_V, hv]
theorem mw_getI (F : CallFix p m c cc nL s args Ts own) (hK : mw_K D cl tys Z s) (hI : mw_I D dA cl A S H0 H locs) {ref C : String} {T : u_T} {N ci index : Nat} (hin : ∀ w ∈ u_ws C T N, w ∈ Ts) (hc : cl[ci]? = some (C, T, N)) (k : Nat) (hk : k < N) (hlink : Cond.fieldLink own index ref (T k).2.1 (T k).2.2.1 ∈ Ts) (hsame : (T k).1 = ref) {v : Int32} (h : rdI S r ci k = some v) (hdg : decode cc pc = .ok (.getfield index, 3))
    (kk : W p l e R s m args below meth c H locs cells slots Q (F0 m (pc + 3) ls (.int v :: rest))) : W p l e R s m args below meth c H locs cells slots Q (F0 m pc ls (va_rf r :: rest)) := by
  obtain ⟨x, h1, h2⟩ := mw_bind h
  cases mv_I_inv h2
  exact mw_getV F hK hI hin hc k hk hlink hsame h1 hdg kk
theorem mw_getR (F : CallFix p m c cc nL s args Ts own) (hK : mw_K D cl tys Z s) (hI : mw_I D dA cl A S H0 H locs) {ref C : String} {T : u_T} {N ci index : Nat} (hin : ∀ w ∈ u_ws C T N, w ∈ Ts) (hc : cl[ci]? = some (C, T, N)) (k : Nat) (hk : k < N) (hlink : Cond.fieldLink own index ref (T k).2.1 (T k).2.2.1 ∈ Ts) (hsame : (T k).1 = ref) {v : Option Nat} (h : rdR S r ci k = some v) (hdg : decode cc pc = .ok (.getfield index, 3))
    (kk : W p l e R s m args below meth c H locs cells slots Q (F0 m (pc + 3) ls (va_rf v :: rest))) : W p l e R s m args below meth c H locs cells slots Q (F0 m pc ls (va_rf r :: rest)) := by
  obtain ⟨x, h1, h2⟩ := mw_bind h
  rw [← mv_R_inv h2] at kk
  exact mw_getV F hK hI hin hc k hk hlink hsame h1 hdg kk
theorem mw_put (F : CallFix p m c cc nL s args Ts own) (hK : mw_K D cl tys Z s) (hI : mw_I D dA cl A S H0 H locs) {ref C : String} {T : u_T} {N ci index : Nat} (hin : ∀ w ∈ u_ws C T N, w ∈ Ts) (ty0 : Nat → FieldType) (hty : ∀ k, k < N → parseFieldDescriptor (T k).2.2.1 = some (ty0 k)) (hnm : ∀ a, a < N → ∀ b, b < N → a ≠ b → (T a).2.1 ≠ (T b).2.1) (hc : cl[ci]? = some (C, T, N)) (k : Nat) (hk : k < N) (hlink : Cond.fieldLink own index ref (T k).2.1 (T k).2.2.1 ∈ Ts) (hsame : (T k).1 = ref) (hfin : (T k).2.2.2 = false) {v : Value} (hn : narrow (ty0 k) v = v) (hfit : fits (ty0 k) v = true) (h : wrV S r ci k v = some S1) (hdg : decode cc pc = .ok (.putfield index, 3))
    (kk : ∀ (H1 : Heap) (locs1 : List Loc), mw_I D dA cl A S1 H0 H1 locs1 → W p l e R s m args below meth c H1 locs1 cells slots Q (F0 m (pc + 3) ls rest)) : W p l e R s m args below meth c H locs cells slots Q (F0 m pc ls (v :: va_rf r :: rest)) := by
  obtain ⟨a, fs, rfl, he, hl, rfl⟩ := wrV_inv h
  obtain ⟨hexec, hb, -, hown, hts⟩ := F
  have hap := va_apart (own := own) hts hin ty0 hty hnm hK.1 hc
  obtain ⟨q, h1, cell, q1, q2, q3, q4⟩ := hI.1 a _ he
  have hr : q = (C, T, N) := Option.some.inj (h1.symm.trans hc)
  subst hr
  obtain ⟨hS, hfc, kC, hkC, hkind⟩ := hK.1.1 ci _ hc
  obtain ⟨cf, kf, fi, f, hi, hsl⟩ := hS k hk
  subst hsame
  have hlay := hts _ (hin _ (u_in_lay hk))
  unfold u_lay at hlay
  rw [if_neg (by rw [hfin]; decide)] at hlay
  have hst := (u_facts hfc hkC (u_lays hts hin hk) hi).1
  have h6 := u_store hfc hkC hkind hlay hi (hty k hk) hn hfit
  refine W.putK hexec hb (f := f) ⟨hown, hts _ hlink, ⟨_, _, _, hi⟩, hst⟩ (by rw [q2]; exact h6) q1 q3 (by rw [hsl]; exact k2_hasslot (q4 k hk)) rfl rfl hdg fun H' e1 e2 e3 => ?_
  rw [hsl] at e1 ⊢
  exact kk H' _ (hI.set he ⟨_, hc, t_OB.to (V := updV (vp_V fs) k v) ⟨_, e1, q2, q3, t_set q4 hap hk v⟩ (fun j _ => vp_updV_set hl v j)⟩ e2 e3)
theorem mw_putF (F : CallFix p m c cc nL s args Ts own) (hK : mw_K D cl tys Z s) (hI : mw_I D dA cl A S H0 H locs) {C : String} {T : u_T} {N ci index : Nat} (hin : ∀ w ∈ u_ws C T N, w ∈ Ts) (ty0 : Nat → FieldType) (hty : ∀ k, k < N → parseFieldDescriptor (T k).2.2.1 = some (ty0 k)) (hnm : ∀ a, a < N → ∀ b, b < N → a ≠ b → (T a).2.1 ≠ (T b).2.1) (hc : cl[ci]? = some (C, T, N)) (k : Nat) (hk : k < N) (hlink : Cond.fieldLink own index own (T k).2.1 (T k).2.2.1 ∈ Ts) (hsame : (T k).1 = own) (hfin : (T k).2.2.2 = true) (hin2 : meth.name = "<init>") {v : Value} (hn : narrow (ty0 k) v = v) (hfit : fits (ty0 k) v = true) (h : wrV S r ci k v = some S1) (hdg : decode cc pc = .ok (.putfield index, 3))
    (kk : ∀ (H1 : Heap) (locs1 : List Loc), mw_I D dA cl A S1 H0 H1 locs1 → W p l e R s m args below meth c H1 locs1 cells slots Q (F0 m (pc + 3) ls rest)) : W p l e R s m args below meth c H locs cells slots Q (F0 m pc ls (v :: va_rf r :: rest)) := by
  obtain ⟨a, fs, rfl, he, hl, rfl⟩ := wrV_inv h
  obtain ⟨hexec, hb, -, hown, hts⟩ := F
  have hap := va_apart (own := own) hts hin ty0 hty hnm hK.1 hc
  obtain ⟨q, h1, cell, q1, q2, q3, q4⟩ := hI.1 a _ he
  have hr : q = (C, T, N) := Option.some.inj (h1.symm.trans hc)
  subst hr
  obtain ⟨hS, hfc, kC, hkC, hkind⟩ := hK.1.1 ci _ hc
  obtain ⟨cf, kf, fi, f, hi, hsl⟩ := hS k hk
  have hlay := hts _ (hin _ (u_in_lay hk))
  unfold u_lay at hlay
  rw [if_pos hfin] at hlay
  have hst := (u_facts hfc hkC (u_lays hts hin hk) hi).1
  have hcf : m.cls = cf := by
    obtain ⟨_, _, c', _, _, _, -, -, hf', -, -, -, hown2, -⟩ := Cond.laysFinal_spec hlay
    have e1 : c' = cf := by have := hi.symm.trans hf'; simp at this; exact this.1.symm
    rw [hsame] at hown2
    rw [← e1]; exact Option.some.inj (hown.symm.trans hown2)
  have h6 := u_fits hfc hkC hkind (Or.inr hlay) hi (hty k hk) hn hfit
  refine W.putFinK hexec hb hown (hts _ hlink) (by rw [← hsame]; exact hi) hst hcf hin2 (by rw [q2]; exact h6) q1 q3 (by rw [hsl]; exact k2_hasslot (q4 k hk)) rfl rfl hdg fun H' e1 e2 e3 => ?_
  rw [hsl] at e1 ⊢
  exact kk H' _ (hI.set he ⟨_, hc, t_OB.to (V := updV (vp_V fs) k v) ⟨_, e1, q2, q3, t_set q4 hap hk v⟩ (fun j _ => vp_updV_set hl v j)⟩ e2 e3)
theorem mw_iald (F : CallFix p m c cc nL s args Ts own) (hK : mw_K D cl tys Z s) (hI : mw_I D dA cl A S H0 H locs) {t0 : Nat} (ht : tys[t0]? = some (dA t0, .int)) {i v : Int32} (h : ldI S r t0 i = some v) (hdg : decode cc pc = .ok (.iaload, 1))
    (kk : W p l e R s m args below meth c H locs cells slots Q (F0 m (pc + 1) ls (.int v :: rest))) : W p l e R s m args below meth c H locs cells slots Q (F0 m pc ls (.int i :: va_rf r :: rest)) := by
  obtain ⟨a, n, f, rfl, he, hin, rfl⟩ := ldI_inv h
  have hlt : i.toNatClampNeg < n := Nat.not_le.mp fun q => hin (Or.inr q)
  exact W.iald (v := .int (f i.toNatClampNeg)) F.1 F.2.1 (hI.1 a _ he) ((hK.1.2 t0 _ ht).1 n (fun j => .int (f j))) (fun q => by cases q) (by show ¬ (i < 0 ∨ (arrV _ _ _).slots.size ≤ _); rw [arrV_size]; exact hin) (by show (arrV _ _ _).slots[_]? = _; rw [arrV_read _ _ hlt]) rfl rfl hdg kk
theorem mw_zald (F : CallFix p m c cc nL s args Ts own) (hK : mw_K D cl tys Z s) (hI : mw_I D dA cl A S H0 H locs) {t0 : Nat} (ht : tys[t0]? = some (dA t0, .boolean)) {i v : Int32} (h : ldI S r t0 i = some v) (hdg : decode cc pc = .ok (.baload, 1))
    (kk : W p l e R s m args below meth c H locs cells slots Q (F0 m (pc + 1) ls (.int v :: rest))) : W p l e R s m args below meth c H locs cells slots Q (F0 m pc ls (.int i :: va_rf r :: rest)) := by
  obtain ⟨a, n, f, rfl, he, hin, rfl⟩ := ldI_inv h
  have hlt : i.toNatClampNeg < n := Nat.not_le.mp fun q => hin (Or.inr q)
  exact W.zald (v := .int (f i.toNatClampNeg)) F.1 F.2.1 (hI.1 a _ he) ((hK.1.2 t0 _ ht).1 n (fun j => .int (f j))) (fun q => by cases q) (by show ¬ (i < 0 ∨ (arrV _ _ _).slots.size ≤ _); rw [arrV_size]; exact hin) (by show (arrV _ _ _).slots[_]? = _; rw [arrV_read _ _ hlt]) rfl rfl hdg kk
theorem mw_lald (F : CallFix p m c cc nL s args Ts own) (hK : mw_K D cl tys Z s) (hI : mw_I D dA cl A S H0 H locs) {t0 : Nat} (ht : tys[t0]? = some (dA t0, .long)) {i : Int32} {v : Int64} (h : ldL S r t0 i = some v) (hdg : decode cc pc = .ok (.laload, 1))
    (kk : W p l e R s m args below meth c H locs cells slots Q (F0 m (pc + 1) ls (.long v :: rest))) : W p l e R s m args below meth c H locs cells slots Q (F0 m pc ls (.int i :: va_rf r :: rest)) := by
  obtain ⟨a, n, f, rfl, he, hin, rfl⟩ := ldL_inv h
  have hlt : i.toNatClampNeg < n := Nat.not_le.mp fun q => hin (Or.inr q)
  exact W.lald (v := .long (f i.toNatClampNeg)) F.1 F.2.1 (hI.1 a _ he) ((hK.1.2 t0 _ ht).1 n (fun j => .long (f j))) (fun q => by cases q) (by show ¬ (i < 0 ∨ (arrV _ _ _).slots.size ≤ _); rw [arrV_size]; exact hin) (by show (arrV _ _ _).slots[_]? = _; rw [arrV_read _ _ hlt]) rfl rfl hdg kk
theorem mw_aald (F : CallFix p m c cc nL s args Ts own) (hK : mw_K D cl tys Z s) (hI : mw_I D dA cl A S H0 H locs) {t0 : Nat} {C : String} (ht : tys[t0]? = some (dA t0, .object C)) {i : Int32} {v : Option Nat} (h : ldR S r t0 i = some v) (hdg : decode cc pc = .ok (.aaload, 1))
    (kk : W p l e R s m args below meth c H locs cells slots Q (F0 m (pc + 1) ls (va_rf v :: rest))) : W p l e R s m args below meth c H locs cells slots Q (F0 m pc ls (.int i :: va_rf r :: rest)) := by
  obtain ⟨a, n, f, rfl, he, hin, rfl⟩ := ldR_inv h
  have hlt : i.toNatClampNeg < n := Nat.not_le.mp fun q => hin (Or.inr q)
  exact W.aald (v := va_rf (f i.toNatClampNeg)) (ty := .object C) F.1 F.2.1 (hI.1 a _ he) ((hK.1.2 t0 _ ht).1 n (fun j => va_rf (f j))) rfl (fun q => by cases q) (by show ¬ (i < 0 ∨ (arrV _ _ _).slots.size ≤ _); rw [arrV_size]; exact hin) (by show (arrV _ _ _).slots[_]? = _; rw [arrV_read _ _ hlt]) rfl rfl hdg kk
theorem mw_iast (F : CallFix p m c cc nL s args Ts own) (hK : mw_K D cl tys Z s) (hI : mw_I D dA cl A S H0 H locs) {t0 : Nat} (ht : tys[t0]? = some (dA t0, .int)) {i x : Int32} (h : stI S r t0 i x = some S1) (hdg : decode cc pc = .ok (.iastore, 1))
    (kk : ∀ (H1 : Heap) (locs1 : List Loc), mw_I D dA cl A S1 H0 H1 locs1 → W p l e R s m args below meth c H1 locs1 cells slots Q (F0 m (pc + 1) ls rest)) : W p l e R s m args below meth c H locs cells slots Q (F0 m pc ls (.int x :: .int i :: va_rf r :: rest)) := by
  obtain ⟨a, n, f, rfl, he, hin, rfl⟩ := stI_inv h
  refine W.iast F.1 F.2.1 (hI.1 a _ he) ((hK.1.2 t0 _ ht).1 n (fun j => .int (f j))) (fun q => by cases q) (by show ¬ (i < 0 ∨ (arrV _ _ _).slots.size ≤ _); rw [arrV_size]; exact hin) rfl rfl hdg fun H1 e z oq => ?_
  refine kk H1 _ (hI.set he ?_ z oq)
  show H1[a]? = some (vp_cell _ _)
  rw [e]
  show some ((vp_cell _ (n, .inl f)).setSlot _ _) = _
  rw [vp_cell_i, vp_cell_i, arrV_store]
  congr 2
  funext q
  by_cases hq : q = i.toNatClampNeg
  · subst hq
    simp [updV, va_up]
  · simp [updV, va_up, hq]
theorem mw_zast (F : CallFix p m c cc nL s args Ts own) (hK : mw_K D cl tys Z s) (hI : mw_I D dA cl A S H0 H locs) {t0 : Nat} (ht : tys[t0]? = some (dA t0, .boolean)) {i x : Int32} (hx : narrow .boolean (.int x) = .int x) (h : stI S r t0 i x = some S1) (hdg : decode cc pc = .ok (.bastore, 1))
    (kk : ∀ (H1 : Heap) (locs1 : List Loc), mw_I D dA cl A S1 H0 H1 locs1 → W p l e R s m args below meth c H1 locs1 cells slots Q (F0 m (pc + 1) ls rest)) : W p l e R s m args below meth c H locs cells slots Q (F0 m pc ls (.int x :: .int i :: va_rf r :: rest)) := by
  obtain ⟨a, n, f, rfl, he, hin, rfl⟩ := stI_inv h
  refine W.zast F.1 F.2.1 (hI.1 a _ he) ((hK.1.2 t0 _ ht).1 n (fun j => .int (f j))) (fun q => by cases q) (by show ¬ (i < 0 ∨ (arrV _ _ _).slots.size ≤ _); rw [arrV_size]; exact hin) rfl rfl hdg fun H1 e z oq => ?_
  refine kk H1 _ (hI.set he ?_ z oq)
  show H1[a]? = some (vp_cell _ _)
  rw [e]
  show some ((vp_cell _ (n, .inl f)).setSlot _ _) = _
  rw [hx]
  rw [vp_cell_i, vp_cell_i, arrV_store]
  congr 2
  funext q
  by_cases hq : q = i.toNatClampNeg
  · subst hq
    simp [updV, va_up]
  · simp [updV, va_up, hq]
theorem mw_last (F : CallFix p m c cc nL s args Ts own) (hK : mw_K D cl tys Z s) (hI : mw_I D dA cl A S H0 H locs) {t0 : Nat} (ht : tys[t0]? = some (dA t0, .long)) {i : Int32} {x : Int64} (h : stL S r t0 i x = some S1) (hdg : decode cc pc = .ok (.lastore, 1))
    (kk : ∀ (H1 : Heap) (locs1 : List Loc), mw_I D dA cl A S1 H0 H1 locs1 → W p l e R s m args below meth c H1 locs1 cells slots Q (F0 m (pc + 1) ls rest)) : W p l e R s m args below meth c H locs cells slots Q (F0 m pc ls (.long x :: .int i :: va_rf r :: rest)) := by
  obtain ⟨a, n, f, rfl, he, hin, rfl⟩ := stL_inv h
  refine W.last F.1 F.2.1 (hI.1 a _ he) ((hK.1.2 t0 _ ht).1 n (fun j => .long (f j))) (fun q => by cases q) (by show ¬ (i < 0 ∨ (arrV _ _ _).slots.size ≤ _); rw [arrV_size]; exact hin) rfl rfl hdg fun H1 e z oq => ?_
  refine kk H1 _ (hI.set he ?_ z oq)
  show H1[a]? = some (vp_cell _ _)
  rw [e]
  show some ((vp_cell _ (n, .inr (.inl f))).setSlot _ _) = _
  rw [vp_cell_l, vp_cell_l, arrV_store]
  congr 2
  funext q
  by_cases hq : q = i.toNatClampNeg
  · subst hq
    simp [updV, va_up]
  · simp [updV, va_up, hq]
theorem mw_aast (F : CallFix p m c cc nL s args Ts own) (hK : mw_K D cl tys Z s) (hI : mw_I D dA cl A S H0 H locs) {t0 ci : Nat} {q0 : vw_C} (ht : tys[t0]? = some (dA t0, .object q0.1)) (hc : cl[ci]? = some q0) {i : Int32} {v : Option Nat} (h : stR S r t0 ci i v = some S1) (hdg : decode cc pc = .ok (.aastore, 1))
    (kk : ∀ (H1 : Heap) (locs1 : List Loc), mw_I D dA cl A S1 H0 H1 locs1 → W p l e R s m args below meth c H1 locs1 cells slots Q (F0 m (pc + 1) ls rest)) : W p l e R s m args below meth c H locs cells slots Q (F0 m pc ls (va_rf v :: .int i :: va_rf r :: rest)) := by
  obtain ⟨a, n, f, rfl, he, hin, hv, rfl⟩ := stR_inv h
  have hlt : i.toNatClampNeg < n := Nat.not_le.mp fun q => hin (Or.inr q)
  have h0 : ¬ i < 0 := fun q => hin (Or.inl q)
  cases v with
  | none =>
    refine va_WaastN (C := q0.1) F.1 F.2.1 (hI.1 a _ he) ((hK.1.2 t0 _ ht).1 n (fun j => va_rf (f j))) (fun h => by cases h) (by show ¬ (i < 0 ∨ (arrV _ _ _).slots.size ≤ _); rw [arrV_size]; exact hin) rfl rfl hdg fun H1 e z oq => ?_
    refine kk H1 _ (hI.set he ?_ z oq)
    show H1[a]? = some (vp_cell _ _)
    rw [e]
    show some ((vp_cell _ (n, .inr (.inr (.inr (.inr f))))).setSlot _ _) = _
    rw [vp_cell_q, vp_cell_q, arrV_store]
    congr 2
    funext q
    by_cases hq : q = i.toNatClampNeg
    · subst hq
      simp [updV, va_up, va_rf]
    · simp [updV, va_up, hq]
  | some y =>
    obtain ⟨vs, hy⟩ := hv y rfl
    obtain ⟨r', hr', cellV, g1, g2, g3, -⟩ := hI.1 y _ hy
    have hcls := (hK.1.1 ci q0 hc).2
    obtain ⟨kA, comp, k1, k2, k3, -⟩ := (hK.1.2 t0 _ ht).2
    have hcomp : comp = D.1 ci := Option.some.inj (k3.symm.trans hcls.1)
    subst hcomp
    obtain ⟨kC, hkC, -⟩ := hcls.2
    refine W.aast F.1 F.2.1 (hI.1 a _ he) (fun q h => by cases h) (fun h => by cases h) k1 k2 rfl hkC ⟨h0, by show _ < (arrV _ _ _).slots.size; rw [arrV_size]; exact hlt⟩ g1 (fun q h => by rw [g3] at h; cases h) (by rw [g2]; exact hkC) (by rw [g2]; exact va_assign hcls) rfl rfl hdg fun H1 e z oq => ?_
    refine kk H1 _ (hI.set he ?_ z oq)
    show H1[a]? = some (vp_cell _ _)
    rw [e]
    show some ((vp_cell _ (n, .inr (.inr (.inr (.inr f))))).setSlot _ _) = _
    rw [vp_cell_q, vp_cell_q, arrV_store]
    congr 2
    funext q
    by_cases hq : q = i.toNatClampNeg
    · subst hq
      simp [updV, va_up, va_rf]
    · simp [updV, va_up, hq]
theorem mw_alen (F : CallFix p m c cc nL s args Ts own) (hK : mw_K D cl tys Z s) (hI : mw_I D dA cl A S H0 H locs) {t0 : Nat} {ty : FieldType} (ht : tys[t0]? = some (dA t0, ty)) {v : Int32} (h : alen S r t0 = some v) (hdg : decode cc pc = .ok (.arraylength, 1))
    (kk : W p l e R s m args below meth c H locs cells slots Q (F0 m (pc + 1) ls (.int v :: rest))) : W p l e R s m args below meth c H locs cells slots Q (F0 m pc ls (va_rf r :: rest)) := by
  obtain ⟨a, x, rfl, he, rfl⟩ := alen_inv h
  have hP : va_P D cl [(a, .inl (dA t0, x))] H := fun k q hk => by
    have hz : k < 1 := (List.getElem?_eq_some_iff.mp hk).1
    rw [show k = 0 by omega] at hk
    cases hk
    exact hI.1 a _ he
  exact va_alen F.1 F.2.1 hK.1 hP 0 t0 rfl ht rfl hdg kk
theorem mw_new (F : CallFix p m c cc nL s args Ts own) (hK : mw_K D cl tys Z s) (hI : mw_I D dA cl A S H0 H locs) {C : String} {T : u_T} {N ci index : Nat} (hin : ∀ w ∈ u_ws C T N, w ∈ Ts) (ty : Nat → FieldType) (hty : ∀ k, k < N → parseFieldDescriptor (T k).2.2.1 = some (ty k)) (hcl : Cond.classLink own index C ∈ Ts) (hinst : Cond.instantiable C N ∈ Ts) (hini : Cond.initialized C ∈ Ts) (hc : cl[ci]? = some (C, T, N)) {fs : List Value} (hfs : ∀ j, j < N → defaultValue (ty j) = vp_V fs j) (hcells : cells + 1 ≤ R.cells) (hslots : slots + N ≤ R.slots) (hdg : decode cc pc = .ok (.new index, 3))
    (kk : ∀ H1 : Heap, mw_I D dA cl A (nwO ci fs S) H0 H1 locs → W p l e R s m args below meth c H1 locs (cells + 1) (slots + N) Q (F0 m (pc + 3) ls (va_rf (some S.2) :: rest))) : W p l e R s m args below meth c H locs cells slots Q (F0 m pc ls rest) := by
  obtain ⟨hexec, hb, -, hown, hts⟩ := F
  have hKn := hK.1.1 ci _ hc
  have hz := hI.2.1
  refine W.newcK hexec hb hown (hts _ hcl) (hts _ hinst) (hts _ hini) rfl hdg hcells hslots hKn.2.1 hz fun H1 kC hkC e1 z1 o1 => ?_
  exact kk H1 (hI.push ⟨_, hc, (u_born ty hts hin hKn hkC e1 hty).to hfs⟩ (by omega) (fun q hq => o1 q (by omega)))
theorem mw_newa (F : CallFix p m c cc nL s args Ts own) (hK : mw_K D cl tys Z s) (hI : mw_I D dA cl A S H0 H locs) {atype : ArrayType} {ty : FieldType} (harr : Cond.arrayClass (newarray.typeOf atype) ∈ Ts) (hty : newarray.typeOf atype = ty) {t0 cap : Nat} (ht : tys[t0]? = some (dA t0, ty)) (hprim : ∀ cB : ClassId, va_RA s cB ty = (s.vm.findClass ("[" ++ ty.toString) = some cB)) {n : Int32} {z : (Nat → Int32) ⊕ (Nat → Int64) ⊕ (Nat → UInt32) ⊕ (Nat → UInt64) ⊕ (Nat → Option Nat)} (h : nwA t0 cap n z S = some S1) (ha : ∀ N : Nat, vp_cell (dA t0) (N, z) = arrV (dA t0) N (fun _ => defaultValue ty)) (hbytes : cap * componentBytes ty ≤ 536870912) (hcells : cells + 1 ≤ R.cells) (hslots : slots + cap ≤ R.slots) (hdg : decode cc pc = .ok (.newarray atype, 2))
    (kk : ∀ H1 : Heap, mw_I D dA cl A S1 H0 H1 locs → W p l e R s m args below meth c H1 locs (cells + 1) (slots + cap) Q (F0 m (pc + 2) ls (va_rf (some S.2) :: rest))) : W p l e R s m args below meth c H locs cells slots Q (F0 m pc ls (.int n :: rest)) := by
  obtain ⟨hn, hcap, rfl⟩ := nwA_inv h
  obtain ⟨hexec, hb, -, hown, hts⟩ := F
  have hz := hI.2.1
  subst hty
  refine va_newaK hexec hb (hts _ harr) rfl hdg rfl hn rfl (Nat.le_trans (Nat.mul_le_mul_right _ hcap) hbytes) hcells (Nat.le_trans (Nat.add_le_add_left hcap _) hslots) hz fun H1 cB e1 z1 o1 hAr hNm => ?_
  have h2 := (hK.1.2 t0 _ ht).2
  rw [hprim] at h2
  have hAB : cB = dA t0 := Option.some.inj (hNm.symm.trans h2)
  subst hAB
  refine W.widen (k := cells + 1) (n := slots + cap) (Nat.le_refl _) (Nat.add_le_add_left hcap _) (kk H1 (hI.push ?_ (by omega) (fun q hq => o1 q (by omega))))
  show H1[S.2]? = some (vp_cell _ _)
  rw [ha]
  exact e1
theorem mw_anew (F : CallFix p m c cc nL s args Ts own) (hK : mw_K D cl tys Z s) (hI : mw_I D dA cl A S H0 H locs) {C : String} {index : Nat} (hcl : Cond.classLink own index C ∈ Ts) (hov : C ∈ Z.2) {t0 cap : Nat} (ht : tys[t0]? = some (dA t0, .object C)) {n : Int32} (h : nwA t0 cap n (.inr (.inr (.inr (.inr (fun _ => none))))) S = some S1) (hbytes : cap * 4 ≤ 536870912) (hcells : cells + 1 ≤ R.cells) (hslots : slots + cap ≤ R.slots) (hdg : decode cc pc = .ok (.anewarray index, 3))
    (kk : ∀ H1 : Heap, mw_I D dA cl A S1 H0 H1 locs → W p l e R s m args below meth c H1 locs (cells + 1) (slots + cap) Q (F0 m (pc + 3) ls (va_rf (some S.2) :: rest))) : W p l e R s m args below meth c H locs cells slots Q (F0 m pc ls (.int n :: rest)) := by
  obtain ⟨hn, hcap, rfl⟩ := nwA_inv h
  obtain ⟨hexec, hb, -, hown, hts⟩ := F
  have hz := hI.2.1
  rw [← hz] at kk
  refine W.anew hexec hb hown (hts _ hcl) (hK.2.2 C hov).use rfl hdg rfl hn (Nat.le_trans (Nat.mul_le_mul_right _ hcap) hbytes) hcells (Nat.le_trans (Nat.add_le_add_left hcap _) hslots) fun cB kA comp f1 f2 f3 f4 => ?_
  obtain ⟨kA', comp', g1, g2, g3, g4⟩ := (hK.1.2 t0 _ ht).2
  have hAB : cB = dA t0 := Option.some.inj (f1.symm.trans g4)
  subst hAB
  generalize hH1 : H.push ({ cls := dA t0, slots := Array.replicate n.toNatClampNeg .null, vm := .none } : Cell) = H1
  have z1 : H1.size = H.size + 1 := by rw [← hH1, Array.size_push]
  have e1 : H1[H.size]? = some (arrV (dA t0) n.toNatClampNeg (fun _ => .null)) := by rw [← hH1, Array.getElem?_push_size, ← arrV_new]
  have o1 : ∀ q : Nat, q < H.size → H1[q]? = H[q]? := fun q hq => by rw [← hH1, Array.getElem?_push, if_neg (Nat.ne_of_lt hq)]
  refine W.widen (k := cells + 1) (n := slots + cap) (Nat.le_refl _) (Nat.add_le_add_left hcap _) (kk H1 ?_)
  have hh := hI.push (x1 := .inl (t0, n.toNatClampNeg, .inr (.inr (.inr (.inr (fun _ => none)))))) (by
    show H1[S.2]? = some (vp_cell _ _)
    rw [vp_cell_q, ← hz]
    exact e1) z1 o1
  rw [hz]
  exact hh
end MW
section MX
variable {p : Program} {l : Launch} {e : Env} {R : Room} {s : State} {m : MethodId} {args : Array Value} {below : List Frame} {meth : Method} {c : Code} {H : Heap} {locs : List Loc} {cells slots : Nat} {Q : State → Prop}
variable {cc : ByteArray} {pc nL : Nat} {ls : Array Slot} {rest : List Value} {D : va_G} {dA : Nat → ClassId} {cl : List vw_C} {A : Nat → Prop} {tys : List (ClassId × FieldType)} {Z : mw_Z} {H0 : Heap} {S S1 : mc_S} {Ts : List Cond} {own : String} {r : Option Nat}
theorem mw_aload_n (F : CallFix p m c cc nL s args Ts own) {k : Fin 4} {i : Nat} (hdg : decode cc pc = .ok (.aload_n k, 1)) (hi : (k : Nat) = i) (hl : ls[i]? = some (.val (va_rf r))) (kk : W p l e R s m args below meth c H locs cells slots Q (F0 m (pc + 1) ls (va_rf r :: rest))) : W p l e R s m args below meth c H locs cells slots Q (F0 m pc ls rest) := by
  cases r with
  | none => exact lv_aload_nN F.1 F.2.1 hdg hi hl kk
  | some y => exact lv_aload_n F.1 F.2.1 hdg hi hl kk
theorem mw_aload (F : CallFix p m c cc nL s args Ts own) {i : Nat} (hdg : decode cc pc = .ok (.aload i, 2)) (hl : ls[i]? = some (.val (va_rf r))) (kk : W p l e R s m args below meth c H locs cells slots Q (F0 m (pc + 2) ls (va_rf r :: rest))) : W p l e R s m args below meth c H locs cells slots Q (F0 m pc ls rest) := by
  cases r with
  | none => exact lv_aloadN F.1 F.2.1 hdg hl kk
  | some y => exact lv_aload F.1 F.2.1 hdg hl kk
theorem mw_cat (r : Option Nat) : (va_rf r).category = 1 := by cases r <;> rfl
theorem mw_cI (x : Int32) : (Value.int x).category = 1 := rfl
theorem mw_cL (x : Int64) : (Value.long x).category = 2 := rfl
theorem mw_null (F : CallFix p m c cc nL s args Ts own) (hdg : decode cc pc = .ok (.aconst_null, 1)) (kk : W p l e R s m args below meth c H locs cells slots Q (F0 m (pc + 1) ls (va_rf none :: rest))) : W p l e R s m args below meth c H locs cells slots Q (F0 m pc ls rest) := lv_null F.1 F.2.1 hdg kk
theorem mw_ifnull (F : CallFix p m c cc nL s args Ts own) {off : Int} {tgt : Nat} (hdg : decode cc pc = .ok (.ifnull off, 3)) (ht : (pc : Int) + off = (tgt : Int)) (kt : r = none → W p l e R s m args below meth c H locs cells slots Q (F0 m tgt ls rest)) (kf : ¬ r = none → W p l e R s m args below meth c H locs cells slots Q (F0 m (pc + 3) ls rest)) : W p l e R s m args below meth c H locs cells slots Q (F0 m pc ls (va_rf r :: rest)) := by
  cases r with
  | none => exact lv_ifnullN F.1 F.2.1 hdg ht (kt rfl)
  | some y => exact lv_ifnull F.1 F.2.1 hdg (kf (fun h => by cases h))
theorem mw_ifnonnull (F : CallFix p m c cc nL s args Ts own) {off : Int} {tgt : Nat} (hdg : decode cc pc = .ok (.ifnonnull off, 3)) (ht : (pc : Int) + off = (tgt : Int)) (kt : ¬ r = none → W p l e R s m args below meth c H locs cells slots Q (F0 m tgt ls rest)) (kf : r = none → W p l e R s m args below meth c H locs cells slots Q (F0 m (pc + 3) ls rest)) : W p l e R s m args below meth c H locs cells slots Q (F0 m pc ls (va_rf r :: rest)) := by
  cases r with
  | none => exact lv_ifnonnullN F.1 F.2.1 hdg (kf rfl)
  | some y => exact lv_ifnonnull F.1 F.2.1 hdg ht (kt (fun h => by cases h))
theorem mw_tabIn (F : CallFix p m c cc nL s args Ts own) {dflt lo hi : Int} {offs : Array Int} {len : Nat} {x k : Int32} {off : Int} {tgt : Nat} (hx : x = k) (hdg : decode cc pc = .ok (.tableswitch dflt lo hi offs, len)) (h1 : ¬ k.toInt < lo) (h2 : ¬ hi < k.toInt) (ho : offs[(k.toInt - lo).toNat]? = some off) (ht : (pc : Int) + off = (tgt : Int))
    (kk : W p l e R s m args below meth c H locs cells slots Q (F0 m tgt ls rest)) : W p l e R s m args below meth c H locs cells slots Q (F0 m pc ls (.int x :: rest)) := by
  subst hx
  exact lv_tableIn F.1 F.2.1 hdg h1 h2 ho ht kk
theorem mw_objInit (F : CallFix p m c cc nL s args Ts own) {idx a : Nat} (hlink : Cond.methodLink own idx Lib.objectInit ∈ Ts) (hinst : Cond.instanceMethod Lib.objectInit ∈ Ts) (hcode : Cond.code Lib.objectInit ⟨#[0xb1]⟩ 1 none ∈ Ts) (hls : ls.size = nL) (hdg : decode cc pc = .ok (.invokespecial idx, 3)) (hf : 1 ≤ R.frames) (hlo : (rest.map fun v => v.category).sum + 12 ≤ R.locals)
    (kk : W p l e R s m args below meth c H locs cells slots Q (F0 m (pc + 3) ls rest)) : W p l e R s m args below meth c H locs cells slots Q (F0 m pc ls (va_rf (some a) :: rest)) := by
  obtain ⟨hexec, hb, hml, hown, hts⟩ := F
  exact W.objInit hexec hb hown (hts _ hlink) (hts _ hinst) (hts _ hcode) rfl (by rw [hml]; exact hls) rfl hdg hf (by show 2 * 0 + _ + 12 ≤ _; omega) kk
theorem mw_nn {z : Int32} (hz : ¬ z < 0) : z.toInt = (z.toNatClampNeg : Int) := by
  have hz0 : (0 : Int) ≤ z.toInt := by
    have := Int32.not_lt.mp hz
    simpa using Int32.le_iff_toInt_le.mp this
  show z.toInt = ((z.toInt.toNat : Nat) : Int)
  omega
theorem mw_copyi (F : CallFix p m c cc nL s args Ts own) (hK : mw_K D cl tys Z s) (hI : mw_I D dA cl A S H0 H locs) {index t0 : Nat} (hlink : Cond.methodLink own index arraycopyName ∈ Ts) (hnat : Cond.native arraycopyName ∈ Ts) (hstat : Cond.static arraycopyName ∈ Ts) (hini : Cond.initialized "java/lang/System" ∈ Ts) (ht : tys[t0]? = some (dA t0, .int))
    {r0 r1 : Option Nat} {sp dp n : Int32} (h : cpI S r0 sp r1 dp n t0 = some S1) (hls : ls.size = nL) (hframes : 1 ≤ R.frames) (hlocals : (rest.map fun v => v.category).sum + (nativeFrameWords "java/lang/System" "arraycopy" 5 + 11) ≤ R.locals) (hdg : decode cc pc = .ok (.invokestatic index, 3))
    (kk : ∀ (H1 : Heap) (locs1 : List Loc), mw_I D dA cl A S1 H0 H1 locs1 → W p l e R s m args below meth c H1 locs1 cells slots Q (F0 m (pc + 3) ls rest)) : W p l e R s m args below meth c H locs cells slots Q (F0 m pc ls (.int n :: .int dp :: va_rf r1 :: .int sp :: va_rf r0 :: rest)) := by
  obtain ⟨a0, a, n0, n1, f, g, rfl, rfl, he0, he1, ⟨h1, h2, h3, h4, h5⟩, rfl⟩ := cpI_inv h
  obtain ⟨hexec, hb, hml, hown, hts⟩ := F
  intro T hT X
  have hc0 : H[a0]? = some (vp_cell (dA t0) (n0, .inl f)) := hI.1 a0 _ he0
  have hc1 : H[a]? = some (vp_cell (dA t0) (n1, .inl g)) := hI.1 a _ he1
  obtain ⟨-, k0, hk0, cm0, hkk0⟩ := (hK.1.2 t0 _ ht).1 n0 (fun j => .int (f j))
  obtain ⟨-, k1, hk1, cm1, hkk1⟩ := (hK.1.2 t0 _ ht).1 n1 (fun j => .int (g j))
  obtain ⟨vm', X', step⟩ := X.arraycopy hexec hown (hts _ hlink) (hts _ hnat) (hts _ hstat) (hts _ hini) (src := a0) (dst := a) (cs := vp_cell (dA t0) (n0, .inl f)) (cd := vp_cell (dA t0) (n1, .inl g)) (srcPos := sp) (destPos := dp) (n := n) (by rw [hT]; exact hc0) (by rw [hT]; exact hc1)
    (fun _ h => by cases h) (fun _ h => by cases h) (fun h => by cases h) (fun h => by cases h) hk0 hk1 hkk0 hkk1 (by simp [refKind]) h1 h2 h3
    (by rw [mw_nn h1, mw_nn h3]; show ¬ _ > ((arrV (dA t0) n0 (fun j => .int (f j))).slots.size : Int); rw [arrV_size]; omega)
    (by rw [mw_nn h2, mw_nn h3]; show ¬ _ > ((arrV (dA t0) n1 (fun j => .int (g j))).slots.size : Int); rw [arrV_size]; omega)
    (fun vm₁ _ i hi => by
      have e : (vp_cell (dA t0) (n0, .inl f)).slots.getD (sp.toNatClampNeg + i) .null = .int (f (sp.toNatClampNeg + i)) := by
        show (arrV (dA t0) n0 (fun j => .int (f j))).slots.getD _ _ = _
        rw [Array.getD_eq_getD_getElem?, arrV_read _ _ (by omega)]
        rfl
      refine ⟨?_, ?_⟩
      · rw [e]
        rfl
      · rw [e]
        exact trivial)
    (g := F0 m pc ls (.int n :: .int dp :: .ref a :: .int sp :: .ref a0 :: rest)) rfl (by rw [hml]; exact hls) (rest := rest) rfl (by rw [hb]; exact hdg) hframes (by show 2 * 0 + _ + _ ≤ _; omega)
  have e1 : copied (vp_cell (dA t0) (n0, .inl f)) (vp_cell (dA t0) (n1, .inl g)) sp dp n = vp_cell (dA t0) (n1, .inl (va_cpy f g sp.toNatClampNeg dp.toNatClampNeg n.toNatClampNeg)) := va_copied (fun z => .int z) (dA t0) (dA t0) f g h4
  rw [e1] at X' step
  have hl : a < H.size := (Array.getElem?_eq_some_iff.mp hc1).1
  have hheap : ((T.setVm vm').setCell a (vp_cell (dA t0) (n1, .inl (va_cpy f g sp.toNatClampNeg dp.toNatClampNeg n.toNatClampNeg)))).heap = H.setIfInBounds a (vp_cell (dA t0) (n1, .inl (va_cpy f g sp.toNatClampNeg dp.toNatClampNeg n.toNatClampNeg))) := by rw [← hT]; rfl
  have oq : ∀ q : Nat, q ≠ a → (H.setIfInBounds a (vp_cell (dA t0) (n1, .inl (va_cpy f g sp.toNatClampNeg dp.toNatClampNeg n.toNatClampNeg))))[q]? = H[q]? := fun q hq => by simp [Array.getElem?_setIfInBounds, Ne.symm hq]
  obtain ⟨hP, hz, hA, hN, hS⟩ := hI
  have hx : va_at D cl (a, mw_tr dA (.inl (t0, n1, .inl (va_cpy f g sp.toNatClampNeg dp.toNatClampNeg n.toNatClampNeg)))) (H.setIfInBounds a (vp_cell (dA t0) (n1, .inl (va_cpy f g sp.toNatClampNeg dp.toNatClampNeg n.toNatClampNeg)))) := by
    show (H.setIfInBounds a _)[a]? = some _
    simp [Array.getElem?_setIfInBounds, hl, mw_tr]
  have hI2 := mw_I.set (k := 0) ⟨hP, hz, hA, hN, hS⟩ he1 hx (by simp) oq
  obtain ⟨t, a1, b1⟩ := kk _ _ ⟨hI2.1, hI2.2.1, hI2.2.2.1, hI2.2.2.2.1, hI2.2.2.2.2.1, hI2.2.2.2.2.2.1, fun q hq => by
      rcases List.mem_append.mp hq with h | h
      · exact hS.2.2 q h
      · obtain ⟨z, -, hz⟩ := List.mem_map.mp h
        rw [← hz]
        exact hA a _ he1⟩ _ hheap X'
  exact ⟨t, step t a1, b1⟩
theorem mw_copyl (F : CallFix p m c cc nL s args Ts own) (hK : mw_K D cl tys Z s) (hI : mw_I D dA cl A S H0 H locs) {index t0 : Nat} (hlink : Cond.methodLink own index arraycopyName ∈ Ts) (hnat : Cond.native arraycopyName ∈ Ts) (hstat : Cond.static arraycopyName ∈ Ts) (hini : Cond.initialized "java/lang/System" ∈ Ts) (ht : tys[t0]? = some (dA t0, .long))
    {r0 r1 : Option Nat} {sp dp n : Int32} (h : cpL S r0 sp r1 dp n t0 = some S1) (hls : ls.size = nL) (hframes : 1 ≤ R.frames) (hlocals : (rest.map fun v => v.category).sum + (nativeFrameWords "java/lang/System" "arraycopy" 5 + 11) ≤ R.locals) (hdg : decode cc pc = .ok (.invokestatic index, 3))
    (kk : ∀ (H1 : Heap) (locs1 : List Loc), mw_I D dA cl A S1 H0 H1 locs1 → W p l e R s m args below meth c H1 locs1 cells slots Q (F0 m (pc + 3) ls rest)) : W p l e R s m args below meth c H locs cells slots Q (F0 m pc ls (.int n :: .int dp :: va_rf r1 :: .int sp :: va_rf r0 :: rest)) := by
  obtain ⟨a0, a, n0, n1, f, g, rfl, rfl, he0, he1, ⟨h1, h2, h3, h4, h5⟩, rfl⟩ := cpL_inv h
  obtain ⟨hexec, hb, hml, hown, hts⟩ := F
  intro T hT X
  have hc0 : H[a0]? = some (vp_cell (dA t0) (n0, .inr (.inl f))) := hI.1 a0 _ he0
  have hc1 : H[a]? = some (vp_cell (dA t0) (n1, .inr (.inl g))) := hI.1 a _ he1
  obtain ⟨-, k0, hk0, cm0, hkk0⟩ := (hK.1.2 t0 _ ht).1 n0 (fun j => .long (f j))
  obtain ⟨-, k1, hk1, cm1, hkk1⟩ := (hK.1.2 t0 _ ht).1 n1 (fun j => .long (g j))
  obtain ⟨vm', X', step⟩ := X.arraycopy hexec hown (hts _ hlink) (hts _ hnat) (hts _ hstat) (hts _ hini) (src := a0) (dst := a) (cs := vp_cell (dA t0) (n0, .inr (.inl f))) (cd := vp_cell (dA t0) (n1, .inr (.inl g))) (srcPos := sp) (destPos := dp) (n := n) (by rw [hT]; exact hc0) (by rw [hT]; exact hc1)
    (fun _ h => by cases h) (fun _ h => by cases h) (fun h => by cases h) (fun h => by cases h) hk0 hk1 hkk0 hkk1 (by simp [refKind]) h1 h2 h3
    (by rw [mw_nn h1, mw_nn h3]; show ¬ _ > ((arrV (dA t0) n0 (fun j => .long (f j))).slots.size : Int); rw [arrV_size]; omega)
    (by rw [mw_nn h2, mw_nn h3]; show ¬ _ > ((arrV (dA t0) n1 (fun j => .long (g j))).slots.size : Int); rw [arrV_size]; omega)
    (fun vm₁ _ i hi => by
      have e : (vp_cell (dA t0) (n0, .inr (.inl f))).slots.getD (sp.toNatClampNeg + i) .null = .long (f (sp.toNatClampNeg + i)) := by
        show (arrV (dA t0) n0 (fun j => .long (f j))).slots.getD _ _ = _
        rw [Array.getD_eq_getD_getElem?, arrV_read _ _ (by omega)]
        rfl
      refine ⟨?_, ?_⟩
      · rw [e]
        rfl
      · rw [e]
        exact trivial)
    (g := F0 m pc ls (.int n :: .int dp :: .ref a :: .int sp :: .ref a0 :: rest)) rfl (by rw [hml]; exact hls) (rest := rest) rfl (by rw [hb]; exact hdg) hframes (by show 2 * 0 + _ + _ ≤ _; omega)
  have e1 : copied (vp_cell (dA t0) (n0, .inr (.inl f))) (vp_cell (dA t0) (n1, .inr (.inl g))) sp dp n = vp_cell (dA t0) (n1, .inr (.inl (va_cpy f g sp.toNatClampNeg dp.toNatClampNeg n.toNatClampNeg))) := va_copied (fun z => .long z) (dA t0) (dA t0) f g h4
  rw [e1] at X' step
  have hl : a < H.size := (Array.getElem?_eq_some_iff.mp hc1).1
  have hheap : ((T.setVm vm').setCell a (vp_cell (dA t0) (n1, .inr (.inl (va_cpy f g sp.toNatClampNeg dp.toNatClampNeg n.toNatClampNeg))))).heap = H.setIfInBounds a (vp_cell (dA t0) (n1, .inr (.inl (va_cpy f g sp.toNatClampNeg dp.toNatClampNeg n.toNatClampNeg)))) := by rw [← hT]; rfl
  have oq : ∀ q : Nat, q ≠ a → (H.setIfInBounds a (vp_cell (dA t0) (n1, .inr (.inl (va_cpy f g sp.toNatClampNeg dp.toNatClampNeg n.toNatClampNeg)))))[q]? = H[q]? := fun q hq => by simp [Array.getElem?_setIfInBounds, Ne.symm hq]
  obtain ⟨hP, hz, hA, hN, hS⟩ := hI
  have hx : va_at D cl (a, mw_tr dA (.inl (t0, n1, .inr (.inl (va_cpy f g sp.toNatClampNeg dp.toNatClampNeg n.toNatClampNeg))))) (H.setIfInBounds a (vp_cell (dA t0) (n1, .inr (.inl (va_cpy f g sp.toNatClampNeg dp.toNatClampNeg n.toNatClampNeg))))) := by
    show (H.setIfInBounds a _)[a]? = some _
    simp [Array.getElem?_setIfInBounds, hl, mw_tr]
  have hI2 := mw_I.set (k := 0) ⟨hP, hz, hA, hN, hS⟩ he1 hx (by simp) oq
  obtain ⟨t, a1, b1⟩ := kk _ _ ⟨hI2.1, hI2.2.1, hI2.2.2.1, hI2.2.2.2.1, hI2.2.2.2.2.1, hI2.2.2.2.2.2.1, fun q hq => by
      rcases List.mem_append.mp hq with h | h
      · exact hS.2.2 q h
      · obtain ⟨z, -, hz⟩ := List.mem_map.mp h
        rw [← hz]
        exact hA a _ he1⟩ _ hheap X'
  exact ⟨t, step t a1, b1⟩
end MX
section MY
variable {p : Program} {l : Launch} {e : Env} {R : Room} {s : State} {m : MethodId} {args : Array Value} {below : List Frame} {meth : Method} {c : Code} {H : Heap} {locs : List Loc} {cells slots : Nat} {Q : State → Prop}
variable {cc bytes : ByteArray} {pc nL maxL index n mc ms : Nat} {ls : Array Slot} {rest st0 As : List Value} {D : va_G} {dA : Nat → ClassId} {cl : List vw_C} {A : Nat → Prop} {tys : List (ClassId × FieldType)} {Z : mw_Z} {H0 : Heap} {S S1 : mc_S} {Ts ws : List Cond} {own C : String} {r : Option Nat} {y : MethodName} {ret : Option FieldType} {rm : Room} {Qc : Array Value → State → Outcome → State → Prop} {b : Nat} {g : JFrame} {a : Array Value}
theorem mw_blind {av : List Value} : FrameBlind (va_Pc av (mw_B D dA cl tys Z A S)) := fun _ U _ _ q => ⟨q.1, q.2.1, q.2.2.1, q.2.2.2.1, q.2.2.2.2.1, mw_K.same (u := U) rfl q.2.2.2.2.2⟩
theorem mw_pre (hK : mw_K D cl tys Z s) (hI : mw_I D dA cl A S s.heap H locs) {U : State} (hU : U.heap = H) (hW : s.WarmedH U.vm) {av : List Value} : va_Pc av (mw_B D dA cl tys Z A S) av.toArray U :=
  ⟨rfl, by rw [hU]; exact hI.1, by rw [hU]; exact hI.2.1, hI.2.2.1, fun q hq => hI.2.2.2.1 q (Nat.le_trans hI.2.2.2.2.1 (by rw [hI.2.1]; exact hq)), hK.warm hW⟩
theorem mw_preS (hK : mw_K D cl tys Z s) (hI : mw_I D dA cl A S s.heap H locs) {av : List Value} : PreS s H (va_Pc av (mw_B D dA cl tys Z A S)) av := ⟨mw_blind, fun _ hU hW => mw_pre hK hI hU hW⟩
theorem mw_runV (F : CallFix p m c cc nL s args Ts own) (hK : mw_K D cl tys Z s) (hI : mw_I D dA cl A S s.heap H locs) (hM : Met l y ws rm (va_Pc (va_rf (some b) :: As) (mw_B D dA cl tys Z A S)) Qc mc ms A) (cw : CallW R s args own C index y bytes maxL ret ws rm mc ms n) {ci : Nat} {T : u_T} {N : Nat} (hc : cl[ci]? = some (C, T, N)) (hr : rcv S r ci = some b)
    (hn : As.length = n) (hsize : ls.size = nL) (hstack : st0 = As.reverse ++ va_rf r :: rest) (hW : (rest.map fun v => v.category).sum ≤ 8) (hdg : decode cc pc = .ok (.invokevirtual index, 3)) (hf : cells + mc ≤ R.cells ∧ slots + ms ≤ R.slots) :
    va_Run p l e R s m args below meth c H locs cells slots mc ms (F0 m pc ls st0) rest (Qc (Value.ref b :: As).toArray) A := by
  obtain ⟨rfl, fs, he⟩ := rcv_inv hr
  obtain ⟨q, h1, cell, q1, q2, q3, q4⟩ := hI.1 b _ he
  have hr : q = (C, T, N) := Option.some.inj (h1.symm.trans hc)
  subst hr
  have hKn := hK.1.1 ci _ hc
  exact va_runV F hM cw ⟨mw_blind, ⟨cell, q1, by rw [q3]; rfl, by rw [q2]; exact hKn.2.1⟩, fun U hU hW => mw_pre hK hI hU hW⟩ rfl hn hsize hstack (lv_room hW) hdg hf
theorem mw_runS (F : CallFix p m c cc nL s args Ts own) (hK : mw_K D cl tys Z s) (hI : mw_I D dA cl A S s.heap H locs) (hM : Met l y ws rm (va_Pc As (mw_B D dA cl tys Z A S)) Qc mc ms A) (cw : CallB R s args own index y bytes maxL ret ws rm mc ms n ∧ (Cond.static y).before args s = true)
    (hn : As.length = n) (hsize : ls.size = nL) (hstack : st0 = As.reverse ++ rest) (hW : (rest.map fun v => v.category).sum ≤ 8) (hdg : decode cc pc = .ok (.invokestatic index, 3)) (hf : cells + mc ≤ R.cells ∧ slots + ms ≤ R.slots) :
    va_Run p l e R s m args below meth c H locs cells slots mc ms (F0 m pc ls st0) rest (Qc As.toArray) A := va_runS F hM cw (mw_preS hK hI) rfl hn hsize hstack (lv_room hW) hdg hf
theorem mw_runI (F : CallFix p m c cc nL s args Ts own) (hK : mw_K D cl tys Z s) (hI : mw_I D dA cl A S s.heap H locs) (hM : Met l y ws rm (va_Pc (va_rf (some b) :: As) (mw_B D dA cl tys Z A S)) Qc mc ms A) (cw : CallB R s args own index y bytes maxL none ws rm mc ms n ∧ y.name = "<init>" ∧ (Cond.instanceMethod y).before args s = true) {ci : Nat} (hr : rcv S r ci = some b)
    (hn : As.length = n) (hsize : ls.size = nL) (hstack : st0 = As.reverse ++ va_rf r :: rest) (hW : (rest.map fun v => v.category).sum ≤ 8) (hdg : decode cc pc = .ok (.invokespecial index, 3)) (hf : cells + mc ≤ R.cells ∧ slots + ms ≤ R.slots) :
    va_Run p l e R s m args below meth c H locs cells slots mc ms (F0 m pc ls st0) rest (Qc (Value.ref b :: As).toArray) A := by
  obtain ⟨rfl, fs, he⟩ := rcv_inv hr
  exact va_runI F hM cw (mw_preS (av := va_rf (some b) :: As) hK hI) rfl hn hsize hstack (lv_room hW) hdg hf
theorem mw_runIN (F : CallFix p m c cc nL s args Ts own) (hK : mw_K D cl tys Z s) (hI : mw_I D dA cl A S s.heap H locs) (hM : Met l y ws rm (va_Pc (va_rf (some b) :: As) (mw_B D dA cl tys Z A S)) Qc mc ms A) {host : String} (cw : va_CN R s args own index y host bytes maxL none ws rm mc ms n ∧ y.name = "<init>" ∧ (Cond.instanceMethod y).before args s = true) {ci : Nat} (hr : rcv S r ci = some b)
    (hn : As.length = n) (hsize : ls.size = nL) (hstack : st0 = As.reverse ++ va_rf r :: rest) (hW : (rest.map fun v => v.category).sum ≤ 8) (hdg : decode cc pc = .ok (.invokespecial index, 3)) (hf : cells + mc ≤ R.cells ∧ slots + ms ≤ R.slots) :
    va_Run p l e R s m args below meth c H locs cells slots mc ms (F0 m pc ls st0) rest (Qc (Value.ref b :: As).toArray) A := by
  obtain ⟨rfl, fs, he⟩ := rcv_inv hr
  exact va_runIN F hM cw (mw_preS (av := va_rf (some b) :: As) hK hI) rfl hn hsize hstack (lv_room hW) hdg hf
theorem mw_back (hI : mw_I D dA cl A S H0 H locs) {t : State} {H1 : Heap} {locs1 : List Loc} (ht : t.heap = H1) (hB : mw_R D dA cl A S1 t) (hS : va_S A H0 H1 locs1) : mw_I D dA cl A S1 H0 H1 locs1 := ⟨by rw [← ht]; exact hB.1, by rw [← ht]; exact hB.2.1, hB.2.2, hI.2.2.2.1, hS⟩
theorem mw_calli (hI : mw_I D dA cl A S s.heap H locs) {out : Int32 × mc_S} (hr : va_Run p l e R s m args below meth c H locs cells slots mc ms (F0 m pc ls st0) rest (va_Qi (fun x (_ : Unit) => x = out.1) (fun _ t => mw_R D dA cl A out.2 t) A a) A)
    (kk : ∀ (H1 : Heap) (locs1 : List Loc), mw_I D dA cl A out.2 s.heap H1 locs1 → W p l e R s m args below meth c H1 locs1 (cells + mc) (slots + ms) Q (F0 m (pc + 3) ls (.int out.1 :: rest))) : W p l e R s m args below meth c H locs cells slots Q (F0 m pc ls st0) :=
  va_calli hr hI.2.2.2.2 (fun _ _ h => h) (fun _ h => h) (fun x _ t H1 locs1 ht _ hx hB _ _ hS => by subst hx; exact kk H1 locs1 (mw_back hI ht hB hS))
theorem mw_calll (hI : mw_I D dA cl A S s.heap H locs) {out : Int64 × mc_S} (hr : va_Run p l e R s m args below meth c H locs cells slots mc ms (F0 m pc ls st0) rest (va_Ql (fun x (_ : Unit) => x = out.1) (fun _ t => mw_R D dA cl A out.2 t) A a) A)
    (kk : ∀ (H1 : Heap) (locs1 : List Loc), mw_I D dA cl A out.2 s.heap H1 locs1 → W p l e R s m args below meth c H1 locs1 (cells + mc) (slots + ms) Q (F0 m (pc + 3) ls (.long out.1 :: rest))) : W p l e R s m args below meth c H locs cells slots Q (F0 m pc ls st0) :=
  va_calll hr hI.2.2.2.2 (fun _ _ h => h) (fun _ h => h) (fun x _ t H1 locs1 ht _ hx hB _ _ hS => by subst hx; exact kk H1 locs1 (mw_back hI ht hB hS))
theorem mw_callq (hI : mw_I D dA cl A S s.heap H locs) {out : Option Nat × mc_S} (hr : va_Run p l e R s m args below meth c H locs cells slots mc ms (F0 m pc ls st0) rest (va_Qq (fun x (_ : Unit) => x = out.1) (fun _ t => mw_R D dA cl A out.2 t) A a) A)
    (kk : ∀ (H1 : Heap) (locs1 : List Loc), mw_I D dA cl A out.2 s.heap H1 locs1 → W p l e R s m args below meth c H1 locs1 (cells + mc) (slots + ms) Q (F0 m (pc + 3) ls (va_rf out.1 :: rest))) : W p l e R s m args below meth c H locs cells slots Q (F0 m pc ls st0) :=
  va_callq hr hI.2.2.2.2 (fun _ _ h => h) (fun _ h => h) (fun x _ t H1 locs1 ht _ hx hB _ _ hS => by subst hx; exact kk H1 locs1 (mw_back hI ht hB hS))
theorem mw_callv (hI : mw_I D dA cl A S s.heap H locs) {out : mc_S} (hr : va_Run p l e R s m args below meth c H locs cells slots mc ms (F0 m pc ls st0) rest (va_Qv (fun (_ : Unit) => True) (fun _ t => mw_R D dA cl A out t) A a) A)
    (kk : ∀ (H1 : Heap) (locs1 : List Loc), mw_I D dA cl A out s.heap H1 locs1 → W p l e R s m args below meth c H1 locs1 (cells + mc) (slots + ms) Q (F0 m (pc + 3) ls rest)) : W p l e R s m args below meth c H locs cells slots Q (F0 m pc ls st0) :=
  va_callv hr hI.2.2.2.2 (fun _ _ h => h) (fun _ h => h) (fun _ t H1 locs1 ht _ _ hB _ _ hS => kk H1 locs1 (mw_back hI ht hB hS))
theorem mw_end (hI : mw_I D dA cl A S s.heap H locs) {t : State} (ht : t.heap = H) : mw_R D dA cl A S t := ⟨by rw [ht]; exact hI.1, by rw [ht]; exact hI.2.1, hI.2.2.1⟩
theorem mw_iret (F : CallFix p m c cc nL s args Ts own) (hI : mw_I D dA cl A S s.heap H locs) (hr : meth.sig.returnType = some .int) (hlk : meth.locks = false) {out : Int32 × mc_S} {v : Int32} (h : some (v, S) = some out) (hc : cells ≤ mc) (hs : slots ≤ ms) (hdg : decode cc pc = .ok (.ireturn, 1)) :
    W p l e R s m args below meth c H locs cells slots (MQ below (va_Qi (fun x (_ : Unit) => x = out.1) (fun _ t => mw_R D dA cl A out.2 t) A) args s mc ms A) (F0 m pc ls [.int v]) := by
  cases h
  exact W.widen hc hs (W.iret F.1 F.2.1 hr (fun t ht _ => ⟨⟨_, (), rfl, rfl, mw_end hI ht⟩, hI.2.2.2.2.F ht⟩) hI.2.2.2.2.2.2 hdg hlk)
theorem mw_zret (F : CallFix p m c cc nL s args Ts own) (hI : mw_I D dA cl A S s.heap H locs) {ty : FieldType} (hr : meth.sig.returnType = some ty) (hlk : meth.locks = false) {out : Int32 × mc_S} {v : Int32} (hn : narrow ty (.int v) = .int v) (h : some (v, S) = some out) (hc : cells ≤ mc) (hs : slots ≤ ms) (hdg : decode cc pc = .ok (.ireturn, 1)) :
    W p l e R s m args below meth c H locs cells slots (MQ below (va_Qi (fun x (_ : Unit) => x = out.1) (fun _ t => mw_R D dA cl A out.2 t) A) args s mc ms A) (F0 m pc ls [.int v]) := by
  cases h
  exact W.widen hc hs (W.zret F.1 F.2.1 hr hn (fun t ht _ => ⟨⟨_, (), rfl, rfl, mw_end hI ht⟩, hI.2.2.2.2.F ht⟩) hI.2.2.2.2.2.2 hdg hlk)
theorem mw_lret (F : CallFix p m c cc nL s args Ts own) (hI : mw_I D dA cl A S s.heap H locs) (hr : meth.sig.returnType = some .long) (hlk : meth.locks = false) {out : Int64 × mc_S} {v : Int64} (h : some (v, S) = some out) (hc : cells ≤ mc) (hs : slots ≤ ms) (hdg : decode cc pc = .ok (.lreturn, 1)) :
    W p l e R s m args below meth c H locs cells slots (MQ below (va_Ql (fun x (_ : Unit) => x = out.1) (fun _ t => mw_R D dA cl A out.2 t) A) args s mc ms A) (F0 m pc ls [.long v]) := by
  cases h
  exact W.widen hc hs (W.lret F.1 F.2.1 hr (fun t ht _ => ⟨⟨_, (), rfl, rfl, mw_end hI ht⟩, hI.2.2.2.2.F ht⟩) hI.2.2.2.2.2.2 hdg hlk)
theorem mw_qret (F : CallFix p m c cc nL s args Ts own) (hI : mw_I D dA cl A S s.heap H locs) {C : String} (hr : meth.sig.returnType = some (.object C)) (hlk : meth.locks = false) {out : Option Nat × mc_S} {v : Option Nat} (h : some (v, S) = some out) (hc : cells ≤ mc) (hs : slots ≤ ms) (hdg : decode cc pc = .ok (.areturn, 1)) :
    W p l e R s m args below meth c H locs cells slots (MQ below (va_Qq (fun x (_ : Unit) => x = out.1) (fun _ t => mw_R D dA cl A out.2 t) A) args s mc ms A) (F0 m pc ls [va_rf v]) := by
  cases h
  exact W.widen hc hs (W.aret F.1 F.2.1 hr (Or.inl ⟨C, rfl⟩) (va_rf_or v) (fun t ht _ => ⟨⟨_, (), rfl, rfl, mw_end hI ht⟩, hI.2.2.2.2.F ht⟩) hI.2.2.2.2.2.2 hdg hlk)
theorem mw_vret (F : CallFix p m c cc nL s args Ts own) (hI : mw_I D dA cl A S s.heap H locs) (hr : meth.sig.returnType = none) (hlk : meth.locks = false) {out : mc_S} (h : some S = some out) (hc : cells ≤ mc) (hs : slots ≤ ms) (hdg : decode cc pc = .ok (.return_, 1)) :
    W p l e R s m args below meth c H locs cells slots (MQ below (va_Qv (fun (_ : Unit) => True) (fun _ t => mw_R D dA cl A out t) A) args s mc ms A) (F0 m pc ls []) := by
  cases h
  exact W.widen hc hs (W.vret F.1 F.2.1 hr (fun t ht _ => ⟨⟨(), rfl, trivial, mw_end hI ht⟩, hI.2.2.2.2.F ht⟩) hI.2.2.2.2.2.2 hdg hlk)
end MY
abbrev mt_T : Type := Int32 ⊕ Int64 ⊕ Option Nat
def mt_V (t : mt_T) : Value := match t with
  | .inl x => .int x
  | .inr (.inl x) => .long x
  | .inr (.inr r) => va_rf r
def mt_c (t : mt_T) : Nat := match t with
  | .inl _ => 1
  | .inr (.inl _) => 2
  | .inr (.inr _) => 1
theorem mt_cV (t : mt_T) : (mt_V t).category = mt_c t := by
  rcases t with x | x | r
  · rfl
  · rfl
  · cases r <;> rfl
def mt_p (q : Nat × mt_T) : Nat × Value := (q.1, mt_V q.2)
def mt_L (ls : Array Slot) (nL : Nat) (l : List (Nat × mt_T)) : Prop := lv_has ls nL (l.map mt_p)
def mt_o1 (i : Nat) (l : List (Nat × mt_T)) : List (Nat × mt_T) := l.filter (fun q => !(q.1 == i) && !(q.1 + 1 == i && mt_c q.2 == 2))
def mt_o2 (i : Nat) (l : List (Nat × mt_T)) : List (Nat × mt_T) := l.filter (fun q => !(q.1 == i) && (!(q.1 == i + 1) && !(q.1 + 1 == i && mt_c q.2 == 2)))
theorem mt_f1 (i : Nat) (l : List (Nat × mt_T)) : (l.map mt_p).filter (fun q => !(q.1 == i) && !(q.1 + 1 == i && q.2.category == 2)) = (mt_o1 i l).map mt_p := by
  rw [List.filter_map]
  unfold mt_o1
  congr 1
  congr 1
  funext q
  show (!(q.1 == i) && !(q.1 + 1 == i && (mt_V q.2).category == 2)) = _
  rw [mt_cV]
theorem mt_f2 (i : Nat) (l : List (Nat × mt_T)) : (l.map mt_p).filter (fun q => !(q.1 == i) && (!(q.1 == i + 1) && !(q.1 + 1 == i && q.2.category == 2))) = (mt_o2 i l).map mt_p := by
  rw [List.filter_map]
  unfold mt_o2
  congr 1
  congr 1
  funext q
  show (!(q.1 == i) && (!(q.1 == i + 1) && !(q.1 + 1 == i && (mt_V q.2).category == 2))) = _
  rw [mt_cV]
def mt_args : Nat → List mt_T → List (Nat × mt_T)
  | _, [] => []
  | i, t :: ts => (i, t) :: mt_args (i + mt_c t) ts
theorem mt_args_eq (ts : List mt_T) : ∀ i : Nat, lv_args i (ts.map mt_V) = (mt_args i ts).map mt_p := by
  induction ts with
  | nil => intro i; rfl
  | cons t ts ih =>
    intro i
    show (i, mt_V t) :: lv_args (if (mt_V t).category = 2 then i + 2 else i + 1) (ts.map mt_V) = (i, mt_V t) :: (mt_args (i + mt_c t) ts).map mt_p
    rw [ih, mt_cV]
    rcases t with x | x | r <;> rfl
def mt_n (ts : List mt_T) : Nat := match ts with
  | [] => 0
  | t :: ts => mt_c t + mt_n ts
theorem mt_len (ts : List mt_T) : (lg_sl (ts.map mt_V)).length = mt_n ts := by
  induction ts with
  | nil => rfl
  | cons t ts ih =>
    have h : lg_sl ((t :: ts).map mt_V) = (if (mt_V t).category = 2 then [.val (mt_V t), .second] else [.val (mt_V t)]) ++ lg_sl (ts.map mt_V) := rfl
    rw [h, List.length_append, ih, mt_cV]
    show _ = mt_c t + mt_n ts
    rcases t with x | x | r <;> rfl
section MT
variable {p : Program} {l : Launch} {e : Env} {R : Room} {s : State} {m : MethodId} {args : Array Value} {below : List Frame} {meth : Method} {c : Code} {H : Heap} {locs : List Loc} {cells slots : Nat} {Q : State → Prop}
variable {cc : ByteArray} {pc nL nF : Nat} {ls : Array Slot} {rest : List Value} {Ts : List Cond} {own : String} {r : Option Nat} {lv lv' : List (Nat × mt_T)}
theorem mt_at (h : mt_L ls nL lv) (k : Nat) {i : Nat} {t : mt_T} (hk : lv[k]? = some (i, t)) : ls[i]? = some (.val (mt_V t)) := lv_at h k (by rw [List.getElem?_map, hk]; rfl)
theorem mt_iload_n (F : CallFix p m c cc nF s args Ts own) (h : mt_L ls nL lv) (q : Nat) {k : Fin 4} {i : Nat} {x : Int32} (hk : lv[q]? = some (i, .inl x)) (hi : (k : Nat) = i) (hdg : decode cc pc = .ok (.iload_n k, 1)) (kk : W p l e R s m args below meth c H locs cells slots Q (F0 m (pc + 1) ls (.int x :: rest))) : W p l e R s m args below meth c H locs cells slots Q (F0 m pc ls rest) := lv_iload_n F.1 F.2.1 hdg hi (mt_at h q hk) kk
theorem mt_iload (F : CallFix p m c cc nF s args Ts own) (h : mt_L ls nL lv) (q : Nat) {i : Nat} {x : Int32} (hk : lv[q]? = some (i, .inl x)) (hdg : decode cc pc = .ok (.iload i, 2)) (kk : W p l e R s m args below meth c H locs cells slots Q (F0 m (pc + 2) ls (.int x :: rest))) : W p l e R s m args below meth c H locs cells slots Q (F0 m pc ls rest) := lv_iload F.1 F.2.1 hdg (mt_at h q hk) kk
theorem mt_lload_n (F : CallFix p m c cc nF s args Ts own) (h : mt_L ls nL lv) (q : Nat) {k : Fin 4} {i : Nat} {x : Int64} (hk : lv[q]? = some (i, .inr (.inl x))) (hi : (k : Nat) = i) (hdg : decode cc pc = .ok (.lload_n k, 1)) (kk : W p l e R s m args below meth c H locs cells slots Q (F0 m (pc + 1) ls (.long x :: rest))) : W p l e R s m args below meth c H locs cells slots Q (F0 m pc ls rest) := lv_lload_n F.1 F.2.1 hdg hi (mt_at h q hk) kk
theorem mt_lload (F : CallFix p m c cc nF s args Ts own) (h : mt_L ls nL lv) (q : Nat) {i : Nat} {x : Int64} (hk : lv[q]? = some (i, .inr (.inl x))) (hdg : decode cc pc = .ok (.lload i, 2)) (kk : W p l e R s m args below meth c H locs cells slots Q (F0 m (pc + 2) ls (.long x :: rest))) : W p l e R s m args below meth c H locs cells slots Q (F0 m pc ls rest) := lv_lload F.1 F.2.1 hdg (mt_at h q hk) kk
theorem mt_aload_n (F : CallFix p m c cc nF s args Ts own) (h : mt_L ls nL lv) (q : Nat) {k : Fin 4} {i : Nat} (hk : lv[q]? = some (i, .inr (.inr r))) (hi : (k : Nat) = i) (hdg : decode cc pc = .ok (.aload_n k, 1)) (kk : W p l e R s m args below meth c H locs cells slots Q (F0 m (pc + 1) ls (va_rf r :: rest))) : W p l e R s m args below meth c H locs cells slots Q (F0 m pc ls rest) := mw_aload_n F hdg hi (mt_at h q hk) kk
theorem mt_aload (F : CallFix p m c cc nF s args Ts own) (h : mt_L ls nL lv) (q : Nat) {i : Nat} (hk : lv[q]? = some (i, .inr (.inr r))) (hdg : decode cc pc = .ok (.aload i, 2)) (kk : W p l e R s m args below meth c H locs cells slots Q (F0 m (pc + 2) ls (va_rf r :: rest))) : W p l e R s m args below meth c H locs cells slots Q (F0 m pc ls rest) := mw_aload F hdg (mt_at h q hk) kk
theorem mt_istore_n (F : CallFix p m c cc nF s args Ts own) (h : mt_L ls nL lv) {k : Fin 4} {i : Nat} {x : Int32} (hi : (k : Nat) = i) (hn : i < nL) (hl : (i, .inl x) :: mt_o1 i lv = lv') (hdg : decode cc pc = .ok (.istore_n k, 1))
    (kk : ∀ ls' : Array Slot, mt_L ls' nL lv' → W p l e R s m args below meth c H locs cells slots Q (F0 m (pc + 1) ls' rest)) : W p l e R s m args below meth c H locs cells slots Q (F0 m pc ls (.int x :: rest)) := lv_istore_n F.1 F.2.1 hdg hi h hn (lv' := lv'.map mt_p) (by rw [mt_f1, ← hl]; rfl) kk
theorem mt_istore (F : CallFix p m c cc nF s args Ts own) (h : mt_L ls nL lv) {i : Nat} {x : Int32} (hn : i < nL) (hl : (i, .inl x) :: mt_o1 i lv = lv') (hdg : decode cc pc = .ok (.istore i, 2))
    (kk : ∀ ls' : Array Slot, mt_L ls' nL lv' → W p l e R s m args below meth c H locs cells slots Q (F0 m (pc + 2) ls' rest)) : W p l e R s m args below meth c H locs cells slots Q (F0 m pc ls (.int x :: rest)) := lv_istore F.1 F.2.1 hdg h hn (lv' := lv'.map mt_p) (by rw [mt_f1, ← hl]; rfl) kk
theorem mt_lstore_n (F : CallFix p m c cc nF s args Ts own) (h : mt_L ls nL lv) {k : Fin 4} {i : Nat} {x : Int64} (hi : (k : Nat) = i) (hn : i + 1 < nL) (hl : (i, .inr (.inl x)) :: mt_o2 i lv = lv') (hdg : decode cc pc = .ok (.lstore_n k, 1))
    (kk : ∀ ls' : Array Slot, mt_L ls' nL lv' → W p l e R s m args below meth c H locs cells slots Q (F0 m (pc + 1) ls' rest)) : W p l e R s m args below meth c H locs cells slots Q (F0 m pc ls (.long x :: rest)) := lv_lstore_n F.1 F.2.1 hdg hi h hn (lv' := lv'.map mt_p) (by rw [mt_f2, ← hl]; rfl) kk
theorem mt_lstore (F : CallFix p m c cc nF s args Ts own) (h : mt_L ls nL lv) {i : Nat} {x : Int64} (hn : i + 1 < nL) (hl : (i, .inr (.inl x)) :: mt_o2 i lv = lv') (hdg : decode cc pc = .ok (.lstore i, 2))
    (kk : ∀ ls' : Array Slot, mt_L ls' nL lv' → W p l e R s m args below meth c H locs cells slots Q (F0 m (pc + 2) ls' rest)) : W p l e R s m args below meth c H locs cells slots Q (F0 m pc ls (.long x :: rest)) := lv_lstore F.1 F.2.1 hdg h hn (lv' := lv'.map mt_p) (by rw [mt_f2, ← hl]; rfl) kk
theorem mt_astore_n (F : CallFix p m c cc nF s args Ts own) (h : mt_L ls nL lv) {k : Fin 4} {i : Nat} (hi : (k : Nat) = i) (hn : i < nL) (hl : (i, .inr (.inr r)) :: mt_o1 i lv = lv') (hdg : decode cc pc = .ok (.astore_n k, 1))
    (kk : ∀ ls' : Array Slot, mt_L ls' nL lv' → W p l e R s m args below meth c H locs cells slots Q (F0 m (pc + 1) ls' rest)) : W p l e R s m args below meth c H locs cells slots Q (F0 m pc ls (va_rf r :: rest)) := by
  have hh : (i, va_rf r) :: (lv.map mt_p).filter (fun q => !(q.1 == i) && !(q.1 + 1 == i && q.2.category == 2)) = lv'.map mt_p := by rw [mt_f1, ← hl]; rfl
  cases r with
  | none => exact lv_astore_nN F.1 F.2.1 hdg hi h hn hh kk
  | some y => exact lv_astore_n F.1 F.2.1 hdg hi h hn hh kk
theorem mt_astore (F : CallFix p m c cc nF s args Ts own) (h : mt_L ls nL lv) {i : Nat} (hn : i < nL) (hl : (i, .inr (.inr r)) :: mt_o1 i lv = lv') (hdg : decode cc pc = .ok (.astore i, 2))
    (kk : ∀ ls' : Array Slot, mt_L ls' nL lv' → W p l e R s m args below meth c H locs cells slots Q (F0 m (pc + 2) ls' rest)) : W p l e R s m args below meth c H locs cells slots Q (F0 m pc ls (va_rf r :: rest)) := by
  have hh : (i, va_rf r) :: (lv.map mt_p).filter (fun q => !(q.1 == i) && !(q.1 + 1 == i && q.2.category == 2)) = lv'.map mt_p := by rw [mt_f1, ← hl]; rfl
  cases r with
  | none => exact lv_astoreN F.1 F.2.1 hdg h hn hh kk
  | some y => exact lv_astore F.1 F.2.1 hdg h hn hh kk
theorem mt_iinc (F : CallFix p m c cc nF s args Ts own) (h : mt_L ls nL lv) (q : Nat) {i : Nat} {n : Int} {x v : Int32} (hk : lv[q]? = some (i, .inl x)) (hv : x + Int32.ofInt n = v) (hn : i < nL) (hl : (i, .inl v) :: mt_o1 i lv = lv') (hdg : decode cc pc = .ok (.iinc i n, 3))
    (kk : ∀ ls' : Array Slot, mt_L ls' nL lv' → W p l e R s m args below meth c H locs cells slots Q (F0 m (pc + 3) ls' rest)) : W p l e R s m args below meth c H locs cells slots Q (F0 m pc ls rest) := lv_iinc (k := q) F.1 F.2.1 hdg h (by rw [List.getElem?_map, hk]; rfl) hv hn (lv' := lv'.map mt_p) (by rw [mt_f1, ← hl]; rfl) kk
theorem mt_sub (h : mt_L ls nL lv) (ks : List Nat) (hl : ks.filterMap (fun k => lv[k]?) = lv') : mt_L ls nL lv' := by
  subst hl
  refine ⟨h.1, h.2.1, fun q hq => ?_⟩
  obtain ⟨z, hz, rfl⟩ := List.mem_map.mp hq
  obtain ⟨k, -, hk⟩ := List.mem_filterMap.mp hz
  exact h.2.2 _ (List.mem_map.mpr ⟨z, List.mem_of_getElem? hk, rfl⟩)
end MT
section MO
variable {l : Launch} {cc : ByteArray} {maxL mc ms : Nat} {D : va_G} {dA : Nat → ClassId} {cl : List vw_C} {A : Nat → Prop} {tys : List (ClassId × FieldType)} {Z : mw_Z} {S : mc_S} {y : MethodName} {ret : Option FieldType} {rm : Room} {Qc : Array Value → State → Outcome → State → Prop}
theorem mw_ofW {ws' : List Cond} {av : List Value} (ts : List mt_T) (hav : ts.map mt_V = av) {L : List (Nat × mt_T)} (hy : plainName y.cls = true) (hlen : mt_n ts ≤ maxL) (hL : mt_args 0 ts = L)
    (body : ∀ (p : Program) (e : Env) (s : State) (m : MethodId) (args : Array Value) (below : List Frame) (meth : Method) (c : Code), CallFix p m c cc maxL s args (Cond.code y cc maxL ret :: ws') y.cls → meth.sig.returnType = ret → meth.locks = false → meth.name = y.name → mw_K D cl tys Z s → ∀ ls : Array Slot, mt_L ls maxL L → mw_I D dA cl A S s.heap s.heap [] →
      W p l e rm s m args below meth c s.heap [] 0 0 (MQ below Qc args s mc ms A) (F0 m 0 ls [])) : Met l y (Cond.code y cc maxL ret :: ws') rm (va_Pc av (mw_B D dA cl tys Z A S)) Qc mc ms A := by
  subst hav
  refine Met.ofW (cc := cc) (maxL := maxL) (ret := ret) hy rfl ?_
  intro p e s m args below meth c s₁ B hml hv
  obtain ⟨rfl, hP, hz, hA, hN, hK⟩ := hv
  have hl := lv_entry (ts.map mt_V) (n := maxL) (by rw [mt_len]; exact hlen)
  rw [lg_entry_eq]
  generalize (lg_sl (ts.map mt_V) ++ List.replicate (maxL - (lg_sl (ts.map mt_V)).length) Slot.unset).toArray = ls at hl ⊢
  rw [mt_args_eq, hL] at hl
  exact body p e s m _ below meth c ⟨B.exec, B.bytes, hml, findClass_of_methodNamed B.named, atoms_spec (ws := Cond.code y cc maxL ret :: ws') B.pre⟩ B.returns B.notSynchronized (name_of_methodNamed B.named B.method).1 hK ls hl ⟨hP, hz, hA, fun q hq => hN q (by rw [← hz]; exact hq), va_S.rf⟩
end MO
theorem mw_narO (C : String) (r : Option Nat) : narrow (.object C) (va_rf r) = va_rf r := by cases r <;> rfl
theorem mw_narA (t : FieldType) (r : Option Nat) : narrow (.array t) (va_rf r) = va_rf r := by cases r <;> rfl
theorem mw_fitO (C : String) (r : Option Nat) : fits (.object C) (va_rf r) = true := by cases r <;> rfl
theorem mw_fitA (t : FieldType) (r : Option Nat) : fits (.array t) (va_rf r) = true := by cases r <;> rfl
section MS
variable {p : Program} {l : Launch} {e : Env} {R : Room} {s : State} {m : MethodId} {args : Array Value} {below : List Frame} {meth : Method} {c : Code} {H : Heap} {locs : List Loc} {cells slots : Nat} {Q : State → Prop}
variable {cc : ByteArray} {pc nF : Nat} {ls : Array Slot} {rest : List Value} {D : va_G} {dA : Nat → ClassId} {cl : List vw_C} {A : Nat → Prop} {H0 : Heap} {S : mc_S} {Ts : List Cond} {own : String}
theorem mw_sld (F : CallFix p m c cc nF s args Ts own) {bs L0 : Nat} {xs : Nat → Int32} (hX : va_X bs L0 xs s H0) (hbl : bs < H0.size) (hbA : ¬ A bs) (hI : mw_I D dA cl A S H0 H locs) {i v : Int32} (h : scI L0 xs i = some v) (hdg : decode cc pc = .ok (.iaload, 1))
    (kk : W p l e R s m args below meth c H locs cells slots Q (F0 m (pc + 1) ls (.int v :: rest))) : W p l e R s m args below meth c H locs cells slots Q (F0 m pc ls (.int i :: va_rf (some bs) :: rest)) := by
  obtain ⟨hin, rfl⟩ := scI_inv h
  exact va_sld F.1 F.2.1 hX hbl hbA hI.2.2.2.2 hin hdg kk
theorem mw_slen (F : CallFix p m c cc nF s args Ts own) {bs L0 : Nat} {xs : Nat → Int32} (hX : va_X bs L0 xs s H0) (hbl : bs < H0.size) (hbA : ¬ A bs) (hI : mw_I D dA cl A S H0 H locs) (hdg : decode cc pc = .ok (.arraylength, 1))
    (kk : W p l e R s m args below meth c H locs cells slots Q (F0 m (pc + 1) ls (.int (Int32.ofNat L0) :: rest))) : W p l e R s m args below meth c H locs cells slots Q (F0 m pc ls (va_rf (some bs) :: rest)) := va_slen F.1 F.2.1 hX hbl hbA hI.2.2.2.2 hdg kk
end MS
end
section
def y_R_init : MethodName := ⟨"KeepHeap$Reach", "<init>", "()V"⟩
abbrev b_R_init : ByteArray := prog_2_method_1_code
abbrev cd_R_init : Cond := .code y_R_init b_R_init 1 none
def y_S_init : MethodName := ⟨"KeepHeap$Slots", "<init>", "(II)V"⟩
abbrev b_S_init : ByteArray := prog_3_method_1_code
abbrev cd_S_init : Cond := .code y_S_init b_S_init 3 none
def y_T_init : MethodName := ⟨"KeepHeap$State", "<init>", "(LKeepHeap$Slots;)V"⟩
abbrev b_T_init : ByteArray := prog_4_method_1_code
abbrev cd_T_init : Cond := .code y_T_init b_T_init 2 none
def y_K_init : MethodName := ⟨"KeepHeap", "<init>", "()V"⟩
abbrev b_K_init : ByteArray := prog_1_method_1_code
abbrev cd_K_init : Cond := .code y_K_init b_K_init 3 none
def y_N_init : MethodName := ⟨"KeepHeapModel$State", "<init>", "()V"⟩
abbrev b_N_init : ByteArray := prog_7_method_1_code
abbrev cd_N_init : Cond := .code y_N_init b_N_init 1 none
def y_M_init : MethodName := ⟨"KeepHeapModel", "<init>", "()V"⟩
abbrev b_M_init : ByteArray := prog_6_method_2_code
abbrev cd_M_init : Cond := .code y_M_init b_M_init 2 none
def y_K_make : MethodName := ⟨"KeepHeap", "make", "(Z)I"⟩
abbrev b_K_make : ByteArray := prog_1_method_2_code
abbrev cd_K_make : Cond := .code y_K_make b_K_make 3 (some .int)
def y_M_make : MethodName := ⟨"KeepHeapModel", "make", "(Z)I"⟩
abbrev b_M_make : ByteArray := prog_6_method_7_code
abbrev cd_M_make : Cond := .code y_M_make b_M_make 3 (some .int)
def y_T_has : MethodName := ⟨"KeepHeap$State", "has", "(I)Z"⟩
abbrev b_T_has : ByteArray := prog_4_method_3_code
abbrev cd_T_has : Cond := .code y_T_has b_T_has 2 (some .boolean)
def y_K_valueOf : MethodName := ⟨"KeepHeap", "valueOf", "(II)J"⟩
abbrev b_K_valueOf : ByteArray := prog_1_method_19_code
abbrev cd_K_valueOf : Cond := .code y_K_valueOf b_K_valueOf 3 (some .long)
def y_T_find : MethodName := ⟨"KeepHeap$State", "find", "(II)LKeepHeap$Slots;"⟩
abbrev b_T_find : ByteArray := prog_4_method_4_code
abbrev cd_T_find : Cond := .code y_T_find b_T_find 3 (some (.object "KeepHeap$Slots"))
def y_K_ringIndex : MethodName := ⟨"KeepHeap", "ringIndex", "(I)I"⟩
abbrev b_K_ringIndex : ByteArray := prog_1_method_20_code
abbrev cd_K_ringIndex : Cond := .code y_K_ringIndex b_K_ringIndex 2 (some .int)
def y_K_kept : MethodName := ⟨"KeepHeap", "kept", "()LKeepHeap$State;"⟩
abbrev b_K_kept : ByteArray := prog_1_method_21_code
abbrev cd_K_kept : Cond := .code y_K_kept b_K_kept 1 (some (.object "KeepHeap$State"))
def y_S_twin : MethodName := ⟨"KeepHeap$Slots", "twin", "()LKeepHeap$Slots;"⟩
abbrev b_S_twin : ByteArray := prog_3_method_2_code
abbrev cd_S_twin : Cond := .code y_S_twin b_S_twin 2 (some (.object "KeepHeap$Slots"))
def y_K_own : MethodName := ⟨"KeepHeap", "own", "(II)LKeepHeap$Slots;"⟩
abbrev b_K_own : ByteArray := prog_1_method_22_code
abbrev cd_K_own : Cond := .code y_K_own b_K_own 4 (some (.object "KeepHeap$Slots"))
def y_S_placeOf : MethodName := ⟨"KeepHeap$Slots", "placeOf", "(I)I"⟩
abbrev b_S_placeOf : ByteArray := prog_3_method_4_code
abbrev cd_S_placeOf : Cond := .code y_S_placeOf b_S_placeOf 3 (some .int)
def y_S_holds : MethodName := ⟨"KeepHeap$Slots", "holds", "(I)Z"⟩
abbrev b_S_holds : ByteArray := prog_3_method_3_code
abbrev cd_S_holds : Cond := .code y_S_holds b_S_holds 2 (some .boolean)
def y_S_removeAt : MethodName := ⟨"KeepHeap$Slots", "removeAt", "(I)V"⟩
abbrev b_S_removeAt : ByteArray := prog_3_method_8_code
abbrev cd_S_removeAt : Cond := .code y_S_removeAt b_S_removeAt 3 none
def y_S_append : MethodName := ⟨"KeepHeap$Slots", "append", "(IJ)I"⟩
abbrev b_S_append : ByteArray := prog_3_method_7_code
abbrev cd_S_append : Cond := .code y_S_append b_S_append 4 (some .int)
def y_S_assign : MethodName := ⟨"KeepHeap$Slots", "assign", "(IJ)I"⟩
abbrev b_S_assign : ByteArray := prog_3_method_6_code
abbrev cd_S_assign : Cond := .code y_S_assign b_S_assign 5 (some .int)
def y_K_set : MethodName := ⟨"KeepHeap", "set", "(IIII)I"⟩
abbrev b_K_set : ByteArray := prog_1_method_3_code
abbrev cd_K_set : Cond := .code y_K_set b_K_set 8 (some .int)
def y_M_in : MethodName := ⟨"KeepHeapModel", "in", "(JJJ)Z"⟩
abbrev b_M_in : ByteArray := prog_6_method_1_code
abbrev cd_M_in : Cond := .code y_M_in b_M_in 6 (some .boolean)
def y_M_is : MethodName := ⟨"KeepHeapModel", "is", "(II)Z"⟩
abbrev b_M_is : ByteArray := prog_6_method_3_code
abbrev cd_M_is : Cond := .code y_M_is b_M_is 3 (some .boolean)
def y_M_isThere : MethodName := ⟨"KeepHeapModel", "isThere", "(I)Z"⟩
abbrev b_M_isThere : ByteArray := prog_6_method_4_code
abbrev cd_M_isThere : Cond := .code y_M_isThere b_M_isThere 2 (some .boolean)
def y_M_isValue : MethodName := ⟨"KeepHeapModel", "isValue", "(II)Z"⟩
abbrev b_M_isValue : ByteArray := prog_6_method_5_code
abbrev cd_M_isValue : Cond := .code y_M_isValue b_M_isValue 3 (some .boolean)
def y_N_findField : MethodName := ⟨"KeepHeapModel$State", "findField", "(II)I"⟩
abbrev b_N_findField : ByteArray := prog_7_method_4_code
abbrev cd_N_findField : Cond := .code y_N_findField b_N_findField 4 (some .int)
def y_M_value : MethodName := ⟨"KeepHeapModel", "value", "(II)J"⟩
abbrev b_M_value : ByteArray := prog_6_method_6_code
abbrev cd_M_value : Cond := .code y_M_value b_M_value 2 (some .long)
def y_M_set : MethodName := ⟨"KeepHeapModel", "set", "(IIII)I"⟩
abbrev b_M_set : ByteArray := prog_6_method_8_code
abbrev cd_M_set : Cond := .code y_M_set b_M_set 9 (some .int)
def y_S_named : MethodName := ⟨"KeepHeap$Slots", "named", "(I)J"⟩
abbrev b_S_named : ByteArray := prog_3_method_5_code
abbrev cd_S_named : Cond := .code y_S_named b_S_named 3 (some .long)
def y_K_get : MethodName := ⟨"KeepHeap", "get", "(II)J"⟩
abbrev b_K_get : ByteArray := prog_1_method_4_code
abbrev cd_K_get : Cond := .code y_K_get b_K_get 4 (some .long)
def y_M_get : MethodName := ⟨"KeepHeapModel", "get", "(II)J"⟩
abbrev b_M_get : ByteArray := prog_6_method_9_code
abbrev cd_M_get : Cond := .code y_M_get b_M_get 4 (some .long)
def y_K_push : MethodName := ⟨"KeepHeap", "push", "(III)I"⟩
abbrev b_K_push : ByteArray := prog_1_method_5_code
abbrev cd_K_push : Cond := .code y_K_push b_K_push 7 (some .int)
def y_M_push : MethodName := ⟨"KeepHeapModel", "push", "(III)I"⟩
abbrev b_M_push : ByteArray := prog_6_method_10_code
abbrev cd_M_push : Cond := .code y_M_push b_M_push 4 (some .int)
def y_S_takeLast : MethodName := ⟨"KeepHeap$Slots", "takeLast", "()J"⟩
abbrev b_S_takeLast : ByteArray := prog_3_method_9_code
abbrev cd_S_takeLast : Cond := .code y_S_takeLast b_S_takeLast 1 (some .long)
def y_K_pop : MethodName := ⟨"KeepHeap", "pop", "(I)J"⟩
abbrev b_K_pop : ByteArray := prog_1_method_6_code
abbrev cd_K_pop : Cond := .code y_K_pop b_K_pop 3 (some .long)
def y_M_pop : MethodName := ⟨"KeepHeapModel", "pop", "(I)J"⟩
abbrev b_M_pop : ByteArray := prog_6_method_11_code
abbrev cd_M_pop : Cond := .code y_M_pop b_M_pop 2 (some .long)
def y_K_put : MethodName := ⟨"KeepHeap", "put", "(IIII)I"⟩
abbrev b_K_put : ByteArray := prog_1_method_7_code
abbrev cd_K_put : Cond := .code y_K_put b_K_put 8 (some .int)
def y_M_put : MethodName := ⟨"KeepHeapModel", "put", "(IIII)I"⟩
abbrev b_M_put : ByteArray := prog_6_method_12_code
abbrev cd_M_put : Cond := .code y_M_put b_M_put 5 (some .int)
def y_K_item : MethodName := ⟨"KeepHeap", "item", "(II)J"⟩
abbrev b_K_item : ByteArray := prog_1_method_8_code
abbrev cd_K_item : Cond := .code y_K_item b_K_item 4 (some .long)
def y_M_item : MethodName := ⟨"KeepHeapModel", "item", "(II)J"⟩
abbrev b_M_item : ByteArray := prog_6_method_13_code
abbrev cd_M_item : Cond := .code y_M_item b_M_item 3 (some .long)
def y_K_ownRoots : MethodName := ⟨"KeepHeap", "ownRoots", "()LKeepHeap$Slots;"⟩
abbrev b_K_ownRoots : ByteArray := prog_1_method_23_code
abbrev cd_K_ownRoots : Cond := .code y_K_ownRoots b_K_ownRoots 1 (some (.object "KeepHeap$Slots"))
def y_K_root : MethodName := ⟨"KeepHeap", "root", "(III)I"⟩
abbrev b_K_root : ByteArray := prog_1_method_9_code
abbrev cd_K_root : Cond := .code y_K_root b_K_root 6 (some .int)
def y_N_findRoot : MethodName := ⟨"KeepHeapModel$State", "findRoot", "(I)I"⟩
abbrev b_N_findRoot : ByteArray := prog_7_method_3_code
abbrev cd_N_findRoot : Cond := .code y_N_findRoot b_N_findRoot 3 (some .int)
def y_M_root : MethodName := ⟨"KeepHeapModel", "root", "(III)I"⟩
abbrev b_M_root : ByteArray := prog_6_method_14_code
abbrev cd_M_root : Cond := .code y_M_root b_M_root 5 (some .int)
def y_K_rooted : MethodName := ⟨"KeepHeap", "rooted", "(I)J"⟩
abbrev b_K_rooted : ByteArray := prog_1_method_10_code
abbrev cd_K_rooted : Cond := .code y_K_rooted b_K_rooted 2 (some .long)
def y_M_rooted : MethodName := ⟨"KeepHeapModel", "rooted", "(I)J"⟩
abbrev b_M_rooted : ByteArray := prog_6_method_15_code
abbrev cd_M_rooted : Cond := .code y_M_rooted b_M_rooted 3 (some .long)
def y_S_sameAs : MethodName := ⟨"KeepHeap$Slots", "sameAs", "(LKeepHeap$Slots;)Z"⟩
abbrev b_S_sameAs : ByteArray := prog_3_method_10_code
abbrev cd_S_sameAs : Cond := .code y_S_sameAs b_S_sameAs 3 (some .boolean)
def y_S_namesChangedFrom : MethodName := ⟨"KeepHeap$Slots", "namesChangedFrom", "(LKeepHeap$Slots;)I"⟩
abbrev b_S_namesChangedFrom : ByteArray := prog_3_method_11_code
abbrev cd_S_namesChangedFrom : Cond := .code y_S_namesChangedFrom b_S_namesChangedFrom 4 (some .int)
def y_K_changedBytes : MethodName := ⟨"KeepHeap", "changedBytes", "()I"⟩
abbrev b_K_changedBytes : ByteArray := prog_1_method_24_code
abbrev cd_K_changedBytes : Cond := .code y_K_changedBytes b_K_changedBytes 5 (some .int)
def y_T_become : MethodName := ⟨"KeepHeap$State", "become", "(LKeepHeap$State;)V"⟩
abbrev b_T_become : ByteArray := prog_4_method_2_code
abbrev cd_T_become : Cond := .code y_T_become b_T_become 3 none
def y_K_keepNow : MethodName := ⟨"KeepHeap", "keepNow", "(I)V"⟩
abbrev b_K_keepNow : ByteArray := prog_1_method_25_code
abbrev cd_K_keepNow : Cond := .code y_K_keepNow b_K_keepNow 3 none
def y_K_commit : MethodName := ⟨"KeepHeap", "commit", "()I"⟩
abbrev b_K_commit : ByteArray := prog_1_method_11_code
abbrev cd_K_commit : Cond := .code y_K_commit b_K_commit 2 (some .int)
def y_N_isSame : MethodName := ⟨"KeepHeapModel$State", "isSame", "(ILKeepHeapModel$State;)Z"⟩
abbrev b_N_isSame : ByteArray := prog_7_method_5_code
abbrev cd_N_isSame : Cond := .code y_N_isSame b_N_isSame 4 (some .boolean)
def y_N_bytesBehind : MethodName := ⟨"KeepHeapModel$State", "bytesBehind", "(LKeepHeapModel$State;)I"⟩
abbrev b_N_bytesBehind : ByteArray := prog_7_method_6_code
abbrev cd_N_bytesBehind : Cond := .code y_N_bytesBehind b_N_bytesBehind 5 (some .int)
def y_N_copy : MethodName := ⟨"KeepHeapModel$State", "copy", "(LKeepHeapModel$State;)V"⟩
abbrev b_N_copy : ByteArray := prog_7_method_2_code
abbrev cd_N_copy : Cond := .code y_N_copy b_N_copy 2 none
def y_M_keep : MethodName := ⟨"KeepHeapModel", "keep", "(I)V"⟩
abbrev b_M_keep : ByteArray := prog_6_method_16_code
abbrev cd_M_keep : Cond := .code y_M_keep b_M_keep 4 none
def y_M_commit : MethodName := ⟨"KeepHeapModel", "commit", "()I"⟩
abbrev b_M_commit : ByteArray := prog_6_method_17_code
abbrev cd_M_commit : Cond := .code y_M_commit b_M_commit 2 (some .int)
def y_K_undo : MethodName := ⟨"KeepHeap", "undo", "()I"⟩
abbrev b_K_undo : ByteArray := prog_1_method_12_code
abbrev cd_K_undo : Cond := .code y_K_undo b_K_undo 2 (some .int)
def y_M_undo : MethodName := ⟨"KeepHeapModel", "undo", "()I"⟩
abbrev b_M_undo : ByteArray := prog_6_method_18_code
abbrev cd_M_undo : Cond := .code y_M_undo b_M_undo 2 (some .int)
def y_R_enqueue : MethodName := ⟨"KeepHeap$Reach", "enqueue", "(I)V"⟩
abbrev b_R_enqueue : ByteArray := prog_2_method_5_code
abbrev cd_R_enqueue : Cond := .code y_R_enqueue b_R_enqueue 2 none
def y_R_enqueueAll : MethodName := ⟨"KeepHeap$Reach", "enqueueAll", "(LKeepHeap$Slots;)V"⟩
abbrev b_R_enqueueAll : ByteArray := prog_2_method_4_code
abbrev cd_R_enqueueAll : Cond := .code y_R_enqueueAll b_R_enqueueAll 5 none
def y_R_walk : MethodName := ⟨"KeepHeap$Reach", "walk", "(LKeepHeap$State;)V"⟩
abbrev b_R_walk : ByteArray := prog_2_method_3_code
abbrev cd_R_walk : Cond := .code y_R_walk b_R_walk 3 none
def y_R_dropUnreached : MethodName := ⟨"KeepHeap$Reach", "dropUnreached", "(LKeepHeap$State;)I"⟩
abbrev b_R_dropUnreached : ByteArray := prog_2_method_2_code
abbrev cd_R_dropUnreached : Cond := .code y_R_dropUnreached b_R_dropUnreached 4 (some .int)
def y_K_sweep : MethodName := ⟨"KeepHeap", "sweep", "()I"⟩
abbrev b_K_sweep : ByteArray := prog_1_method_13_code
abbrev cd_K_sweep : Cond := .code y_K_sweep b_K_sweep 2 (some .int)
def y_M_reach : MethodName := ⟨"KeepHeapModel", "reach", "(JI)I"⟩
abbrev b_M_reach : ByteArray := prog_6_method_20_code
abbrev cd_M_reach : Cond := .code y_M_reach b_M_reach 4 (some .int)
def y_M_sweep : MethodName := ⟨"KeepHeapModel", "sweep", "()I"⟩
abbrev b_M_sweep : ByteArray := prog_6_method_19_code
abbrev cd_M_sweep : Cond := .code y_M_sweep b_M_sweep 7 (some .int)
def y_K_sync : MethodName := ⟨"KeepHeap", "sync", "()I"⟩
abbrev b_K_sync : ByteArray := prog_1_method_14_code
abbrev cd_K_sync : Cond := .code y_K_sync b_K_sync 2 (some .int)
def y_M_sync : MethodName := ⟨"KeepHeapModel", "sync", "()I"⟩
abbrev b_M_sync : ByteArray := prog_6_method_21_code
abbrev cd_M_sync : Cond := .code y_M_sync b_M_sync 2 (some .int)
def y_K_entriesWithin : MethodName := ⟨"KeepHeap", "entriesWithin", "(I)I"⟩
abbrev b_K_entriesWithin : ByteArray := prog_1_method_26_code
abbrev cd_K_entriesWithin : Cond := .code y_K_entriesWithin b_K_entriesWithin 5 (some .int)
def y_K_crash : MethodName := ⟨"KeepHeap", "crash", "(I)I"⟩
abbrev b_K_crash : ByteArray := prog_1_method_15_code
abbrev cd_K_crash : Cond := .code y_K_crash b_K_crash 4 (some .int)
def y_M_crash : MethodName := ⟨"KeepHeapModel", "crash", "(I)I"⟩
abbrev b_M_crash : ByteArray := prog_6_method_22_code
abbrev cd_M_crash : Cond := .code y_M_crash b_M_crash 6 (some .int)
def y_K_kind : MethodName := ⟨"KeepHeap", "kind", "(I)I"⟩
abbrev b_K_kind : ByteArray := prog_1_method_16_code
abbrev cd_K_kind : Cond := .code y_K_kind b_K_kind 3 (some .int)
def y_M_kind : MethodName := ⟨"KeepHeapModel", "kind", "(I)I"⟩
abbrev b_M_kind : ByteArray := prog_6_method_23_code
abbrev cd_M_kind : Cond := .code y_M_kind b_M_kind 2 (some .int)
def y_K_size : MethodName := ⟨"KeepHeap", "size", "(I)I"⟩
abbrev b_K_size : ByteArray := prog_1_method_17_code
abbrev cd_K_size : Cond := .code y_K_size b_K_size 3 (some .int)
def y_M_size : MethodName := ⟨"KeepHeapModel", "size", "(I)I"⟩
abbrev b_M_size : ByteArray := prog_6_method_24_code
abbrev cd_M_size : Cond := .code y_M_size b_M_size 2 (some .int)
def y_T_objectsThere : MethodName := ⟨"KeepHeap$State", "objectsThere", "()I"⟩
abbrev b_T_objectsThere : ByteArray := prog_4_method_5_code
abbrev cd_T_objectsThere : Cond := .code y_T_objectsThere b_T_objectsThere 3 (some .int)
def y_K_count : MethodName := ⟨"KeepHeap", "count", "(I)I"⟩
abbrev b_K_count : ByteArray := prog_1_method_18_code
abbrev cd_K_count : Cond := .code y_K_count b_K_count 2 (some .int)
def y_M_count : MethodName := ⟨"KeepHeapModel", "count", "(I)I"⟩
abbrev b_M_count : ByteArray := prog_6_method_25_code
abbrev cd_M_count : Cond := .code y_M_count b_M_count 7 (some .int)
abbrev b_L_law : ByteArray := code
def F_0 : u_T := fun k => match k with
  | 0 => ("KeepHeap", "now", "LKeepHeap$State;", true)
  | 1 => ("KeepHeap", "ring", "[LKeepHeap$State;", true)
  | 2 => ("KeepHeap", "ringBytes", "[I", true)
  | 3 => ("KeepHeap", "reach", "LKeepHeap$Reach;", true)
  | 4 => ("KeepHeap", "safeAt", "I", false)
  | 5 => ("KeepHeap", "waiting", "I", false)
  | _ => ("KeepHeap", "logBytes", "I", false)
def ty_0 : Nat → FieldType := fun k => match k with
  | 0 => (.object "KeepHeap$State")
  | 1 => (.array (.object "KeepHeap$State"))
  | 2 => (.array .int)
  | 3 => (.object "KeepHeap$Reach")
  | 4 => .int
  | 5 => .int
  | _ => .int
abbrev cq_0 : vw_C := ("KeepHeap", F_0, 7)
theorem nm_0 : ∀ a, a < 7 → ∀ b, b < 7 → a ≠ b → (F_0 a).2.1 ≠ (F_0 b).2.1 := by decide +kernel
theorem ok_0 : ∀ k, k < 7 → parseFieldDescriptor (F_0 k).2.2.1 = some (ty_0 k) := by decide +kernel
theorem df_0 : ∀ j, j < 7 → defaultValue (ty_0 j) = vp_V [.null, .null, .null, .null, .int 0, .int 0, .int 0] j := by
  intro j hj
  rcases (show j = 0 ∨ j = 1 ∨ j = 2 ∨ j = 3 ∨ j = 4 ∨ j = 5 ∨ j = 6 by omega) with rfl | rfl | rfl | rfl | rfl | rfl | rfl <;> rfl
def F_1 : u_T := fun k => match k with
  | 0 => ("KeepHeap$Slots", "form", "I", true)
  | 1 => ("KeepHeap$Slots", "names", "[I", true)
  | 2 => ("KeepHeap$Slots", "values", "[J", true)
  | _ => ("KeepHeap$Slots", "used", "I", false)
def ty_1 : Nat → FieldType := fun k => match k with
  | 0 => .int
  | 1 => (.array .int)
  | 2 => (.array .long)
  | _ => .int
abbrev cq_1 : vw_C := ("KeepHeap$Slots", F_1, 4)
theorem nm_1 : ∀ a, a < 4 → ∀ b, b < 4 → a ≠ b → (F_1 a).2.1 ≠ (F_1 b).2.1 := by decide +kernel
theorem ok_1 : ∀ k, k < 4 → parseFieldDescriptor (F_1 k).2.2.1 = some (ty_1 k) := by decide +kernel
theorem df_1 : ∀ j, j < 4 → defaultValue (ty_1 j) = vp_V [.int 0, .null, .null, .int 0] j := by
  intro j hj
  rcases (show j = 0 ∨ j = 1 ∨ j = 2 ∨ j = 3 by omega) with rfl | rfl | rfl | rfl <;> rfl
def F_2 : u_T := fun k => match k with
  | 0 => ("KeepHeap$State", "objects", "[LKeepHeap$Slots;", true)
  | _ => ("KeepHeap$State", "roots", "LKeepHeap$Slots;", false)
def ty_2 : Nat → FieldType := fun k => match k with
  | 0 => (.array (.object "KeepHeap$Slots"))
  | _ => (.object "KeepHeap$Slots")
abbrev cq_2 : vw_C := ("KeepHeap$State", F_2, 2)
theorem nm_2 : ∀ a, a < 2 → ∀ b, b < 2 → a ≠ b → (F_2 a).2.1 ≠ (F_2 b).2.1 := by decide +kernel
theorem ok_2 : ∀ k, k < 2 → parseFieldDescriptor (F_2 k).2.2.1 = some (ty_2 k) := by decide +kernel
theorem df_2 : ∀ j, j < 2 → defaultValue (ty_2 j) = vp_V [.null, .null] j := by
  intro j hj
  rcases (show j = 0 ∨ j = 1 by omega) with rfl | rfl <;> rfl
def F_3 : u_T := fun k => match k with
  | 0 => ("KeepHeap$Reach", "reached", "[Z", true)
  | 1 => ("KeepHeap$Reach", "queue", "[I", true)
  | _ => ("KeepHeap$Reach", "found", "I", false)
def ty_3 : Nat → FieldType := fun k => match k with
  | 0 => (.array .boolean)
  | 1 => (.array .int)
  | _ => .int
abbrev cq_3 : vw_C := ("KeepHeap$Reach", F_3, 3)
theorem nm_3 : ∀ a, a < 3 → ∀ b, b < 3 → a ≠ b → (F_3 a).2.1 ≠ (F_3 b).2.1 := by decide +kernel
theorem ok_3 : ∀ k, k < 3 → parseFieldDescriptor (F_3 k).2.2.1 = some (ty_3 k) := by decide +kernel
theorem df_3 : ∀ j, j < 3 → defaultValue (ty_3 j) = vp_V [.null, .null, .int 0] j := by
  intro j hj
  rcases (show j = 0 ∨ j = 1 ∨ j = 2 by omega) with rfl | rfl | rfl <;> rfl
def F_4 : u_T := fun k => match k with
  | 0 => ("KeepHeapModel", "now", "LKeepHeapModel$State;", true)
  | 1 => ("KeepHeapModel", "kept", "LKeepHeapModel$State;", true)
  | 2 => ("KeepHeapModel", "safe", "LKeepHeapModel$State;", true)
  | 3 => ("KeepHeapModel", "waiting", "[LKeepHeapModel$State;", true)
  | 4 => ("KeepHeapModel", "waits", "I", false)
  | 5 => ("KeepHeapModel", "logged", "I", false)
  | 6 => ("KeepHeapModel", "reached", "[Z", true)
  | _ => ("KeepHeapModel", "path", "[I", true)
def ty_4 : Nat → FieldType := fun k => match k with
  | 0 => (.object "KeepHeapModel$State")
  | 1 => (.object "KeepHeapModel$State")
  | 2 => (.object "KeepHeapModel$State")
  | 3 => (.array (.object "KeepHeapModel$State"))
  | 4 => .int
  | 5 => .int
  | 6 => (.array .boolean)
  | _ => (.array .int)
abbrev cq_4 : vw_C := ("KeepHeapModel", F_4, 8)
theorem nm_4 : ∀ a, a < 8 → ∀ b, b < 8 → a ≠ b → (F_4 a).2.1 ≠ (F_4 b).2.1 := by decide +kernel
theorem ok_4 : ∀ k, k < 8 → parseFieldDescriptor (F_4 k).2.2.1 = some (ty_4 k) := by decide +kernel
theorem df_4 : ∀ j, j < 8 → defaultValue (ty_4 j) = vp_V [.null, .null, .null, .null, .int 0, .int 0, .null, .null] j := by
  intro j hj
  rcases (show j = 0 ∨ j = 1 ∨ j = 2 ∨ j = 3 ∨ j = 4 ∨ j = 5 ∨ j = 6 ∨ j = 7 by omega) with rfl | rfl | rfl | rfl | rfl | rfl | rfl | rfl <;> rfl
def F_5 : u_T := fun k => match k with
  | 0 => ("KeepHeapModel$State", "kind", "[I", true)
  | 1 => ("KeepHeapModel$State", "size", "[I", true)
  | 2 => ("KeepHeapModel$State", "name", "[I", true)
  | 3 => ("KeepHeapModel$State", "root", "[I", true)
  | 4 => ("KeepHeapModel$State", "slot", "[J", true)
  | 5 => ("KeepHeapModel$State", "value", "[J", true)
  | 6 => ("KeepHeapModel$State", "roots", "I", false)
  | _ => ("KeepHeapModel$State", "bytes", "I", false)
def ty_5 : Nat → FieldType := fun k => match k with
  | 0 => (.array .int)
  | 1 => (.array .int)
  | 2 => (.array .int)
  | 3 => (.array .int)
  | 4 => (.array .long)
  | 5 => (.array .long)
  | 6 => .int
  | _ => .int
abbrev cq_5 : vw_C := ("KeepHeapModel$State", F_5, 8)
theorem nm_5 : ∀ a, a < 8 → ∀ b, b < 8 → a ≠ b → (F_5 a).2.1 ≠ (F_5 b).2.1 := by decide +kernel
theorem ok_5 : ∀ k, k < 8 → parseFieldDescriptor (F_5 k).2.2.1 = some (ty_5 k) := by decide +kernel
theorem df_5 : ∀ j, j < 8 → defaultValue (ty_5 j) = vp_V [.null, .null, .null, .null, .null, .null, .int 0, .int 0] j := by
  intro j hj
  rcases (show j = 0 ∨ j = 1 ∨ j = 2 ∨ j = 3 ∨ j = 4 ∨ j = 5 ∨ j = 6 ∨ j = 7 by omega) with rfl | rfl | rfl | rfl | rfl | rfl | rfl | rfl <;> rfl
abbrev CL : List vw_C := [cq_0, cq_1, cq_2, cq_3, cq_4, cq_5]
theorem hc_0 : CL[0]? = some ("KeepHeap", F_0, 7) := rfl
theorem hc_1 : CL[1]? = some ("KeepHeap$Slots", F_1, 4) := rfl
theorem hc_2 : CL[2]? = some ("KeepHeap$State", F_2, 2) := rfl
theorem hc_3 : CL[3]? = some ("KeepHeap$Reach", F_3, 3) := rfl
theorem hc_4 : CL[4]? = some ("KeepHeapModel", F_4, 8) := rfl
theorem hc_5 : CL[5]? = some ("KeepHeapModel$State", F_5, 8) := rfl
abbrev TY (dA : Nat → ClassId) : List (ClassId × FieldType) := [(dA 0, .int), (dA 1, .long), (dA 2, .boolean), (dA 3, .object "KeepHeap$Slots"), (dA 4, .object "KeepHeap$State"), (dA 5, .object "KeepHeapModel$State")]
abbrev ZZ : mw_Z := ([("KeepHeap", 21, y_R_init, "KeepHeap"), ("KeepHeapModel", 9, y_N_init, "KeepHeapModel")], ["KeepHeap$Slots", "KeepHeap$State", "KeepHeapModel$State"])
def AL0 : List Cond := [.methodLink "KeepHeap$Reach" 3 Lib.objectInit, .instanceMethod Lib.objectInit, .code Lib.objectInit ⟨#[0xb1]⟩ 1 none, .arrayClass (newarray.typeOf .boolean), .fieldLink "KeepHeap$Reach" 9 "KeepHeap$Reach" "reached" "[Z", .arrayClass (newarray.typeOf .int), .fieldLink "KeepHeap$Reach" 15 "KeepHeap$Reach" "queue" "[I", .fieldLink "KeepHeap$Reach" 19 "KeepHeap$Reach" "found" "I", .methodLink "KeepHeap$Slots" 3 Lib.objectInit, .fieldLink "KeepHeap$Slots" 9 "KeepHeap$Slots" "used" "I", .fieldLink "KeepHeap$Slots" 15 "KeepHeap$Slots" "form" "I", .fieldLink "KeepHeap$Slots" 18 "KeepHeap$Slots" "names" "[I", .arrayClass (newarray.typeOf .long), .fieldLink "KeepHeap$Slots" 22 "KeepHeap$Slots" "values" "[J", .methodLink "KeepHeap$State" 3 Lib.objectInit, .classLink "KeepHeap$State" 9 "KeepHeap$Slots", .fieldLink "KeepHeap$State" 11 "KeepHeap$State" "objects" "[LKeepHeap$Slots;", .fieldLink "KeepHeap$State" 17 "KeepHeap$State" "roots" "LKeepHeap$Slots;", .methodLink "KeepHeap" 3 Lib.objectInit, .classLink "KeepHeap" 9 "KeepHeap$State", .fieldLink "KeepHeap" 11 "KeepHeap" "ring" "[LKeepHeap$State;", .fieldLink "KeepHeap" 15 "KeepHeap" "ringBytes" "[I", .classLink "KeepHeap" 19 "KeepHeap$Reach", .instantiable "KeepHeap$Reach" 3, .initialized "KeepHeap$Reach", cd_R_init, .instanceMethod y_R_init, .fieldLink "KeepHeap" 22 "KeepHeap" "reach" "LKeepHeap$Reach;", .fieldLink "KeepHeap" 26 "KeepHeap" "safeAt" "I", .fieldLink "KeepHeap" 30 "KeepHeap" "waiting" "I", .fieldLink "KeepHeap" 33 "KeepHeap" "logBytes" "I", .classLink "KeepHeap" 36 "KeepHeap$Slots", .instantiable "KeepHeap$Slots" 4, .initialized "KeepHeap$Slots", cd_S_init, .methodLink "KeepHeap" 38 y_S_init, .instanceMethod y_S_init, .instantiable "KeepHeap$State" 2, .initialized "KeepHeap$State", cd_T_init, .methodLink "KeepHeap" 41 y_T_init, .instanceMethod y_T_init, .fieldLink "KeepHeap" 44 "KeepHeap" "now" "LKeepHeap$State;", .methodLink "KeepHeapModel$State" 3 Lib.objectInit, .fieldLink "KeepHeapModel$State" 9 "KeepHeapModel$State" "kind" "[I", .fieldLink "KeepHeapModel$State" 15 "KeepHeapModel$State" "size" "[I", .fieldLink "KeepHeapModel$State" 18 "KeepHeapModel$State" "name" "[I", .fieldLink "KeepHeapModel$State" 21 "KeepHeapModel$State" "root" "[I", .fieldLink "KeepHeapModel$State" 24 "KeepHeapModel$State" "slot" "[J", .fieldLink "KeepHeapModel$State" 28 "KeepHeapModel$State" "value" "[J", .methodLink "KeepHeapModel" 1 Lib.objectInit, .classLink "KeepHeapModel" 7 "KeepHeapModel$State", .instantiable "KeepHeapModel$State" 8, .initialized "KeepHeapModel$State", cd_N_init, .instanceMethod y_N_init, .fieldLink "KeepHeapModel" 10 "KeepHeapModel" "now" "LKeepHeapModel$State;", .fieldLink "KeepHeapModel" 16 "KeepHeapModel" "kept" "LKeepHeapModel$State;", .fieldLink "KeepHeapModel" 19 "KeepHeapModel" "safe" "LKeepHeapModel$State;", .fieldLink "KeepHeapModel" 22 "KeepHeapModel" "waiting" "[LKeepHeapModel$State;", .fieldLink "KeepHeapModel" 26 "KeepHeapModel" "reached" "[Z", .fieldLink "KeepHeapModel" 30 "KeepHeapModel" "path" "[I", .fieldLink "KeepHeap" 48 "KeepHeap$State" "objects" "[LKeepHeap$Slots;", .fieldLink "KeepHeapModel" 40 "KeepHeapModel$State" "kind" "[I", .fieldLink "KeepHeapModel" 51 "KeepHeapModel$State" "size" "[I", .constantLong "KeepHeap" 132 1099511627776, cd_T_has, .methodLink "KeepHeap" 134 y_T_has, .instanceMethod y_T_has, .selects "KeepHeap$State" y_T_has y_T_has, .constantLong "KeepHeap" 60 (-1099511627776), .constantLong "KeepHeap" 137 1099511627777, .methodLink "KeepHeap$State" 21 y_T_has, .fieldLink "KeepHeap$State" 25 "KeepHeap$Slots" "form" "I", cd_K_ringIndex, .methodLink "KeepHeap" 116 y_K_ringIndex, .instanceMethod y_K_ringIndex, .selects "KeepHeap" y_K_ringIndex y_K_ringIndex, .initialized "KeepHeap", .classLink "KeepHeap$Slots" 10 "KeepHeap$Slots", .methodLink "KeepHeap$Slots" 26 y_S_init, .methodLink "KeepHeap$Slots" 29 arraycopyName, .native arraycopyName, .static arraycopyName, .initialized "java/lang/System", cd_T_find, .methodLink "KeepHeap" 66 y_T_find, .instanceMethod y_T_find, .selects "KeepHeap$State" y_T_find y_T_find, cd_K_kept, .methodLink "KeepHeap" 104 y_K_kept, .instanceMethod y_K_kept, .selects "KeepHeap" y_K_kept y_K_kept, cd_S_twin, .methodLink "KeepHeap" 139 y_S_twin, .instanceMethod y_S_twin, .selects "KeepHeap$Slots" y_S_twin y_S_twin, cd_S_holds, .methodLink "KeepHeap$Slots" 49 y_S_holds, .instanceMethod y_S_holds, .selects "KeepHeap$Slots" y_S_holds y_S_holds, cd_S_placeOf, .methodLink "KeepHeap$Slots" 35 y_S_placeOf, .instanceMethod y_S_placeOf, .selects "KeepHeap$Slots" y_S_placeOf y_S_placeOf, .constantLong "KeepHeap$Slots" 39 1099511627776, cd_S_append, .methodLink "KeepHeap$Slots" 45 y_S_append, .instanceMethod y_S_append, .selects "KeepHeap$Slots" y_S_append y_S_append, cd_S_removeAt, .methodLink "KeepHeap$Slots" 41 y_S_removeAt, .instanceMethod y_S_removeAt, .selects "KeepHeap$Slots" y_S_removeAt y_S_removeAt, cd_K_valueOf, .methodLink "KeepHeap" 52 y_K_valueOf, .instanceMethod y_K_valueOf, .selects "KeepHeap" y_K_valueOf y_K_valueOf, cd_K_own, .methodLink "KeepHeap" 56 y_K_own, .instanceMethod y_K_own, .selects "KeepHeap" y_K_own y_K_own, cd_S_assign, .methodLink "KeepHeap" 62 y_S_assign, .instanceMethod y_S_assign, .selects "KeepHeap$Slots" y_S_assign y_S_assign, .constantLong "KeepHeapModel" 34 99, cd_M_in, .methodLink "KeepHeapModel" 36 y_M_in, .static y_M_in, .initialized "KeepHeapModel", cd_M_isThere, .methodLink "KeepHeapModel" 43 y_M_isThere, .instanceMethod y_M_isThere, .selects "KeepHeapModel" y_M_isThere y_M_isThere, .constantLong "KeepHeapModel" 49 1099511627777, .constantLong "KeepHeapModel" 47 1099511627776, cd_M_is, .methodLink "KeepHeapModel" 54 y_M_is, .instanceMethod y_M_is, .selects "KeepHeapModel" y_M_is y_M_is, cd_M_isValue, .methodLink "KeepHeapModel" 58 y_M_isValue, .instanceMethod y_M_isValue, .selects "KeepHeapModel" y_M_isValue y_M_isValue, cd_N_findField, .methodLink "KeepHeapModel" 61 y_N_findField, .instanceMethod y_N_findField, .selects "KeepHeapModel$State" y_N_findField y_N_findField, .fieldLink "KeepHeapModel" 68 "KeepHeapModel$State" "slot" "[J", cd_M_value, .methodLink "KeepHeapModel" 72 y_M_value, .static y_M_value, .fieldLink "KeepHeapModel" 65 "KeepHeapModel$State" "name" "[I", cd_S_named, .methodLink "KeepHeap" 69 y_S_named, .instanceMethod y_S_named, .selects "KeepHeap$Slots" y_S_named y_S_named, .constantLong "KeepHeapModel" 76 (-1099511627776), .methodLink "KeepHeap" 73 y_S_append, .constantLong "KeepHeap$Slots" 53 (-1099511627776), cd_S_takeLast, .methodLink "KeepHeap" 76 y_S_takeLast, .instanceMethod y_S_takeLast, .selects "KeepHeap$Slots" y_S_takeLast y_S_takeLast, .methodLink "KeepHeap" 80 y_S_holds, .fieldLink "KeepHeap" 84 "KeepHeap$Slots" "values" "[J", .fieldLink "KeepHeap" 92 "KeepHeap$State" "roots" "LKeepHeap$Slots;", cd_K_ownRoots, .methodLink "KeepHeap" 88 y_K_ownRoots, .instanceMethod y_K_ownRoots, .selects "KeepHeap" y_K_ownRoots y_K_ownRoots, .fieldLink "KeepHeapModel$State" 37 "KeepHeapModel$State" "roots" "I", cd_N_findRoot, .methodLink "KeepHeapModel" 78 y_N_findRoot, .instanceMethod y_N_findRoot, .selects "KeepHeapModel$State" y_N_findRoot y_N_findRoot, .fieldLink "KeepHeapModel" 89 "KeepHeapModel$State" "value" "[J", .fieldLink "KeepHeapModel" 82 "KeepHeapModel$State" "roots" "I", .fieldLink "KeepHeapModel" 86 "KeepHeapModel$State" "root" "[I", .methodLink "KeepHeap$Slots" 55 y_S_named, cd_S_namesChangedFrom, .methodLink "KeepHeap" 146 y_S_namesChangedFrom, .instanceMethod y_S_namesChangedFrom, .selects "KeepHeap$Slots" y_S_namesChangedFrom y_S_namesChangedFrom, cd_S_sameAs, .methodLink "KeepHeap" 142 y_S_sameAs, .instanceMethod y_S_sameAs, .selects "KeepHeap$Slots" y_S_sameAs y_S_sameAs, cd_T_become, .methodLink "KeepHeap" 108 y_T_become, .instanceMethod y_T_become, .selects "KeepHeap$State" y_T_become y_T_become, cd_K_changedBytes, .methodLink "KeepHeap" 96 y_K_changedBytes, .instanceMethod y_K_changedBytes, .selects "KeepHeap" y_K_changedBytes y_K_changedBytes, cd_K_keepNow, .methodLink "KeepHeap" 100 y_K_keepNow, .instanceMethod y_K_keepNow, .selects "KeepHeap" y_K_keepNow y_K_keepNow, cd_N_isSame, .methodLink "KeepHeapModel$State" 41 y_N_isSame, .instanceMethod y_N_isSame, .selects "KeepHeapModel$State" y_N_isSame y_N_isSame, .methodLink "KeepHeapModel$State" 45 y_N_findRoot, .methodLink "KeepHeapModel$State" 31 arraycopyName, cd_N_copy, .methodLink "KeepHeapModel" 91 y_N_copy, .instanceMethod y_N_copy, .selects "KeepHeapModel$State" y_N_copy y_N_copy, .fieldLink "KeepHeapModel" 95 "KeepHeapModel" "logged" "I", .fieldLink "KeepHeapModel" 98 "KeepHeapModel" "waits" "I", .fieldLink "KeepHeapModel" 101 "KeepHeapModel$State" "bytes" "I", cd_N_bytesBehind, .methodLink "KeepHeapModel" 104 y_N_bytesBehind, .instanceMethod y_N_bytesBehind, .selects "KeepHeapModel$State" y_N_bytesBehind y_N_bytesBehind, cd_M_keep, .methodLink "KeepHeapModel" 108 y_M_keep, .instanceMethod y_M_keep, .selects "KeepHeapModel" y_M_keep y_M_keep, .fieldLink "KeepHeap$Reach" 41 "KeepHeap$Slots" "used" "I", .fieldLink "KeepHeap$Reach" 46 "KeepHeap$Slots" "values" "[J", .constantLong "KeepHeap$Reach" 50 1099511627777, .constantLong "KeepHeap$Reach" 52 100, cd_R_enqueue, .methodLink "KeepHeap$Reach" 54 y_R_enqueue, .instanceMethod y_R_enqueue, .selects "KeepHeap$Reach" y_R_enqueue y_R_enqueue, .fieldLink "KeepHeap$Reach" 33 "KeepHeap$State" "roots" "LKeepHeap$Slots;", cd_R_enqueueAll, .methodLink "KeepHeap$Reach" 37 y_R_enqueueAll, .instanceMethod y_R_enqueueAll, .selects "KeepHeap$Reach" y_R_enqueueAll y_R_enqueueAll, .fieldLink "KeepHeap$Reach" 27 "KeepHeap$State" "objects" "[LKeepHeap$Slots;", cd_R_walk, .methodLink "KeepHeap$Reach" 23 y_R_walk, .instanceMethod y_R_walk, .selects "KeepHeap$Reach" y_R_walk y_R_walk, cd_R_dropUnreached, .methodLink "KeepHeap" 112 y_R_dropUnreached, .instanceMethod y_R_dropUnreached, .selects "KeepHeap$Reach" y_R_dropUnreached y_R_dropUnreached, cd_M_reach, .methodLink "KeepHeapModel" 112 y_M_reach, .instanceMethod y_M_reach, .selects "KeepHeapModel" y_M_reach y_M_reach, cd_K_entriesWithin, .methodLink "KeepHeap" 120 y_K_entriesWithin, .instanceMethod y_K_entriesWithin, .selects "KeepHeap" y_K_entriesWithin y_K_entriesWithin, .fieldLink "KeepHeap" 123 "KeepHeap$Slots" "form" "I", .fieldLink "KeepHeap" 126 "KeepHeap$Slots" "used" "I", cd_T_objectsThere, .methodLink "KeepHeap" 129 y_T_objectsThere, .instanceMethod y_T_objectsThere, .selects "KeepHeap$State" y_T_objectsThere y_T_objectsThere, .classLink "KeepHeapLaw" 7 "KeepHeap", .instantiable "KeepHeap" 7, cd_K_init, .methodLink "KeepHeapLaw" 9 y_K_init, .instanceMethod y_K_init, .classLink "KeepHeapLaw" 10 "KeepHeapModel", .instantiable "KeepHeapModel" 8, cd_M_init, .methodLink "KeepHeapLaw" 12 y_M_init, .instanceMethod y_M_init, cd_K_make, .methodLink "KeepHeapLaw" 13 y_K_make, .instanceMethod y_K_make, .selects "KeepHeap" y_K_make y_K_make, cd_M_make, .methodLink "KeepHeapLaw" 17 y_M_make, .instanceMethod y_M_make, .selects "KeepHeapModel" y_M_make y_M_make, cd_K_set, .methodLink "KeepHeapLaw" 18 y_K_set, .instanceMethod y_K_set, .selects "KeepHeap" y_K_set y_K_set, cd_M_set, .methodLink "KeepHeapLaw" 22 y_M_set, .instanceMethod y_M_set, .selects "KeepHeapModel" y_M_set y_M_set, cd_K_get, .methodLink "KeepHeapLaw" 23 y_K_get, .instanceMethod y_K_get, .selects "KeepHeap" y_K_get y_K_get, cd_M_get, .methodLink "KeepHeapLaw" 27 y_M_get, .instanceMethod y_M_get, .selects "KeepHeapModel" y_M_get y_M_get, cd_K_push, .methodLink "KeepHeapLaw" 28 y_K_push, .instanceMethod y_K_push, .selects "KeepHeap" y_K_push y_K_push, cd_M_push, .methodLink "KeepHeapLaw" 32 y_M_push, .instanceMethod y_M_push, .selects "KeepHeapModel" y_M_push y_M_push, cd_K_pop, .methodLink "KeepHeapLaw" 33 y_K_pop, .instanceMethod y_K_pop, .selects "KeepHeap" y_K_pop y_K_pop, cd_M_pop, .methodLink "KeepHeapLaw" 37 y_M_pop, .instanceMethod y_M_pop, .selects "KeepHeapModel" y_M_pop y_M_pop, cd_K_put, .methodLink "KeepHeapLaw" 38 y_K_put, .instanceMethod y_K_put, .selects "KeepHeap" y_K_put y_K_put, cd_M_put, .methodLink "KeepHeapLaw" 41 y_M_put, .instanceMethod y_M_put, .selects "KeepHeapModel" y_M_put y_M_put, cd_K_item, .methodLink "KeepHeapLaw" 42 y_K_item, .instanceMethod y_K_item, .selects "KeepHeap" y_K_item y_K_item, cd_M_item, .methodLink "KeepHeapLaw" 45 y_M_item, .instanceMethod y_M_item, .selects "KeepHeapModel" y_M_item y_M_item, cd_K_root, .methodLink "KeepHeapLaw" 46 y_K_root, .instanceMethod y_K_root, .selects "KeepHeap" y_K_root y_K_root, cd_M_root, .methodLink "KeepHeapLaw" 49 y_M_root, .instanceMethod y_M_root, .selects "KeepHeapModel" y_M_root y_M_root, cd_K_rooted, .methodLink "KeepHeapLaw" 50 y_K_rooted, .instanceMethod y_K_rooted, .selects "KeepHeap" y_K_rooted y_K_rooted, cd_M_rooted, .methodLink "KeepHeapLaw" 53 y_M_rooted, .instanceMethod y_M_rooted, .selects "KeepHeapModel" y_M_rooted y_M_rooted, cd_K_commit, .methodLink "KeepHeapLaw" 54 y_K_commit, .instanceMethod y_K_commit, .selects "KeepHeap" y_K_commit y_K_commit, cd_M_commit, .methodLink "KeepHeapLaw" 58 y_M_commit, .instanceMethod y_M_commit, .selects "KeepHeapModel" y_M_commit y_M_commit, cd_K_undo, .methodLink "KeepHeapLaw" 59 y_K_undo, .instanceMethod y_K_undo, .selects "KeepHeap" y_K_undo y_K_undo, cd_M_undo, .methodLink "KeepHeapLaw" 62 y_M_undo, .instanceMethod y_M_undo, .selects "KeepHeapModel" y_M_undo y_M_undo, cd_K_sweep, .methodLink "KeepHeapLaw" 63 y_K_sweep, .instanceMethod y_K_sweep, .selects "KeepHeap" y_K_sweep y_K_sweep, cd_M_sweep, .methodLink "KeepHeapLaw" 66 y_M_sweep, .instanceMethod y_M_sweep, .selects "KeepHeapModel" y_M_sweep y_M_sweep, cd_K_sync, .methodLink "KeepHeapLaw" 67 y_K_sync, .instanceMethod y_K_sync, .selects "KeepHeap" y_K_sync y_K_sync, cd_M_sync, .methodLink "KeepHeapLaw" 70 y_M_sync, .instanceMethod y_M_sync, .selects "KeepHeapModel" y_M_sync y_M_sync, cd_K_crash, .methodLink "KeepHeapLaw" 71 y_K_crash, .instanceMethod y_K_crash, .selects "KeepHeap" y_K_crash y_K_crash, cd_M_crash, .methodLink "KeepHeapLaw" 75 y_M_crash, .instanceMethod y_M_crash, .selects "KeepHeapModel" y_M_crash y_M_crash, cd_K_kind, .methodLink "KeepHeapLaw" 76 y_K_kind, .instanceMethod y_K_kind, .selects "KeepHeap" y_K_kind y_K_kind, cd_M_kind, .methodLink "KeepHeapLaw" 79 y_M_kind, .instanceMethod y_M_kind, .selects "KeepHeapModel" y_M_kind y_M_kind, cd_K_size, .methodLink "KeepHeapLaw" 80 y_K_size, .instanceMethod y_K_size, .selects "KeepHeap" y_K_size y_K_size, cd_M_size, .methodLink "KeepHeapLaw" 83 y_M_size, .instanceMethod y_M_size, .selects "KeepHeapModel" y_M_size y_M_size, cd_K_count, .methodLink "KeepHeapLaw" 84 y_K_count, .instanceMethod y_K_count, .selects "KeepHeap" y_K_count y_K_count, cd_M_count, .methodLink "KeepHeapLaw" 87 y_M_count, .instanceMethod y_M_count, .selects "KeepHeapModel" y_M_count y_M_count]
def ALL : List Cond := AL0 ++ (u_ws "KeepHeap" F_0 7 ++ (u_ws "KeepHeap$Slots" F_1 4 ++ (u_ws "KeepHeap$State" F_2 2 ++ (u_ws "KeepHeap$Reach" F_3 3 ++ (u_ws "KeepHeapModel" F_4 8 ++ (u_ws "KeepHeapModel$State" F_5 8))))))
theorem k_0 : (.methodLink "KeepHeap$Reach" 3 Lib.objectInit : Cond) ∈ ALL := List.mem_append_left _ (List.mem_of_getElem? (i := 0) rfl)
theorem k_1 : (.instanceMethod Lib.objectInit : Cond) ∈ ALL := List.mem_append_left _ (List.mem_of_getElem? (i := 1) rfl)
theorem k_2 : (.code Lib.objectInit ⟨#[0xb1]⟩ 1 none : Cond) ∈ ALL := List.mem_append_left _ (List.mem_of_getElem? (i := 2) rfl)
theorem k_3 : (.arrayClass (newarray.typeOf .boolean) : Cond) ∈ ALL := List.mem_append_left _ (List.mem_of_getElem? (i := 3) rfl)
theorem k_4 : (.fieldLink "KeepHeap$Reach" 9 "KeepHeap$Reach" "reached" "[Z" : Cond) ∈ ALL := List.mem_append_left _ (List.mem_of_getElem? (i := 4) rfl)
theorem k_5 : (.arrayClass (newarray.typeOf .int) : Cond) ∈ ALL := List.mem_append_left _ (List.mem_of_getElem? (i := 5) rfl)
theorem k_6 : (.fieldLink "KeepHeap$Reach" 15 "KeepHeap$Reach" "queue" "[I" : Cond) ∈ ALL := List.mem_append_left _ (List.mem_of_getElem? (i := 6) rfl)
theorem k_7 : (.fieldLink "KeepHeap$Reach" 19 "KeepHeap$Reach" "found" "I" : Cond) ∈ ALL := List.mem_append_left _ (List.mem_of_getElem? (i := 7) rfl)
theorem k_8 : (.methodLink "KeepHeap$Slots" 3 Lib.objectInit : Cond) ∈ ALL := List.mem_append_left _ (List.mem_of_getElem? (i := 8) rfl)
theorem k_9 : (.fieldLink "KeepHeap$Slots" 9 "KeepHeap$Slots" "used" "I" : Cond) ∈ ALL := List.mem_append_left _ (List.mem_of_getElem? (i := 9) rfl)
theorem k_10 : (.fieldLink "KeepHeap$Slots" 15 "KeepHeap$Slots" "form" "I" : Cond) ∈ ALL := List.mem_append_left _ (List.mem_of_getElem? (i := 10) rfl)
theorem k_11 : (.fieldLink "KeepHeap$Slots" 18 "KeepHeap$Slots" "names" "[I" : Cond) ∈ ALL := List.mem_append_left _ (List.mem_of_getElem? (i := 11) rfl)
theorem k_12 : (.arrayClass (newarray.typeOf .long) : Cond) ∈ ALL := List.mem_append_left _ (List.mem_of_getElem? (i := 12) rfl)
theorem k_13 : (.fieldLink "KeepHeap$Slots" 22 "KeepHeap$Slots" "values" "[J" : Cond) ∈ ALL := List.mem_append_left _ (List.mem_of_getElem? (i := 13) rfl)
theorem k_14 : (.methodLink "KeepHeap$State" 3 Lib.objectInit : Cond) ∈ ALL := List.mem_append_left _ (List.mem_of_getElem? (i := 14) rfl)
theorem k_15 : (.classLink "KeepHeap$State" 9 "KeepHeap$Slots" : Cond) ∈ ALL := List.mem_append_left _ (List.mem_of_getElem? (i := 15) rfl)
theorem k_16 : (.fieldLink "KeepHeap$State" 11 "KeepHeap$State" "objects" "[LKeepHeap$Slots;" : Cond) ∈ ALL := List.mem_append_left _ (List.mem_of_getElem? (i := 16) rfl)
theorem k_17 : (.fieldLink "KeepHeap$State" 17 "KeepHeap$State" "roots" "LKeepHeap$Slots;" : Cond) ∈ ALL := List.mem_append_left _ (List.mem_of_getElem? (i := 17) rfl)
theorem k_18 : (.methodLink "KeepHeap" 3 Lib.objectInit : Cond) ∈ ALL := List.mem_append_left _ (List.mem_of_getElem? (i := 18) rfl)
theorem k_19 : (.classLink "KeepHeap" 9 "KeepHeap$State" : Cond) ∈ ALL := List.mem_append_left _ (List.mem_of_getElem? (i := 19) rfl)
theorem k_20 : (.fieldLink "KeepHeap" 11 "KeepHeap" "ring" "[LKeepHeap$State;" : Cond) ∈ ALL := List.mem_append_left _ (List.mem_of_getElem? (i := 20) rfl)
theorem k_21 : (.fieldLink "KeepHeap" 15 "KeepHeap" "ringBytes" "[I" : Cond) ∈ ALL := List.mem_append_left _ (List.mem_of_getElem? (i := 21) rfl)
theorem k_22 : (.classLink "KeepHeap" 19 "KeepHeap$Reach" : Cond) ∈ ALL := List.mem_append_left _ (List.mem_of_getElem? (i := 22) rfl)
theorem k_23 : (.instantiable "KeepHeap$Reach" 3 : Cond) ∈ ALL := List.mem_append_left _ (List.mem_of_getElem? (i := 23) rfl)
theorem k_24 : (.initialized "KeepHeap$Reach" : Cond) ∈ ALL := List.mem_append_left _ (List.mem_of_getElem? (i := 24) rfl)
theorem k_25 : (cd_R_init : Cond) ∈ ALL := List.mem_append_left _ (List.mem_of_getElem? (i := 25) rfl)
theorem k_26 : (.instanceMethod y_R_init : Cond) ∈ ALL := List.mem_append_left _ (List.mem_of_getElem? (i := 26) rfl)
theorem k_27 : (.fieldLink "KeepHeap" 22 "KeepHeap" "reach" "LKeepHeap$Reach;" : Cond) ∈ ALL := List.mem_append_left _ (List.mem_of_getElem? (i := 27) rfl)
theorem k_28 : (.fieldLink "KeepHeap" 26 "KeepHeap" "safeAt" "I" : Cond) ∈ ALL := List.mem_append_left _ (List.mem_of_getElem? (i := 28) rfl)
theorem k_29 : (.fieldLink "KeepHeap" 30 "KeepHeap" "waiting" "I" : Cond) ∈ ALL := List.mem_append_left _ (List.mem_of_getElem? (i := 29) rfl)
theorem k_30 : (.fieldLink "KeepHeap" 33 "KeepHeap" "logBytes" "I" : Cond) ∈ ALL := List.mem_append_left _ (List.mem_of_getElem? (i := 30) rfl)
theorem k_31 : (.classLink "KeepHeap" 36 "KeepHeap$Slots" : Cond) ∈ ALL := List.mem_append_left _ (List.mem_of_getElem? (i := 31) rfl)
theorem k_32 : (.instantiable "KeepHeap$Slots" 4 : Cond) ∈ ALL := List.mem_append_left _ (List.mem_of_getElem? (i := 32) rfl)
theorem k_33 : (.initialized "KeepHeap$Slots" : Cond) ∈ ALL := List.mem_append_left _ (List.mem_of_getElem? (i := 33) rfl)
theorem k_34 : (cd_S_init : Cond) ∈ ALL := List.mem_append_left _ (List.mem_of_getElem? (i := 34) rfl)
theorem k_35 : (.methodLink "KeepHeap" 38 y_S_init : Cond) ∈ ALL := List.mem_append_left _ (List.mem_of_getElem? (i := 35) rfl)
theorem k_36 : (.instanceMethod y_S_init : Cond) ∈ ALL := List.mem_append_left _ (List.mem_of_getElem? (i := 36) rfl)
theorem k_37 : (.instantiable "KeepHeap$State" 2 : Cond) ∈ ALL := List.mem_append_left _ (List.mem_of_getElem? (i := 37) rfl)
theorem k_38 : (.initialized "KeepHeap$State" : Cond) ∈ ALL := List.mem_append_left _ (List.mem_of_getElem? (i := 38) rfl)
theorem k_39 : (cd_T_init : Cond) ∈ ALL := List.mem_append_left _ (List.mem_of_getElem? (i := 39) rfl)
theorem k_40 : (.methodLink "KeepHeap" 41 y_T_init : Cond) ∈ ALL := List.mem_append_left _ (List.mem_of_getElem? (i := 40) rfl)
theorem k_41 : (.instanceMethod y_T_init : Cond) ∈ ALL := List.mem_append_left _ (List.mem_of_getElem? (i := 41) rfl)
theorem k_42 : (.fieldLink "KeepHeap" 44 "KeepHeap" "now" "LKeepHeap$State;" : Cond) ∈ ALL := List.mem_append_left _ (List.mem_of_getElem? (i := 42) rfl)
theorem k_43 : (.methodLink "KeepHeapModel$State" 3 Lib.objectInit : Cond) ∈ ALL := List.mem_append_left _ (List.mem_of_getElem? (i := 43) rfl)
theorem k_44 : (.fieldLink "KeepHeapModel$State" 9 "KeepHeapModel$State" "kind" "[I" : Cond) ∈ ALL := List.mem_append_left _ (List.mem_of_getElem? (i := 44) rfl)
theorem k_45 : (.fieldLink "KeepHeapModel$State" 15 "KeepHeapModel$State" "size" "[I" : Cond) ∈ ALL := List.mem_append_left _ (List.mem_of_getElem? (i := 45) rfl)
theorem k_46 : (.fieldLink "KeepHeapModel$State" 18 "KeepHeapModel$State" "name" "[I" : Cond) ∈ ALL := List.mem_append_left _ (List.mem_of_getElem? (i := 46) rfl)
theorem k_47 : (.fieldLink "KeepHeapModel$State" 21 "KeepHeapModel$State" "root" "[I" : Cond) ∈ ALL := List.mem_append_left _ (List.mem_of_getElem? (i := 47) rfl)
theorem k_48 : (.fieldLink "KeepHeapModel$State" 24 "KeepHeapModel$State" "slot" "[J" : Cond) ∈ ALL := List.mem_append_left _ (List.mem_of_getElem? (i := 48) rfl)
theorem k_49 : (.fieldLink "KeepHeapModel$State" 28 "KeepHeapModel$State" "value" "[J" : Cond) ∈ ALL := List.mem_append_left _ (List.mem_of_getElem? (i := 49) rfl)
theorem k_50 : (.methodLink "KeepHeapModel" 1 Lib.objectInit : Cond) ∈ ALL := List.mem_append_left _ (List.mem_of_getElem? (i := 50) rfl)
theorem k_51 : (.classLink "KeepHeapModel" 7 "KeepHeapModel$State" : Cond) ∈ ALL := List.mem_append_left _ (List.mem_of_getElem? (i := 51) rfl)
theorem k_52 : (.instantiable "KeepHeapModel$State" 8 : Cond) ∈ ALL := List.mem_append_left _ (List.mem_of_getElem? (i := 52) rfl)
theorem k_53 : (.initialized "KeepHeapModel$State" : Cond) ∈ ALL := List.mem_append_left _ (List.mem_of_getElem? (i := 53) rfl)
theorem k_54 : (cd_N_init : Cond) ∈ ALL := List.mem_append_left _ (List.mem_of_getElem? (i := 54) rfl)
theorem k_55 : (.instanceMethod y_N_init : Cond) ∈ ALL := List.mem_append_left _ (List.mem_of_getElem? (i := 55) rfl)
theorem k_56 : (.fieldLink "KeepHeapModel" 10 "KeepHeapModel" "now" "LKeepHeapModel$State;" : Cond) ∈ ALL := List.mem_append_left _ (List.mem_of_getElem? (i := 56) rfl)
theorem k_57 : (.fieldLink "KeepHeapModel" 16 "KeepHeapModel" "kept" "LKeepHeapModel$State;" : Cond) ∈ ALL := List.mem_append_left _ (List.mem_of_getElem? (i := 57) rfl)
theorem k_58 : (.fieldLink "KeepHeapModel" 19 "KeepHeapModel" "safe" "LKeepHeapModel$State;" : Cond) ∈ ALL := List.mem_append_left _ (List.mem_of_getElem? (i := 58) rfl)
theorem k_59 : (.fieldLink "KeepHeapModel" 22 "KeepHeapModel" "waiting" "[LKeepHeapModel$State;" : Cond) ∈ ALL := List.mem_append_left _ (List.mem_of_getElem? (i := 59) rfl)
theorem k_60 : (.fieldLink "KeepHeapModel" 26 "KeepHeapModel" "reached" "[Z" : Cond) ∈ ALL := List.mem_append_left _ (List.mem_of_getElem? (i := 60) rfl)
theorem k_61 : (.fieldLink "KeepHeapModel" 30 "KeepHeapModel" "path" "[I" : Cond) ∈ ALL := List.mem_append_left _ (List.mem_of_getElem? (i := 61) rfl)
theorem k_62 : (.fieldLink "KeepHeap" 48 "KeepHeap$State" "objects" "[LKeepHeap$Slots;" : Cond) ∈ ALL := List.mem_append_left _ (List.mem_of_getElem? (i := 62) rfl)
theorem k_63 : (.fieldLink "KeepHeapModel" 40 "KeepHeapModel$State" "kind" "[I" : Cond) ∈ ALL := List.mem_append_left _ (List.mem_of_getElem? (i := 63) rfl)
theorem k_64 : (.fieldLink "KeepHeapModel" 51 "KeepHeapModel$State" "size" "[I" : Cond) ∈ ALL := List.mem_append_left _ (List.mem_of_getElem? (i := 64) rfl)
theorem k_65 : (.constantLong "KeepHeap" 132 1099511627776 : Cond) ∈ ALL := List.mem_append_left _ (List.mem_of_getElem? (i := 65) rfl)
theorem k_66 : (cd_T_has : Cond) ∈ ALL := List.mem_append_left _ (List.mem_of_getElem? (i := 66) rfl)
theorem k_67 : (.methodLink "KeepHeap" 134 y_T_has : Cond) ∈ ALL := List.mem_append_left _ (List.mem_of_getElem? (i := 67) rfl)
theorem k_68 : (.instanceMethod y_T_has : Cond) ∈ ALL := List.mem_append_left _ (List.mem_of_getElem? (i := 68) rfl)
theorem k_69 : (.selects "KeepHeap$State" y_T_has y_T_has : Cond) ∈ ALL := List.mem_append_left _ (List.mem_of_getElem? (i := 69) rfl)
theorem k_70 : (.constantLong "KeepHeap" 60 (-1099511627776) : Cond) ∈ ALL := List.mem_append_left _ (List.mem_of_getElem? (i := 70) rfl)
theorem k_71 : (.constantLong "KeepHeap" 137 1099511627777 : Cond) ∈ ALL := List.mem_append_left _ (List.mem_of_getElem? (i := 71) rfl)
theorem k_72 : (.methodLink "KeepHeap$State" 21 y_T_has : Cond) ∈ ALL := List.mem_append_left _ (List.mem_of_getElem? (i := 72) rfl)
theorem k_73 : (.fieldLink "KeepHeap$State" 25 "KeepHeap$Slots" "form" "I" : Cond) ∈ ALL := List.mem_append_left _ (List.mem_of_getElem? (i := 73) rfl)
theorem k_74 : (cd_K_ringIndex : Cond) ∈ ALL := List.mem_append_left _ (List.mem_of_getElem? (i := 74) rfl)
theorem k_75 : (.methodLink "KeepHeap" 116 y_K_ringIndex : Cond) ∈ ALL := List.mem_append_left _ (List.mem_of_getElem? (i := 75) rfl)
theorem k_76 : (.instanceMethod y_K_ringIndex : Cond) ∈ ALL := List.mem_append_left _ (List.mem_of_getElem? (i := 76) rfl)
theorem k_77 : (.selects "KeepHeap" y_K_ringIndex y_K_ringIndex : Cond) ∈ ALL := List.mem_append_left _ (List.mem_of_getElem? (i := 77) rfl)
theorem k_78 : (.initialized "KeepHeap" : Cond) ∈ ALL := List.mem_append_left _ (List.mem_of_getElem? (i := 78) rfl)
theorem k_79 : (.classLink "KeepHeap$Slots" 10 "KeepHeap$Slots" : Cond) ∈ ALL := List.mem_append_left _ (List.mem_of_getElem? (i := 79) rfl)
theorem k_80 : (.methodLink "KeepHeap$Slots" 26 y_S_init : Cond) ∈ ALL := List.mem_append_left _ (List.mem_of_getElem? (i := 80) rfl)
theorem k_81 : (.methodLink "KeepHeap$Slots" 29 arraycopyName : Cond) ∈ ALL := List.mem_append_left _ (List.mem_of_getElem? (i := 81) rfl)
theorem k_82 : (.native arraycopyName : Cond) ∈ ALL := List.mem_append_left _ (List.mem_of_getElem? (i := 82) rfl)
theorem k_83 : (.static arraycopyName : Cond) ∈ ALL := List.mem_append_left _ (List.mem_of_getElem? (i := 83) rfl)
theorem k_84 : (.initialized "java/lang/System" : Cond) ∈ ALL := List.mem_append_left _ (List.mem_of_getElem? (i := 84) rfl)
theorem k_85 : (cd_T_find : Cond) ∈ ALL := List.mem_append_left _ (List.mem_of_getElem? (i := 85) rfl)
theorem k_86 : (.methodLink "KeepHeap" 66 y_T_find : Cond) ∈ ALL := List.mem_append_left _ (List.mem_of_getElem? (i := 86) rfl)
theorem k_87 : (.instanceMethod y_T_find : Cond) ∈ ALL := List.mem_append_left _ (List.mem_of_getElem? (i := 87) rfl)
theorem k_88 : (.selects "KeepHeap$State" y_T_find y_T_find : Cond) ∈ ALL := List.mem_append_left _ (List.mem_of_getElem? (i := 88) rfl)
theorem k_89 : (cd_K_kept : Cond) ∈ ALL := List.mem_append_left _ (List.mem_of_getElem? (i := 89) rfl)
theorem k_90 : (.methodLink "KeepHeap" 104 y_K_kept : Cond) ∈ ALL := List.mem_append_left _ (List.mem_of_getElem? (i := 90) rfl)
theorem k_91 : (.instanceMethod y_K_kept : Cond) ∈ ALL := List.mem_append_left _ (List.mem_of_getElem? (i := 91) rfl)
theorem k_92 : (.selects "KeepHeap" y_K_kept y_K_kept : Cond) ∈ ALL := List.mem_append_left _ (List.mem_of_getElem? (i := 92) rfl)
theorem k_93 : (cd_S_twin : Cond) ∈ ALL := List.mem_append_left _ (List.mem_of_getElem? (i := 93) rfl)
theorem k_94 : (.methodLink "KeepHeap" 139 y_S_twin : Cond) ∈ ALL := List.mem_append_left _ (List.mem_of_getElem? (i := 94) rfl)
theorem k_95 : (.instanceMethod y_S_twin : Cond) ∈ ALL := List.mem_append_left _ (List.mem_of_getElem? (i := 95) rfl)
theorem k_96 : (.selects "KeepHeap$Slots" y_S_twin y_S_twin : Cond) ∈ ALL := List.mem_append_left _ (List.mem_of_getElem? (i := 96) rfl)
theorem k_97 : (cd_S_holds : Cond) ∈ ALL := List.mem_append_left _ (List.mem_of_getElem? (i := 97) rfl)
theorem k_98 : (.methodLink "KeepHeap$Slots" 49 y_S_holds : Cond) ∈ ALL := List.mem_append_left _ (List.mem_of_getElem? (i := 98) rfl)
theorem k_99 : (.instanceMethod y_S_holds : Cond) ∈ ALL := List.mem_append_left _ (List.mem_of_getElem? (i := 99) rfl)
theorem k_100 : (.selects "KeepHeap$Slots" y_S_holds y_S_holds : Cond) ∈ ALL := List.mem_append_left _ (List.mem_of_getElem? (i := 100) rfl)
theorem k_101 : (cd_S_placeOf : Cond) ∈ ALL := List.mem_append_left _ (List.mem_of_getElem? (i := 101) rfl)
theorem k_102 : (.methodLink "KeepHeap$Slots" 35 y_S_placeOf : Cond) ∈ ALL := List.mem_append_left _ (List.mem_of_getElem? (i := 102) rfl)
theorem k_103 : (.instanceMethod y_S_placeOf : Cond) ∈ ALL := List.mem_append_left _ (List.mem_of_getElem? (i := 103) rfl)
theorem k_104 : (.selects "KeepHeap$Slots" y_S_placeOf y_S_placeOf : Cond) ∈ ALL := List.mem_append_left _ (List.mem_of_getElem? (i := 104) rfl)
theorem k_105 : (.constantLong "KeepHeap$Slots" 39 1099511627776 : Cond) ∈ ALL := List.mem_append_left _ (List.mem_of_getElem? (i := 105) rfl)
theorem k_106 : (cd_S_append : Cond) ∈ ALL := List.mem_append_left _ (List.mem_of_getElem? (i := 106) rfl)
theorem k_107 : (.methodLink "KeepHeap$Slots" 45 y_S_append : Cond) ∈ ALL := List.mem_append_left _ (List.mem_of_getElem? (i := 107) rfl)
theorem k_108 : (.instanceMethod y_S_append : Cond) ∈ ALL := List.mem_append_left _ (List.mem_of_getElem? (i := 108) rfl)
theorem k_109 : (.selects "KeepHeap$Slots" y_S_append y_S_append : Cond) ∈ ALL := List.mem_append_left _ (List.mem_of_getElem? (i := 109) rfl)
theorem k_110 : (cd_S_removeAt : Cond) ∈ ALL := List.mem_append_left _ (List.mem_of_getElem? (i := 110) rfl)
theorem k_111 : (.methodLink "KeepHeap$Slots" 41 y_S_removeAt : Cond) ∈ ALL := List.mem_append_left _ (List.mem_of_getElem? (i := 111) rfl)
theorem k_112 : (.instanceMethod y_S_removeAt : Cond) ∈ ALL := List.mem_append_left _ (List.mem_of_getElem? (i := 112) rfl)
theorem k_113 : (.selects "KeepHeap$Slots" y_S_removeAt y_S_removeAt : Cond) ∈ ALL := List.mem_append_left _ (List.mem_of_getElem? (i := 113) rfl)
theorem k_114 : (cd_K_valueOf : Cond) ∈ ALL := List.mem_append_left _ (List.mem_of_getElem? (i := 114) rfl)
theorem k_115 : (.methodLink "KeepHeap" 52 y_K_valueOf : Cond) ∈ ALL := List.mem_append_left _ (List.mem_of_getElem? (i := 115) rfl)
theorem k_116 : (.instanceMethod y_K_valueOf : Cond) ∈ ALL := List.mem_append_left _ (List.mem_of_getElem? (i := 116) rfl)
theorem k_117 : (.selects "KeepHeap" y_K_valueOf y_K_valueOf : Cond) ∈ ALL := List.mem_append_left _ (List.mem_of_getElem? (i := 117) rfl)
theorem k_118 : (cd_K_own : Cond) ∈ ALL := List.mem_append_left _ (List.mem_of_getElem? (i := 118) rfl)
theorem k_119 : (.methodLink "KeepHeap" 56 y_K_own : Cond) ∈ ALL := List.mem_append_left _ (List.mem_of_getElem? (i := 119) rfl)
theorem k_120 : (.instanceMethod y_K_own : Cond) ∈ ALL := List.mem_append_left _ (List.mem_of_getElem? (i := 120) rfl)
theorem k_121 : (.selects "KeepHeap" y_K_own y_K_own : Cond) ∈ ALL := List.mem_append_left _ (List.mem_of_getElem? (i := 121) rfl)
theorem k_122 : (cd_S_assign : Cond) ∈ ALL := List.mem_append_left _ (List.mem_of_getElem? (i := 122) rfl)
theorem k_123 : (.methodLink "KeepHeap" 62 y_S_assign : Cond) ∈ ALL := List.mem_append_left _ (List.mem_of_getElem? (i := 123) rfl)
theorem k_124 : (.instanceMethod y_S_assign : Cond) ∈ ALL := List.mem_append_left _ (List.mem_of_getElem? (i := 124) rfl)
theorem k_125 : (.selects "KeepHeap$Slots" y_S_assign y_S_assign : Cond) ∈ ALL := List.mem_append_left _ (List.mem_of_getElem? (i := 125) rfl)
theorem k_126 : (.constantLong "KeepHeapModel" 34 99 : Cond) ∈ ALL := List.mem_append_left _ (List.mem_of_getElem? (i := 126) rfl)
theorem k_127 : (cd_M_in : Cond) ∈ ALL := List.mem_append_left _ (List.mem_of_getElem? (i := 127) rfl)
theorem k_128 : (.methodLink "KeepHeapModel" 36 y_M_in : Cond) ∈ ALL := List.mem_append_left _ (List.mem_of_getElem? (i := 128) rfl)
theorem k_129 : (.static y_M_in : Cond) ∈ ALL := List.mem_append_left _ (List.mem_of_getElem? (i := 129) rfl)
theorem k_130 : (.initialized "KeepHeapModel" : Cond) ∈ ALL := List.mem_append_left _ (List.mem_of_getElem? (i := 130) rfl)
theorem k_131 : (cd_M_isThere : Cond) ∈ ALL := List.mem_append_left _ (List.mem_of_getElem? (i := 131) rfl)
theorem k_132 : (.methodLink "KeepHeapModel" 43 y_M_isThere : Cond) ∈ ALL := List.mem_append_left _ (List.mem_of_getElem? (i := 132) rfl)
theorem k_133 : (.instanceMethod y_M_isThere : Cond) ∈ ALL := List.mem_append_left _ (List.mem_of_getElem? (i := 133) rfl)
theorem k_134 : (.selects "KeepHeapModel" y_M_isThere y_M_isThere : Cond) ∈ ALL := List.mem_append_left _ (List.mem_of_getElem? (i := 134) rfl)
theorem k_135 : (.constantLong "KeepHeapModel" 49 1099511627777 : Cond) ∈ ALL := List.mem_append_left _ (List.mem_of_getElem? (i := 135) rfl)
theorem k_136 : (.constantLong "KeepHeapModel" 47 1099511627776 : Cond) ∈ ALL := List.mem_append_left _ (List.mem_of_getElem? (i := 136) rfl)
theorem k_137 : (cd_M_is : Cond) ∈ ALL := List.mem_append_left _ (List.mem_of_getElem? (i := 137) rfl)
theorem k_138 : (.methodLink "KeepHeapModel" 54 y_M_is : Cond) ∈ ALL := List.mem_append_left _ (List.mem_of_getElem? (i := 138) rfl)
theorem k_139 : (.instanceMethod y_M_is : Cond) ∈ ALL := List.mem_append_left _ (List.mem_of_getElem? (i := 139) rfl)
theorem k_140 : (.selects "KeepHeapModel" y_M_is y_M_is : Cond) ∈ ALL := List.mem_append_left _ (List.mem_of_getElem? (i := 140) rfl)
theorem k_141 : (cd_M_isValue : Cond) ∈ ALL := List.mem_append_left _ (List.mem_of_getElem? (i := 141) rfl)
theorem k_142 : (.methodLink "KeepHeapModel" 58 y_M_isValue : Cond) ∈ ALL := List.mem_append_left _ (List.mem_of_getElem? (i := 142) rfl)
theorem k_143 : (.instanceMethod y_M_isValue : Cond) ∈ ALL := List.mem_append_left _ (List.mem_of_getElem? (i := 143) rfl)
theorem k_144 : (.selects "KeepHeapModel" y_M_isValue y_M_isValue : Cond) ∈ ALL := List.mem_append_left _ (List.mem_of_getElem? (i := 144) rfl)
theorem k_145 : (cd_N_findField : Cond) ∈ ALL := List.mem_append_left _ (List.mem_of_getElem? (i := 145) rfl)
theorem k_146 : (.methodLink "KeepHeapModel" 61 y_N_findField : Cond) ∈ ALL := List.mem_append_left _ (List.mem_of_getElem? (i := 146) rfl)
theorem k_147 : (.instanceMethod y_N_findField : Cond) ∈ ALL := List.mem_append_left _ (List.mem_of_getElem? (i := 147) rfl)
theorem k_148 : (.selects "KeepHeapModel$State" y_N_findField y_N_findField : Cond) ∈ ALL := List.mem_append_left _ (List.mem_of_getElem? (i := 148) rfl)
theorem k_149 : (.fieldLink "KeepHeapModel" 68 "KeepHeapModel$State" "slot" "[J" : Cond) ∈ ALL := List.mem_append_left _ (List.mem_of_getElem? (i := 149) rfl)
theorem k_150 : (cd_M_value : Cond) ∈ ALL := List.mem_append_left _ (List.mem_of_getElem? (i := 150) rfl)
theorem k_151 : (.methodLink "KeepHeapModel" 72 y_M_value : Cond) ∈ ALL := List.mem_append_left _ (List.mem_of_getElem? (i := 151) rfl)
theorem k_152 : (.static y_M_value : Cond) ∈ ALL := List.mem_append_left _ (List.mem_of_getElem? (i := 152) rfl)
theorem k_153 : (.fieldLink "KeepHeapModel" 65 "KeepHeapModel$State" "name" "[I" : Cond) ∈ ALL := List.mem_append_left _ (List.mem_of_getElem? (i := 153) rfl)
theorem k_154 : (cd_S_named : Cond) ∈ ALL := List.mem_append_left _ (List.mem_of_getElem? (i := 154) rfl)
theorem k_155 : (.methodLink "KeepHeap" 69 y_S_named : Cond) ∈ ALL := List.mem_append_left _ (List.mem_of_getElem? (i := 155) rfl)
theorem k_156 : (.instanceMethod y_S_named : Cond) ∈ ALL := List.mem_append_left _ (List.mem_of_getElem? (i := 156) rfl)
theorem k_157 : (.selects "KeepHeap$Slots" y_S_named y_S_named : Cond) ∈ ALL := List.mem_append_left _ (List.mem_of_getElem? (i := 157) rfl)
theorem k_158 : (.constantLong "KeepHeapModel" 76 (-1099511627776) : Cond) ∈ ALL := List.mem_append_left _ (List.mem_of_getElem? (i := 158) rfl)
theorem k_159 : (.methodLink "KeepHeap" 73 y_S_append : Cond) ∈ ALL := List.mem_append_left _ (List.mem_of_getElem? (i := 159) rfl)
theorem k_160 : (.constantLong "KeepHeap$Slots" 53 (-1099511627776) : Cond) ∈ ALL := List.mem_append_left _ (List.mem_of_getElem? (i := 160) rfl)
theorem k_161 : (cd_S_takeLast : Cond) ∈ ALL := List.mem_append_left _ (List.mem_of_getElem? (i := 161) rfl)
theorem k_162 : (.methodLink "KeepHeap" 76 y_S_takeLast : Cond) ∈ ALL := List.mem_append_left _ (List.mem_of_getElem? (i := 162) rfl)
theorem k_163 : (.instanceMethod y_S_takeLast : Cond) ∈ ALL := List.mem_append_left _ (List.mem_of_getElem? (i := 163) rfl)
theorem k_164 : (.selects "KeepHeap$Slots" y_S_takeLast y_S_takeLast : Cond) ∈ ALL := List.mem_append_left _ (List.mem_of_getElem? (i := 164) rfl)
theorem k_165 : (.methodLink "KeepHeap" 80 y_S_holds : Cond) ∈ ALL := List.mem_append_left _ (List.mem_of_getElem? (i := 165) rfl)
theorem k_166 : (.fieldLink "KeepHeap" 84 "KeepHeap$Slots" "values" "[J" : Cond) ∈ ALL := List.mem_append_left _ (List.mem_of_getElem? (i := 166) rfl)
theorem k_167 : (.fieldLink "KeepHeap" 92 "KeepHeap$State" "roots" "LKeepHeap$Slots;" : Cond) ∈ ALL := List.mem_append_left _ (List.mem_of_getElem? (i := 167) rfl)
theorem k_168 : (cd_K_ownRoots : Cond) ∈ ALL := List.mem_append_left _ (List.mem_of_getElem? (i := 168) rfl)
theorem k_169 : (.methodLink "KeepHeap" 88 y_K_ownRoots : Cond) ∈ ALL := List.mem_append_left _ (List.mem_of_getElem? (i := 169) rfl)
theorem k_170 : (.instanceMethod y_K_ownRoots : Cond) ∈ ALL := List.mem_append_left _ (List.mem_of_getElem? (i := 170) rfl)
theorem k_171 : (.selects "KeepHeap" y_K_ownRoots y_K_ownRoots : Cond) ∈ ALL := List.mem_append_left _ (List.mem_of_getElem? (i := 171) rfl)
theorem k_172 : (.fieldLink "KeepHeapModel$State" 37 "KeepHeapModel$State" "roots" "I" : Cond) ∈ ALL := List.mem_append_left _ (List.mem_of_getElem? (i := 172) rfl)
theorem k_173 : (cd_N_findRoot : Cond) ∈ ALL := List.mem_append_left _ (List.mem_of_getElem? (i := 173) rfl)
theorem k_174 : (.methodLink "KeepHeapModel" 78 y_N_findRoot : Cond) ∈ ALL := List.mem_append_left _ (List.mem_of_getElem? (i := 174) rfl)
theorem k_175 : (.instanceMethod y_N_findRoot : Cond) ∈ ALL := List.mem_append_left _ (List.mem_of_getElem? (i := 175) rfl)
theorem k_176 : (.selects "KeepHeapModel$State" y_N_findRoot y_N_findRoot : Cond) ∈ ALL := List.mem_append_left _ (List.mem_of_getElem? (i := 176) rfl)
theorem k_177 : (.fieldLink "KeepHeapModel" 89 "KeepHeapModel$State" "value" "[J" : Cond) ∈ ALL := List.mem_append_left _ (List.mem_of_getElem? (i := 177) rfl)
theorem k_178 : (.fieldLink "KeepHeapModel" 82 "KeepHeapModel$State" "roots" "I" : Cond) ∈ ALL := List.mem_append_left _ (List.mem_of_getElem? (i := 178) rfl)
theorem k_179 : (.fieldLink "KeepHeapModel" 86 "KeepHeapModel$State" "root" "[I" : Cond) ∈ ALL := List.mem_append_left _ (List.mem_of_getElem? (i := 179) rfl)
theorem k_180 : (.methodLink "KeepHeap$Slots" 55 y_S_named : Cond) ∈ ALL := List.mem_append_left _ (List.mem_of_getElem? (i := 180) rfl)
theorem k_181 : (cd_S_namesChangedFrom : Cond) ∈ ALL := List.mem_append_left _ (List.mem_of_getElem? (i := 181) rfl)
theorem k_182 : (.methodLink "KeepHeap" 146 y_S_namesChangedFrom : Cond) ∈ ALL := List.mem_append_left _ (List.mem_of_getElem? (i := 182) rfl)
theorem k_183 : (.instanceMethod y_S_namesChangedFrom : Cond) ∈ ALL := List.mem_append_left _ (List.mem_of_getElem? (i := 183) rfl)
theorem k_184 : (.selects "KeepHeap$Slots" y_S_namesChangedFrom y_S_namesChangedFrom : Cond) ∈ ALL := List.mem_append_left _ (List.mem_of_getElem? (i := 184) rfl)
theorem k_185 : (cd_S_sameAs : Cond) ∈ ALL := List.mem_append_left _ (List.mem_of_getElem? (i := 185) rfl)
theorem k_186 : (.methodLink "KeepHeap" 142 y_S_sameAs : Cond) ∈ ALL := List.mem_append_left _ (List.mem_of_getElem? (i := 186) rfl)
theorem k_187 : (.instanceMethod y_S_sameAs : Cond) ∈ ALL := List.mem_append_left _ (List.mem_of_getElem? (i := 187) rfl)
theorem k_188 : (.selects "KeepHeap$Slots" y_S_sameAs y_S_sameAs : Cond) ∈ ALL := List.mem_append_left _ (List.mem_of_getElem? (i := 188) rfl)
theorem k_189 : (cd_T_become : Cond) ∈ ALL := List.mem_append_left _ (List.mem_of_getElem? (i := 189) rfl)
theorem k_190 : (.methodLink "KeepHeap" 108 y_T_become : Cond) ∈ ALL := List.mem_append_left _ (List.mem_of_getElem? (i := 190) rfl)
theorem k_191 : (.instanceMethod y_T_become : Cond) ∈ ALL := List.mem_append_left _ (List.mem_of_getElem? (i := 191) rfl)
theorem k_192 : (.selects "KeepHeap$State" y_T_become y_T_become : Cond) ∈ ALL := List.mem_append_left _ (List.mem_of_getElem? (i := 192) rfl)
theorem k_193 : (cd_K_changedBytes : Cond) ∈ ALL := List.mem_append_left _ (List.mem_of_getElem? (i := 193) rfl)
theorem k_194 : (.methodLink "KeepHeap" 96 y_K_changedBytes : Cond) ∈ ALL := List.mem_append_left _ (List.mem_of_getElem? (i := 194) rfl)
theorem k_195 : (.instanceMethod y_K_changedBytes : Cond) ∈ ALL := List.mem_append_left _ (List.mem_of_getElem? (i := 195) rfl)
theorem k_196 : (.selects "KeepHeap" y_K_changedBytes y_K_changedBytes : Cond) ∈ ALL := List.mem_append_left _ (List.mem_of_getElem? (i := 196) rfl)
theorem k_197 : (cd_K_keepNow : Cond) ∈ ALL := List.mem_append_left _ (List.mem_of_getElem? (i := 197) rfl)
theorem k_198 : (.methodLink "KeepHeap" 100 y_K_keepNow : Cond) ∈ ALL := List.mem_append_left _ (List.mem_of_getElem? (i := 198) rfl)
theorem k_199 : (.instanceMethod y_K_keepNow : Cond) ∈ ALL := List.mem_append_left _ (List.mem_of_getElem? (i := 199) rfl)
theorem k_200 : (.selects "KeepHeap" y_K_keepNow y_K_keepNow : Cond) ∈ ALL := List.mem_append_left _ (List.mem_of_getElem? (i := 200) rfl)
theorem k_201 : (cd_N_isSame : Cond) ∈ ALL := List.mem_append_left _ (List.mem_of_getElem? (i := 201) rfl)
theorem k_202 : (.methodLink "KeepHeapModel$State" 41 y_N_isSame : Cond) ∈ ALL := List.mem_append_left _ (List.mem_of_getElem? (i := 202) rfl)
theorem k_203 : (.instanceMethod y_N_isSame : Cond) ∈ ALL := List.mem_append_left _ (List.mem_of_getElem? (i := 203) rfl)
theorem k_204 : (.selects "KeepHeapModel$State" y_N_isSame y_N_isSame : Cond) ∈ ALL := List.mem_append_left _ (List.mem_of_getElem? (i := 204) rfl)
theorem k_205 : (.methodLink "KeepHeapModel$State" 45 y_N_findRoot : Cond) ∈ ALL := List.mem_append_left _ (List.mem_of_getElem? (i := 205) rfl)
theorem k_206 : (.methodLink "KeepHeapModel$State" 31 arraycopyName : Cond) ∈ ALL := List.mem_append_left _ (List.mem_of_getElem? (i := 206) rfl)
theorem k_207 : (cd_N_copy : Cond) ∈ ALL := List.mem_append_left _ (List.mem_of_getElem? (i := 207) rfl)
theorem k_208 : (.methodLink "KeepHeapModel" 91 y_N_copy : Cond) ∈ ALL := List.mem_append_left _ (List.mem_of_getElem? (i := 208) rfl)
theorem k_209 : (.instanceMethod y_N_copy : Cond) ∈ ALL := List.mem_append_left _ (List.mem_of_getElem? (i := 209) rfl)
theorem k_210 : (.selects "KeepHeapModel$State" y_N_copy y_N_copy : Cond) ∈ ALL := List.mem_append_left _ (List.mem_of_getElem? (i := 210) rfl)
theorem k_211 : (.fieldLink "KeepHeapModel" 95 "KeepHeapModel" "logged" "I" : Cond) ∈ ALL := List.mem_append_left _ (List.mem_of_getElem? (i := 211) rfl)
theorem k_212 : (.fieldLink "KeepHeapModel" 98 "KeepHeapModel" "waits" "I" : Cond) ∈ ALL := List.mem_append_left _ (List.mem_of_getElem? (i := 212) rfl)
theorem k_213 : (.fieldLink "KeepHeapModel" 101 "KeepHeapModel$State" "bytes" "I" : Cond) ∈ ALL := List.mem_append_left _ (List.mem_of_getElem? (i := 213) rfl)
theorem k_214 : (cd_N_bytesBehind : Cond) ∈ ALL := List.mem_append_left _ (List.mem_of_getElem? (i := 214) rfl)
theorem k_215 : (.methodLink "KeepHeapModel" 104 y_N_bytesBehind : Cond) ∈ ALL := List.mem_append_left _ (List.mem_of_getElem? (i := 215) rfl)
theorem k_216 : (.instanceMethod y_N_bytesBehind : Cond) ∈ ALL := List.mem_append_left _ (List.mem_of_getElem? (i := 216) rfl)
theorem k_217 : (.selects "KeepHeapModel$State" y_N_bytesBehind y_N_bytesBehind : Cond) ∈ ALL := List.mem_append_left _ (List.mem_of_getElem? (i := 217) rfl)
theorem k_218 : (cd_M_keep : Cond) ∈ ALL := List.mem_append_left _ (List.mem_of_getElem? (i := 218) rfl)
theorem k_219 : (.methodLink "KeepHeapModel" 108 y_M_keep : Cond) ∈ ALL := List.mem_append_left _ (List.mem_of_getElem? (i := 219) rfl)
theorem k_220 : (.instanceMethod y_M_keep : Cond) ∈ ALL := List.mem_append_left _ (List.mem_of_getElem? (i := 220) rfl)
theorem k_221 : (.selects "KeepHeapModel" y_M_keep y_M_keep : Cond) ∈ ALL := List.mem_append_left _ (List.mem_of_getElem? (i := 221) rfl)
theorem k_222 : (.fieldLink "KeepHeap$Reach" 41 "KeepHeap$Slots" "used" "I" : Cond) ∈ ALL := List.mem_append_left _ (List.mem_of_getElem? (i := 222) rfl)
theorem k_223 : (.fieldLink "KeepHeap$Reach" 46 "KeepHeap$Slots" "values" "[J" : Cond) ∈ ALL := List.mem_append_left _ (List.mem_of_getElem? (i := 223) rfl)
theorem k_224 : (.constantLong "KeepHeap$Reach" 50 1099511627777 : Cond) ∈ ALL := List.mem_append_left _ (List.mem_of_getElem? (i := 224) rfl)
theorem k_225 : (.constantLong "KeepHeap$Reach" 52 100 : Cond) ∈ ALL := List.mem_append_left _ (List.mem_of_getElem? (i := 225) rfl)
theorem k_226 : (cd_R_enqueue : Cond) ∈ ALL := List.mem_append_left _ (List.mem_of_getElem? (i := 226) rfl)
theorem k_227 : (.methodLink "KeepHeap$Reach" 54 y_R_enqueue : Cond) ∈ ALL := List.mem_append_left _ (List.mem_of_getElem? (i := 227) rfl)
theorem k_228 : (.instanceMethod y_R_enqueue : Cond) ∈ ALL := List.mem_append_left _ (List.mem_of_getElem? (i := 228) rfl)
theorem k_229 : (.selects "KeepHeap$Reach" y_R_enqueue y_R_enqueue : Cond) ∈ ALL := List.mem_append_left _ (List.mem_of_getElem? (i := 229) rfl)
theorem k_230 : (.fieldLink "KeepHeap$Reach" 33 "KeepHeap$State" "roots" "LKeepHeap$Slots;" : Cond) ∈ ALL := List.mem_append_left _ (List.mem_of_getElem? (i := 230) rfl)
theorem k_231 : (cd_R_enqueueAll : Cond) ∈ ALL := List.mem_append_left _ (List.mem_of_getElem? (i := 231) rfl)
theorem k_232 : (.methodLink "KeepHeap$Reach" 37 y_R_enqueueAll : Cond) ∈ ALL := List.mem_append_left _ (List.mem_of_getElem? (i := 232) rfl)
theorem k_233 : (.instanceMethod y_R_enqueueAll : Cond) ∈ ALL := List.mem_append_left _ (List.mem_of_getElem? (i := 233) rfl)
theorem k_234 : (.selects "KeepHeap$Reach" y_R_enqueueAll y_R_enqueueAll : Cond) ∈ ALL := List.mem_append_left _ (List.mem_of_getElem? (i := 234) rfl)
theorem k_235 : (.fieldLink "KeepHeap$Reach" 27 "KeepHeap$State" "objects" "[LKeepHeap$Slots;" : Cond) ∈ ALL := List.mem_append_left _ (List.mem_of_getElem? (i := 235) rfl)
theorem k_236 : (cd_R_walk : Cond) ∈ ALL := List.mem_append_left _ (List.mem_of_getElem? (i := 236) rfl)
theorem k_237 : (.methodLink "KeepHeap$Reach" 23 y_R_walk : Cond) ∈ ALL := List.mem_append_left _ (List.mem_of_getElem? (i := 237) rfl)
theorem k_238 : (.instanceMethod y_R_walk : Cond) ∈ ALL := List.mem_append_left _ (List.mem_of_getElem? (i := 238) rfl)
theorem k_239 : (.selects "KeepHeap$Reach" y_R_walk y_R_walk : Cond) ∈ ALL := List.mem_append_left _ (List.mem_of_getElem? (i := 239) rfl)
theorem k_240 : (cd_R_dropUnreached : Cond) ∈ ALL := List.mem_append_left _ (List.mem_of_getElem? (i := 240) rfl)
theorem k_241 : (.methodLink "KeepHeap" 112 y_R_dropUnreached : Cond) ∈ ALL := List.mem_append_left _ (List.mem_of_getElem? (i := 241) rfl)
theorem k_242 : (.instanceMethod y_R_dropUnreached : Cond) ∈ ALL := List.mem_append_left _ (List.mem_of_getElem? (i := 242) rfl)
theorem k_243 : (.selects "KeepHeap$Reach" y_R_dropUnreached y_R_dropUnreached : Cond) ∈ ALL := List.mem_append_left _ (List.mem_of_getElem? (i := 243) rfl)
theorem k_244 : (cd_M_reach : Cond) ∈ ALL := List.mem_append_left _ (List.mem_of_getElem? (i := 244) rfl)
theorem k_245 : (.methodLink "KeepHeapModel" 112 y_M_reach : Cond) ∈ ALL := List.mem_append_left _ (List.mem_of_getElem? (i := 245) rfl)
theorem k_246 : (.instanceMethod y_M_reach : Cond) ∈ ALL := List.mem_append_left _ (List.mem_of_getElem? (i := 246) rfl)
theorem k_247 : (.selects "KeepHeapModel" y_M_reach y_M_reach : Cond) ∈ ALL := List.mem_append_left _ (List.mem_of_getElem? (i := 247) rfl)
theorem k_248 : (cd_K_entriesWithin : Cond) ∈ ALL := List.mem_append_left _ (List.mem_of_getElem? (i := 248) rfl)
theorem k_249 : (.methodLink "KeepHeap" 120 y_K_entriesWithin : Cond) ∈ ALL := List.mem_append_left _ (List.mem_of_getElem? (i := 249) rfl)
theorem k_250 : (.instanceMethod y_K_entriesWithin : Cond) ∈ ALL := List.mem_append_left _ (List.mem_of_getElem? (i := 250) rfl)
theorem k_251 : (.selects "KeepHeap" y_K_entriesWithin y_K_entriesWithin : Cond) ∈ ALL := List.mem_append_left _ (List.mem_of_getElem? (i := 251) rfl)
theorem k_252 : (.fieldLink "KeepHeap" 123 "KeepHeap$Slots" "form" "I" : Cond) ∈ ALL := List.mem_append_left _ (List.mem_of_getElem? (i := 252) rfl)
theorem k_253 : (.fieldLink "KeepHeap" 126 "KeepHeap$Slots" "used" "I" : Cond) ∈ ALL := List.mem_append_left _ (List.mem_of_getElem? (i := 253) rfl)
theorem k_254 : (cd_T_objectsThere : Cond) ∈ ALL := List.mem_append_left _ (List.mem_of_getElem? (i := 254) rfl)
theorem k_255 : (.methodLink "KeepHeap" 129 y_T_objectsThere : Cond) ∈ ALL := List.mem_append_left _ (List.mem_of_getElem? (i := 255) rfl)
theorem k_256 : (.instanceMethod y_T_objectsThere : Cond) ∈ ALL := List.mem_append_left _ (List.mem_of_getElem? (i := 256) rfl)
theorem k_257 : (.selects "KeepHeap$State" y_T_objectsThere y_T_objectsThere : Cond) ∈ ALL := List.mem_append_left _ (List.mem_of_getElem? (i := 257) rfl)
theorem k_258 : (.classLink "KeepHeapLaw" 7 "KeepHeap" : Cond) ∈ ALL := List.mem_append_left _ (List.mem_of_getElem? (i := 258) rfl)
theorem k_259 : (.instantiable "KeepHeap" 7 : Cond) ∈ ALL := List.mem_append_left _ (List.mem_of_getElem? (i := 259) rfl)
theorem k_260 : (cd_K_init : Cond) ∈ ALL := List.mem_append_left _ (List.mem_of_getElem? (i := 260) rfl)
theorem k_261 : (.methodLink "KeepHeapLaw" 9 y_K_init : Cond) ∈ ALL := List.mem_append_left _ (List.mem_of_getElem? (i := 261) rfl)
theorem k_262 : (.instanceMethod y_K_init : Cond) ∈ ALL := List.mem_append_left _ (List.mem_of_getElem? (i := 262) rfl)
theorem k_263 : (.classLink "KeepHeapLaw" 10 "KeepHeapModel" : Cond) ∈ ALL := List.mem_append_left _ (List.mem_of_getElem? (i := 263) rfl)
theorem k_264 : (.instantiable "KeepHeapModel" 8 : Cond) ∈ ALL := List.mem_append_left _ (List.mem_of_getElem? (i := 264) rfl)
theorem k_265 : (cd_M_init : Cond) ∈ ALL := List.mem_append_left _ (List.mem_of_getElem? (i := 265) rfl)
theorem k_266 : (.methodLink "KeepHeapLaw" 12 y_M_init : Cond) ∈ ALL := List.mem_append_left _ (List.mem_of_getElem? (i := 266) rfl)
theorem k_267 : (.instanceMethod y_M_init : Cond) ∈ ALL := List.mem_append_left _ (List.mem_of_getElem? (i := 267) rfl)
theorem k_268 : (cd_K_make : Cond) ∈ ALL := List.mem_append_left _ (List.mem_of_getElem? (i := 268) rfl)
theorem k_269 : (.methodLink "KeepHeapLaw" 13 y_K_make : Cond) ∈ ALL := List.mem_append_left _ (List.mem_of_getElem? (i := 269) rfl)
theorem k_270 : (.instanceMethod y_K_make : Cond) ∈ ALL := List.mem_append_left _ (List.mem_of_getElem? (i := 270) rfl)
theorem k_271 : (.selects "KeepHeap" y_K_make y_K_make : Cond) ∈ ALL := List.mem_append_left _ (List.mem_of_getElem? (i := 271) rfl)
theorem k_272 : (cd_M_make : Cond) ∈ ALL := List.mem_append_left _ (List.mem_of_getElem? (i := 272) rfl)
theorem k_273 : (.methodLink "KeepHeapLaw" 17 y_M_make : Cond) ∈ ALL := List.mem_append_left _ (List.mem_of_getElem? (i := 273) rfl)
theorem k_274 : (.instanceMethod y_M_make : Cond) ∈ ALL := List.mem_append_left _ (List.mem_of_getElem? (i := 274) rfl)
theorem k_275 : (.selects "KeepHeapModel" y_M_make y_M_make : Cond) ∈ ALL := List.mem_append_left _ (List.mem_of_getElem? (i := 275) rfl)
theorem k_276 : (cd_K_set : Cond) ∈ ALL := List.mem_append_left _ (List.mem_of_getElem? (i := 276) rfl)
theorem k_277 : (.methodLink "KeepHeapLaw" 18 y_K_set : Cond) ∈ ALL := List.mem_append_left _ (List.mem_of_getElem? (i := 277) rfl)
theorem k_278 : (.instanceMethod y_K_set : Cond) ∈ ALL := List.mem_append_left _ (List.mem_of_getElem? (i := 278) rfl)
theorem k_279 : (.selects "KeepHeap" y_K_set y_K_set : Cond) ∈ ALL := List.mem_append_left _ (List.mem_of_getElem? (i := 279) rfl)
theorem k_280 : (cd_M_set : Cond) ∈ ALL := List.mem_append_left _ (List.mem_of_getElem? (i := 280) rfl)
theorem k_281 : (.methodLink "KeepHeapLaw" 22 y_M_set : Cond) ∈ ALL := List.mem_append_left _ (List.mem_of_getElem? (i := 281) rfl)
theorem k_282 : (.instanceMethod y_M_set : Cond) ∈ ALL := List.mem_append_left _ (List.mem_of_getElem? (i := 282) rfl)
theorem k_283 : (.selects "KeepHeapModel" y_M_set y_M_set : Cond) ∈ ALL := List.mem_append_left _ (List.mem_of_getElem? (i := 283) rfl)
theorem k_284 : (cd_K_get : Cond) ∈ ALL := List.mem_append_left _ (List.mem_of_getElem? (i := 284) rfl)
theorem k_285 : (.methodLink "KeepHeapLaw" 23 y_K_get : Cond) ∈ ALL := List.mem_append_left _ (List.mem_of_getElem? (i := 285) rfl)
theorem k_286 : (.instanceMethod y_K_get : Cond) ∈ ALL := List.mem_append_left _ (List.mem_of_getElem? (i := 286) rfl)
theorem k_287 : (.selects "KeepHeap" y_K_get y_K_get : Cond) ∈ ALL := List.mem_append_left _ (List.mem_of_getElem? (i := 287) rfl)
theorem k_288 : (cd_M_get : Cond) ∈ ALL := List.mem_append_left _ (List.mem_of_getElem? (i := 288) rfl)
theorem k_289 : (.methodLink "KeepHeapLaw" 27 y_M_get : Cond) ∈ ALL := List.mem_append_left _ (List.mem_of_getElem? (i := 289) rfl)
theorem k_290 : (.instanceMethod y_M_get : Cond) ∈ ALL := List.mem_append_left _ (List.mem_of_getElem? (i := 290) rfl)
theorem k_291 : (.selects "KeepHeapModel" y_M_get y_M_get : Cond) ∈ ALL := List.mem_append_left _ (List.mem_of_getElem? (i := 291) rfl)
theorem k_292 : (cd_K_push : Cond) ∈ ALL := List.mem_append_left _ (List.mem_of_getElem? (i := 292) rfl)
theorem k_293 : (.methodLink "KeepHeapLaw" 28 y_K_push : Cond) ∈ ALL := List.mem_append_left _ (List.mem_of_getElem? (i := 293) rfl)
theorem k_294 : (.instanceMethod y_K_push : Cond) ∈ ALL := List.mem_append_left _ (List.mem_of_getElem? (i := 294) rfl)
theorem k_295 : (.selects "KeepHeap" y_K_push y_K_push : Cond) ∈ ALL := List.mem_append_left _ (List.mem_of_getElem? (i := 295) rfl)
theorem k_296 : (cd_M_push : Cond) ∈ ALL := List.mem_append_left _ (List.mem_of_getElem? (i := 296) rfl)
theorem k_297 : (.methodLink "KeepHeapLaw" 32 y_M_push : Cond) ∈ ALL := List.mem_append_left _ (List.mem_of_getElem? (i := 297) rfl)
theorem k_298 : (.instanceMethod y_M_push : Cond) ∈ ALL := List.mem_append_left _ (List.mem_of_getElem? (i := 298) rfl)
theorem k_299 : (.selects "KeepHeapModel" y_M_push y_M_push : Cond) ∈ ALL := List.mem_append_left _ (List.mem_of_getElem? (i := 299) rfl)
theorem k_300 : (cd_K_pop : Cond) ∈ ALL := List.mem_append_left _ (List.mem_of_getElem? (i := 300) rfl)
theorem k_301 : (.methodLink "KeepHeapLaw" 33 y_K_pop : Cond) ∈ ALL := List.mem_append_left _ (List.mem_of_getElem? (i := 301) rfl)
theorem k_302 : (.instanceMethod y_K_pop : Cond) ∈ ALL := List.mem_append_left _ (List.mem_of_getElem? (i := 302) rfl)
theorem k_303 : (.selects "KeepHeap" y_K_pop y_K_pop : Cond) ∈ ALL := List.mem_append_left _ (List.mem_of_getElem? (i := 303) rfl)
theorem k_304 : (cd_M_pop : Cond) ∈ ALL := List.mem_append_left _ (List.mem_of_getElem? (i := 304) rfl)
theorem k_305 : (.methodLink "KeepHeapLaw" 37 y_M_pop : Cond) ∈ ALL := List.mem_append_left _ (List.mem_of_getElem? (i := 305) rfl)
theorem k_306 : (.instanceMethod y_M_pop : Cond) ∈ ALL := List.mem_append_left _ (List.mem_of_getElem? (i := 306) rfl)
theorem k_307 : (.selects "KeepHeapModel" y_M_pop y_M_pop : Cond) ∈ ALL := List.mem_append_left _ (List.mem_of_getElem? (i := 307) rfl)
theorem k_308 : (cd_K_put : Cond) ∈ ALL := List.mem_append_left _ (List.mem_of_getElem? (i := 308) rfl)
theorem k_309 : (.methodLink "KeepHeapLaw" 38 y_K_put : Cond) ∈ ALL := List.mem_append_left _ (List.mem_of_getElem? (i := 309) rfl)
theorem k_310 : (.instanceMethod y_K_put : Cond) ∈ ALL := List.mem_append_left _ (List.mem_of_getElem? (i := 310) rfl)
theorem k_311 : (.selects "KeepHeap" y_K_put y_K_put : Cond) ∈ ALL := List.mem_append_left _ (List.mem_of_getElem? (i := 311) rfl)
theorem k_312 : (cd_M_put : Cond) ∈ ALL := List.mem_append_left _ (List.mem_of_getElem? (i := 312) rfl)
theorem k_313 : (.methodLink "KeepHeapLaw" 41 y_M_put : Cond) ∈ ALL := List.mem_append_left _ (List.mem_of_getElem? (i := 313) rfl)
theorem k_314 : (.instanceMethod y_M_put : Cond) ∈ ALL := List.mem_append_left _ (List.mem_of_getElem? (i := 314) rfl)
theorem k_315 : (.selects "KeepHeapModel" y_M_put y_M_put : Cond) ∈ ALL := List.mem_append_left _ (List.mem_of_getElem? (i := 315) rfl)
theorem k_316 : (cd_K_item : Cond) ∈ ALL := List.mem_append_left _ (List.mem_of_getElem? (i := 316) rfl)
theorem k_317 : (.methodLink "KeepHeapLaw" 42 y_K_item : Cond) ∈ ALL := List.mem_append_left _ (List.mem_of_getElem? (i := 317) rfl)
theorem k_318 : (.instanceMethod y_K_item : Cond) ∈ ALL := List.mem_append_left _ (List.mem_of_getElem? (i := 318) rfl)
theorem k_319 : (.selects "KeepHeap" y_K_item y_K_item : Cond) ∈ ALL := List.mem_append_left _ (List.mem_of_getElem? (i := 319) rfl)
theorem k_320 : (cd_M_item : Cond) ∈ ALL := List.mem_append_left _ (List.mem_of_getElem? (i := 320) rfl)
theorem k_321 : (.methodLink "KeepHeapLaw" 45 y_M_item : Cond) ∈ ALL := List.mem_append_left _ (List.mem_of_getElem? (i := 321) rfl)
theorem k_322 : (.instanceMethod y_M_item : Cond) ∈ ALL := List.mem_append_left _ (List.mem_of_getElem? (i := 322) rfl)
theorem k_323 : (.selects "KeepHeapModel" y_M_item y_M_item : Cond) ∈ ALL := List.mem_append_left _ (List.mem_of_getElem? (i := 323) rfl)
theorem k_324 : (cd_K_root : Cond) ∈ ALL := List.mem_append_left _ (List.mem_of_getElem? (i := 324) rfl)
theorem k_325 : (.methodLink "KeepHeapLaw" 46 y_K_root : Cond) ∈ ALL := List.mem_append_left _ (List.mem_of_getElem? (i := 325) rfl)
theorem k_326 : (.instanceMethod y_K_root : Cond) ∈ ALL := List.mem_append_left _ (List.mem_of_getElem? (i := 326) rfl)
theorem k_327 : (.selects "KeepHeap" y_K_root y_K_root : Cond) ∈ ALL := List.mem_append_left _ (List.mem_of_getElem? (i := 327) rfl)
theorem k_328 : (cd_M_root : Cond) ∈ ALL := List.mem_append_left _ (List.mem_of_getElem? (i := 328) rfl)
theorem k_329 : (.methodLink "KeepHeapLaw" 49 y_M_root : Cond) ∈ ALL := List.mem_append_left _ (List.mem_of_getElem? (i := 329) rfl)
theorem k_330 : (.instanceMethod y_M_root : Cond) ∈ ALL := List.mem_append_left _ (List.mem_of_getElem? (i := 330) rfl)
theorem k_331 : (.selects "KeepHeapModel" y_M_root y_M_root : Cond) ∈ ALL := List.mem_append_left _ (List.mem_of_getElem? (i := 331) rfl)
theorem k_332 : (cd_K_rooted : Cond) ∈ ALL := List.mem_append_left _ (List.mem_of_getElem? (i := 332) rfl)
theorem k_333 : (.methodLink "KeepHeapLaw" 50 y_K_rooted : Cond) ∈ ALL := List.mem_append_left _ (List.mem_of_getElem? (i := 333) rfl)
theorem k_334 : (.instanceMethod y_K_rooted : Cond) ∈ ALL := List.mem_append_left _ (List.mem_of_getElem? (i := 334) rfl)
theorem k_335 : (.selects "KeepHeap" y_K_rooted y_K_rooted : Cond) ∈ ALL := List.mem_append_left _ (List.mem_of_getElem? (i := 335) rfl)
theorem k_336 : (cd_M_rooted : Cond) ∈ ALL := List.mem_append_left _ (List.mem_of_getElem? (i := 336) rfl)
theorem k_337 : (.methodLink "KeepHeapLaw" 53 y_M_rooted : Cond) ∈ ALL := List.mem_append_left _ (List.mem_of_getElem? (i := 337) rfl)
theorem k_338 : (.instanceMethod y_M_rooted : Cond) ∈ ALL := List.mem_append_left _ (List.mem_of_getElem? (i := 338) rfl)
theorem k_339 : (.selects "KeepHeapModel" y_M_rooted y_M_rooted : Cond) ∈ ALL := List.mem_append_left _ (List.mem_of_getElem? (i := 339) rfl)
theorem k_340 : (cd_K_commit : Cond) ∈ ALL := List.mem_append_left _ (List.mem_of_getElem? (i := 340) rfl)
theorem k_341 : (.methodLink "KeepHeapLaw" 54 y_K_commit : Cond) ∈ ALL := List.mem_append_left _ (List.mem_of_getElem? (i := 341) rfl)
theorem k_342 : (.instanceMethod y_K_commit : Cond) ∈ ALL := List.mem_append_left _ (List.mem_of_getElem? (i := 342) rfl)
theorem k_343 : (.selects "KeepHeap" y_K_commit y_K_commit : Cond) ∈ ALL := List.mem_append_left _ (List.mem_of_getElem? (i := 343) rfl)
theorem k_344 : (cd_M_commit : Cond) ∈ ALL := List.mem_append_left _ (List.mem_of_getElem? (i := 344) rfl)
theorem k_345 : (.methodLink "KeepHeapLaw" 58 y_M_commit : Cond) ∈ ALL := List.mem_append_left _ (List.mem_of_getElem? (i := 345) rfl)
theorem k_346 : (.instanceMethod y_M_commit : Cond) ∈ ALL := List.mem_append_left _ (List.mem_of_getElem? (i := 346) rfl)
theorem k_347 : (.selects "KeepHeapModel" y_M_commit y_M_commit : Cond) ∈ ALL := List.mem_append_left _ (List.mem_of_getElem? (i := 347) rfl)
theorem k_348 : (cd_K_undo : Cond) ∈ ALL := List.mem_append_left _ (List.mem_of_getElem? (i := 348) rfl)
theorem k_349 : (.methodLink "KeepHeapLaw" 59 y_K_undo : Cond) ∈ ALL := List.mem_append_left _ (List.mem_of_getElem? (i := 349) rfl)
theorem k_350 : (.instanceMethod y_K_undo : Cond) ∈ ALL := List.mem_append_left _ (List.mem_of_getElem? (i := 350) rfl)
theorem k_351 : (.selects "KeepHeap" y_K_undo y_K_undo : Cond) ∈ ALL := List.mem_append_left _ (List.mem_of_getElem? (i := 351) rfl)
theorem k_352 : (cd_M_undo : Cond) ∈ ALL := List.mem_append_left _ (List.mem_of_getElem? (i := 352) rfl)
theorem k_353 : (.methodLink "KeepHeapLaw" 62 y_M_undo : Cond) ∈ ALL := List.mem_append_left _ (List.mem_of_getElem? (i := 353) rfl)
theorem k_354 : (.instanceMethod y_M_undo : Cond) ∈ ALL := List.mem_append_left _ (List.mem_of_getElem? (i := 354) rfl)
theorem k_355 : (.selects "KeepHeapModel" y_M_undo y_M_undo : Cond) ∈ ALL := List.mem_append_left _ (List.mem_of_getElem? (i := 355) rfl)
theorem k_356 : (cd_K_sweep : Cond) ∈ ALL := List.mem_append_left _ (List.mem_of_getElem? (i := 356) rfl)
theorem k_357 : (.methodLink "KeepHeapLaw" 63 y_K_sweep : Cond) ∈ ALL := List.mem_append_left _ (List.mem_of_getElem? (i := 357) rfl)
theorem k_358 : (.instanceMethod y_K_sweep : Cond) ∈ ALL := List.mem_append_left _ (List.mem_of_getElem? (i := 358) rfl)
theorem k_359 : (.selects "KeepHeap" y_K_sweep y_K_sweep : Cond) ∈ ALL := List.mem_append_left _ (List.mem_of_getElem? (i := 359) rfl)
theorem k_360 : (cd_M_sweep : Cond) ∈ ALL := List.mem_append_left _ (List.mem_of_getElem? (i := 360) rfl)
theorem k_361 : (.methodLink "KeepHeapLaw" 66 y_M_sweep : Cond) ∈ ALL := List.mem_append_left _ (List.mem_of_getElem? (i := 361) rfl)
theorem k_362 : (.instanceMethod y_M_sweep : Cond) ∈ ALL := List.mem_append_left _ (List.mem_of_getElem? (i := 362) rfl)
theorem k_363 : (.selects "KeepHeapModel" y_M_sweep y_M_sweep : Cond) ∈ ALL := List.mem_append_left _ (List.mem_of_getElem? (i := 363) rfl)
theorem k_364 : (cd_K_sync : Cond) ∈ ALL := List.mem_append_left _ (List.mem_of_getElem? (i := 364) rfl)
theorem k_365 : (.methodLink "KeepHeapLaw" 67 y_K_sync : Cond) ∈ ALL := List.mem_append_left _ (List.mem_of_getElem? (i := 365) rfl)
theorem k_366 : (.instanceMethod y_K_sync : Cond) ∈ ALL := List.mem_append_left _ (List.mem_of_getElem? (i := 366) rfl)
theorem k_367 : (.selects "KeepHeap" y_K_sync y_K_sync : Cond) ∈ ALL := List.mem_append_left _ (List.mem_of_getElem? (i := 367) rfl)
theorem k_368 : (cd_M_sync : Cond) ∈ ALL := List.mem_append_left _ (List.mem_of_getElem? (i := 368) rfl)
theorem k_369 : (.methodLink "KeepHeapLaw" 70 y_M_sync : Cond) ∈ ALL := List.mem_append_left _ (List.mem_of_getElem? (i := 369) rfl)
theorem k_370 : (.instanceMethod y_M_sync : Cond) ∈ ALL := List.mem_append_left _ (List.mem_of_getElem? (i := 370) rfl)
theorem k_371 : (.selects "KeepHeapModel" y_M_sync y_M_sync : Cond) ∈ ALL := List.mem_append_left _ (List.mem_of_getElem? (i := 371) rfl)
theorem k_372 : (cd_K_crash : Cond) ∈ ALL := List.mem_append_left _ (List.mem_of_getElem? (i := 372) rfl)
theorem k_373 : (.methodLink "KeepHeapLaw" 71 y_K_crash : Cond) ∈ ALL := List.mem_append_left _ (List.mem_of_getElem? (i := 373) rfl)
theorem k_374 : (.instanceMethod y_K_crash : Cond) ∈ ALL := List.mem_append_left _ (List.mem_of_getElem? (i := 374) rfl)
theorem k_375 : (.selects "KeepHeap" y_K_crash y_K_crash : Cond) ∈ ALL := List.mem_append_left _ (List.mem_of_getElem? (i := 375) rfl)
theorem k_376 : (cd_M_crash : Cond) ∈ ALL := List.mem_append_left _ (List.mem_of_getElem? (i := 376) rfl)
theorem k_377 : (.methodLink "KeepHeapLaw" 75 y_M_crash : Cond) ∈ ALL := List.mem_append_left _ (List.mem_of_getElem? (i := 377) rfl)
theorem k_378 : (.instanceMethod y_M_crash : Cond) ∈ ALL := List.mem_append_left _ (List.mem_of_getElem? (i := 378) rfl)
theorem k_379 : (.selects "KeepHeapModel" y_M_crash y_M_crash : Cond) ∈ ALL := List.mem_append_left _ (List.mem_of_getElem? (i := 379) rfl)
theorem k_380 : (cd_K_kind : Cond) ∈ ALL := List.mem_append_left _ (List.mem_of_getElem? (i := 380) rfl)
theorem k_381 : (.methodLink "KeepHeapLaw" 76 y_K_kind : Cond) ∈ ALL := List.mem_append_left _ (List.mem_of_getElem? (i := 381) rfl)
theorem k_382 : (.instanceMethod y_K_kind : Cond) ∈ ALL := List.mem_append_left _ (List.mem_of_getElem? (i := 382) rfl)
theorem k_383 : (.selects "KeepHeap" y_K_kind y_K_kind : Cond) ∈ ALL := List.mem_append_left _ (List.mem_of_getElem? (i := 383) rfl)
theorem k_384 : (cd_M_kind : Cond) ∈ ALL := List.mem_append_left _ (List.mem_of_getElem? (i := 384) rfl)
theorem k_385 : (.methodLink "KeepHeapLaw" 79 y_M_kind : Cond) ∈ ALL := List.mem_append_left _ (List.mem_of_getElem? (i := 385) rfl)
theorem k_386 : (.instanceMethod y_M_kind : Cond) ∈ ALL := List.mem_append_left _ (List.mem_of_getElem? (i := 386) rfl)
theorem k_387 : (.selects "KeepHeapModel" y_M_kind y_M_kind : Cond) ∈ ALL := List.mem_append_left _ (List.mem_of_getElem? (i := 387) rfl)
theorem k_388 : (cd_K_size : Cond) ∈ ALL := List.mem_append_left _ (List.mem_of_getElem? (i := 388) rfl)
theorem k_389 : (.methodLink "KeepHeapLaw" 80 y_K_size : Cond) ∈ ALL := List.mem_append_left _ (List.mem_of_getElem? (i := 389) rfl)
theorem k_390 : (.instanceMethod y_K_size : Cond) ∈ ALL := List.mem_append_left _ (List.mem_of_getElem? (i := 390) rfl)
theorem k_391 : (.selects "KeepHeap" y_K_size y_K_size : Cond) ∈ ALL := List.mem_append_left _ (List.mem_of_getElem? (i := 391) rfl)
theorem k_392 : (cd_M_size : Cond) ∈ ALL := List.mem_append_left _ (List.mem_of_getElem? (i := 392) rfl)
theorem k_393 : (.methodLink "KeepHeapLaw" 83 y_M_size : Cond) ∈ ALL := List.mem_append_left _ (List.mem_of_getElem? (i := 393) rfl)
theorem k_394 : (.instanceMethod y_M_size : Cond) ∈ ALL := List.mem_append_left _ (List.mem_of_getElem? (i := 394) rfl)
theorem k_395 : (.selects "KeepHeapModel" y_M_size y_M_size : Cond) ∈ ALL := List.mem_append_left _ (List.mem_of_getElem? (i := 395) rfl)
theorem k_396 : (cd_K_count : Cond) ∈ ALL := List.mem_append_left _ (List.mem_of_getElem? (i := 396) rfl)
theorem k_397 : (.methodLink "KeepHeapLaw" 84 y_K_count : Cond) ∈ ALL := List.mem_append_left _ (List.mem_of_getElem? (i := 397) rfl)
theorem k_398 : (.instanceMethod y_K_count : Cond) ∈ ALL := List.mem_append_left _ (List.mem_of_getElem? (i := 398) rfl)
theorem k_399 : (.selects "KeepHeap" y_K_count y_K_count : Cond) ∈ ALL := List.mem_append_left _ (List.mem_of_getElem? (i := 399) rfl)
theorem k_400 : (cd_M_count : Cond) ∈ ALL := List.mem_append_left _ (List.mem_of_getElem? (i := 400) rfl)
theorem k_401 : (.methodLink "KeepHeapLaw" 87 y_M_count : Cond) ∈ ALL := List.mem_append_left _ (List.mem_of_getElem? (i := 401) rfl)
theorem k_402 : (.instanceMethod y_M_count : Cond) ∈ ALL := List.mem_append_left _ (List.mem_of_getElem? (i := 402) rfl)
theorem k_403 : (.selects "KeepHeapModel" y_M_count y_M_count : Cond) ∈ ALL := List.mem_append_left _ (List.mem_of_getElem? (i := 403) rfl)
theorem in_0 (c : Cond) : ∀ w ∈ u_ws "KeepHeap" F_0 7, w ∈ c :: ALL := fun w h => List.mem_cons_of_mem _ (List.mem_append_right _ (List.mem_append_left _ h))
theorem in_1 (c : Cond) : ∀ w ∈ u_ws "KeepHeap$Slots" F_1 4, w ∈ c :: ALL := fun w h => List.mem_cons_of_mem _ (List.mem_append_right _ (List.mem_append_right _ (List.mem_append_left _ h)))
theorem in_2 (c : Cond) : ∀ w ∈ u_ws "KeepHeap$State" F_2 2, w ∈ c :: ALL := fun w h => List.mem_cons_of_mem _ (List.mem_append_right _ (List.mem_append_right _ (List.mem_append_right _ (List.mem_append_left _ h))))
theorem in_3 (c : Cond) : ∀ w ∈ u_ws "KeepHeap$Reach" F_3 3, w ∈ c :: ALL := fun w h => List.mem_cons_of_mem _ (List.mem_append_right _ (List.mem_append_right _ (List.mem_append_right _ (List.mem_append_right _ (List.mem_append_left _ h)))))
theorem in_4 (c : Cond) : ∀ w ∈ u_ws "KeepHeapModel" F_4 8, w ∈ c :: ALL := fun w h => List.mem_cons_of_mem _ (List.mem_append_right _ (List.mem_append_right _ (List.mem_append_right _ (List.mem_append_right _ (List.mem_append_right _ (List.mem_append_left _ h))))))
theorem in_5 (c : Cond) : ∀ w ∈ u_ws "KeepHeapModel$State" F_5 8, w ∈ c :: ALL := fun w h => List.mem_cons_of_mem _ (List.mem_append_right _ (List.mem_append_right _ (List.mem_append_right _ (List.mem_append_right _ (List.mem_append_right _ (List.mem_append_right _ h))))))
theorem mA {c w : Cond} (h : w ∈ ALL) : w ∈ c :: ALL := List.mem_cons_of_mem _ h
theorem gd_w : ALL.all goodWord = true := by decide +kernel
theorem gd_a {c w : Cond} (h : w ∈ ALL) : w ∈ c :: ALL ∧ ((w.onTables && w.keeps) = true ∨ ∃ ty, w = .arrayClass ty) := ⟨mA h, good_of_word (List.all_eq_true.mp gd_w w h)⟩
theorem gd_I {c1 c2 : Cond} (h : c2 ∈ ALL) : GoodIn (c1 :: ALL) (c2 :: ALL) := fun w hw => by
  rcases List.mem_cons.mp hw with rfl | hw
  · exact gd_a h
  · exact gd_a hw
theorem gd_V {c1 c2 : Cond} {own C : String} {idx : Nat} {y : MethodName} (h : c2 ∈ ALL) (h1 : Cond.methodLink own idx y ∈ ALL) (h2 : Cond.instanceMethod y ∈ ALL) (h3 : Cond.selects C y y ∈ ALL) (h4 : Cond.initialized C ∈ ALL) : GoodIn (c1 :: ALL) (wsV own idx C y (c2 :: ALL)) := fun w hw => by
  rcases List.mem_append.mp hw with hw | hw
  · rcases List.mem_cons.mp hw with rfl | hw
    · exact gd_a h1
    · rcases List.mem_cons.mp hw with rfl | hw
      · exact gd_a h2
      · rcases List.mem_cons.mp hw with rfl | hw
        · exact gd_a h3
        · rcases List.mem_cons.mp hw with rfl | hw
          · exact gd_a h4
          · cases hw
  · exact gd_I h w hw
theorem gd_S {c1 c2 : Cond} {own : String} {idx : Nat} {y : MethodName} (h : c2 ∈ ALL) (h1 : Cond.methodLink own idx y ∈ ALL) (h2 : Cond.static y ∈ ALL) (h3 : Cond.initialized own ∈ ALL) : GoodIn (c1 :: ALL) (wsS own idx y (c2 :: ALL)) := fun w hw => by
  rcases List.mem_append.mp hw with hw | hw
  · rcases List.mem_cons.mp hw with rfl | hw
    · exact gd_a h1
    · rcases List.mem_cons.mp hw with rfl | hw
      · exact gd_a h2
      · rcases List.mem_cons.mp hw with rfl | hw
        · exact gd_a h3
        · cases hw
  · exact gd_I h w hw
theorem hd_R_init : y_R_init.cls ≠ "java/lang/invoke/MethodHandle" ∧ y_R_init.cls ≠ "java/lang/invoke/VarHandle" ∧ (parseMethodDescriptor y_R_init.desc).map (fun d => d.parameters.length) = some 0 := by decide +kernel
theorem hd_S_init : y_S_init.cls ≠ "java/lang/invoke/MethodHandle" ∧ y_S_init.cls ≠ "java/lang/invoke/VarHandle" ∧ (parseMethodDescriptor y_S_init.desc).map (fun d => d.parameters.length) = some 2 := by decide +kernel
theorem hd_T_init : y_T_init.cls ≠ "java/lang/invoke/MethodHandle" ∧ y_T_init.cls ≠ "java/lang/invoke/VarHandle" ∧ (parseMethodDescriptor y_T_init.desc).map (fun d => d.parameters.length) = some 1 := by decide +kernel
theorem hd_K_init : y_K_init.cls ≠ "java/lang/invoke/MethodHandle" ∧ y_K_init.cls ≠ "java/lang/invoke/VarHandle" ∧ (parseMethodDescriptor y_K_init.desc).map (fun d => d.parameters.length) = some 0 := by decide +kernel
theorem hd_N_init : y_N_init.cls ≠ "java/lang/invoke/MethodHandle" ∧ y_N_init.cls ≠ "java/lang/invoke/VarHandle" ∧ (parseMethodDescriptor y_N_init.desc).map (fun d => d.parameters.length) = some 0 := by decide +kernel
theorem hd_M_init : y_M_init.cls ≠ "java/lang/invoke/MethodHandle" ∧ y_M_init.cls ≠ "java/lang/invoke/VarHandle" ∧ (parseMethodDescriptor y_M_init.desc).map (fun d => d.parameters.length) = some 0 := by decide +kernel
theorem hd_K_make : y_K_make.cls = "KeepHeap" ∧ y_K_make.cls ≠ "java/lang/invoke/MethodHandle" ∧ y_K_make.cls ≠ "java/lang/invoke/VarHandle" ∧ (parseMethodDescriptor y_K_make.desc).map (fun d => d.parameters.length) = some 1 := by decide +kernel
theorem hd_M_make : y_M_make.cls = "KeepHeapModel" ∧ y_M_make.cls ≠ "java/lang/invoke/MethodHandle" ∧ y_M_make.cls ≠ "java/lang/invoke/VarHandle" ∧ (parseMethodDescriptor y_M_make.desc).map (fun d => d.parameters.length) = some 1 := by decide +kernel
theorem hd_T_has : y_T_has.cls = "KeepHeap$State" ∧ y_T_has.cls ≠ "java/lang/invoke/MethodHandle" ∧ y_T_has.cls ≠ "java/lang/invoke/VarHandle" ∧ (parseMethodDescriptor y_T_has.desc).map (fun d => d.parameters.length) = some 1 := by decide +kernel
theorem hd_K_valueOf : y_K_valueOf.cls = "KeepHeap" ∧ y_K_valueOf.cls ≠ "java/lang/invoke/MethodHandle" ∧ y_K_valueOf.cls ≠ "java/lang/invoke/VarHandle" ∧ (parseMethodDescriptor y_K_valueOf.desc).map (fun d => d.parameters.length) = some 2 := by decide +kernel
theorem hd_T_find : y_T_find.cls = "KeepHeap$State" ∧ y_T_find.cls ≠ "java/lang/invoke/MethodHandle" ∧ y_T_find.cls ≠ "java/lang/invoke/VarHandle" ∧ (parseMethodDescriptor y_T_find.desc).map (fun d => d.parameters.length) = some 2 := by decide +kernel
theorem hd_K_ringIndex : y_K_ringIndex.cls = "KeepHeap" ∧ y_K_ringIndex.cls ≠ "java/lang/invoke/MethodHandle" ∧ y_K_ringIndex.cls ≠ "java/lang/invoke/VarHandle" ∧ (parseMethodDescriptor y_K_ringIndex.desc).map (fun d => d.parameters.length) = some 1 := by decide +kernel
theorem hd_K_kept : y_K_kept.cls = "KeepHeap" ∧ y_K_kept.cls ≠ "java/lang/invoke/MethodHandle" ∧ y_K_kept.cls ≠ "java/lang/invoke/VarHandle" ∧ (parseMethodDescriptor y_K_kept.desc).map (fun d => d.parameters.length) = some 0 := by decide +kernel
theorem hd_S_twin : y_S_twin.cls = "KeepHeap$Slots" ∧ y_S_twin.cls ≠ "java/lang/invoke/MethodHandle" ∧ y_S_twin.cls ≠ "java/lang/invoke/VarHandle" ∧ (parseMethodDescriptor y_S_twin.desc).map (fun d => d.parameters.length) = some 0 := by decide +kernel
theorem hd_K_own : y_K_own.cls = "KeepHeap" ∧ y_K_own.cls ≠ "java/lang/invoke/MethodHandle" ∧ y_K_own.cls ≠ "java/lang/invoke/VarHandle" ∧ (parseMethodDescriptor y_K_own.desc).map (fun d => d.parameters.length) = some 2 := by decide +kernel
theorem hd_S_placeOf : y_S_placeOf.cls = "KeepHeap$Slots" ∧ y_S_placeOf.cls ≠ "java/lang/invoke/MethodHandle" ∧ y_S_placeOf.cls ≠ "java/lang/invoke/VarHandle" ∧ (parseMethodDescriptor y_S_placeOf.desc).map (fun d => d.parameters.length) = some 1 := by decide +kernel
theorem hd_S_holds : y_S_holds.cls = "KeepHeap$Slots" ∧ y_S_holds.cls ≠ "java/lang/invoke/MethodHandle" ∧ y_S_holds.cls ≠ "java/lang/invoke/VarHandle" ∧ (parseMethodDescriptor y_S_holds.desc).map (fun d => d.parameters.length) = some 1 := by decide +kernel
theorem hd_S_removeAt : y_S_removeAt.cls = "KeepHeap$Slots" ∧ y_S_removeAt.cls ≠ "java/lang/invoke/MethodHandle" ∧ y_S_removeAt.cls ≠ "java/lang/invoke/VarHandle" ∧ (parseMethodDescriptor y_S_removeAt.desc).map (fun d => d.parameters.length) = some 1 := by decide +kernel
theorem hd_S_append : y_S_append.cls = "KeepHeap$Slots" ∧ y_S_append.cls ≠ "java/lang/invoke/MethodHandle" ∧ y_S_append.cls ≠ "java/lang/invoke/VarHandle" ∧ (parseMethodDescriptor y_S_append.desc).map (fun d => d.parameters.length) = some 2 := by decide +kernel
theorem hd_S_assign : y_S_assign.cls = "KeepHeap$Slots" ∧ y_S_assign.cls ≠ "java/lang/invoke/MethodHandle" ∧ y_S_assign.cls ≠ "java/lang/invoke/VarHandle" ∧ (parseMethodDescriptor y_S_assign.desc).map (fun d => d.parameters.length) = some 2 := by decide +kernel
theorem hd_K_set : y_K_set.cls = "KeepHeap" ∧ y_K_set.cls ≠ "java/lang/invoke/MethodHandle" ∧ y_K_set.cls ≠ "java/lang/invoke/VarHandle" ∧ (parseMethodDescriptor y_K_set.desc).map (fun d => d.parameters.length) = some 4 := by decide +kernel
theorem hd_M_in : y_M_in.cls = "KeepHeapModel" ∧ y_M_in.cls ≠ "java/lang/invoke/MethodHandle" ∧ y_M_in.cls ≠ "java/lang/invoke/VarHandle" ∧ (parseMethodDescriptor y_M_in.desc).map (fun d => d.parameters.length) = some 3 := by decide +kernel
theorem hd_M_is : y_M_is.cls = "KeepHeapModel" ∧ y_M_is.cls ≠ "java/lang/invoke/MethodHandle" ∧ y_M_is.cls ≠ "java/lang/invoke/VarHandle" ∧ (parseMethodDescriptor y_M_is.desc).map (fun d => d.parameters.length) = some 2 := by decide +kernel
theorem hd_M_isThere : y_M_isThere.cls = "KeepHeapModel" ∧ y_M_isThere.cls ≠ "java/lang/invoke/MethodHandle" ∧ y_M_isThere.cls ≠ "java/lang/invoke/VarHandle" ∧ (parseMethodDescriptor y_M_isThere.desc).map (fun d => d.parameters.length) = some 1 := by decide +kernel
theorem hd_M_isValue : y_M_isValue.cls = "KeepHeapModel" ∧ y_M_isValue.cls ≠ "java/lang/invoke/MethodHandle" ∧ y_M_isValue.cls ≠ "java/lang/invoke/VarHandle" ∧ (parseMethodDescriptor y_M_isValue.desc).map (fun d => d.parameters.length) = some 2 := by decide +kernel
theorem hd_N_findField : y_N_findField.cls = "KeepHeapModel$State" ∧ y_N_findField.cls ≠ "java/lang/invoke/MethodHandle" ∧ y_N_findField.cls ≠ "java/lang/invoke/VarHandle" ∧ (parseMethodDescriptor y_N_findField.desc).map (fun d => d.parameters.length) = some 2 := by decide +kernel
theorem hd_M_value : y_M_value.cls = "KeepHeapModel" ∧ y_M_value.cls ≠ "java/lang/invoke/MethodHandle" ∧ y_M_value.cls ≠ "java/lang/invoke/VarHandle" ∧ (parseMethodDescriptor y_M_value.desc).map (fun d => d.parameters.length) = some 2 := by decide +kernel
theorem hd_M_set : y_M_set.cls = "KeepHeapModel" ∧ y_M_set.cls ≠ "java/lang/invoke/MethodHandle" ∧ y_M_set.cls ≠ "java/lang/invoke/VarHandle" ∧ (parseMethodDescriptor y_M_set.desc).map (fun d => d.parameters.length) = some 4 := by decide +kernel
theorem hd_S_named : y_S_named.cls = "KeepHeap$Slots" ∧ y_S_named.cls ≠ "java/lang/invoke/MethodHandle" ∧ y_S_named.cls ≠ "java/lang/invoke/VarHandle" ∧ (parseMethodDescriptor y_S_named.desc).map (fun d => d.parameters.length) = some 1 := by decide +kernel
theorem hd_K_get : y_K_get.cls = "KeepHeap" ∧ y_K_get.cls ≠ "java/lang/invoke/MethodHandle" ∧ y_K_get.cls ≠ "java/lang/invoke/VarHandle" ∧ (parseMethodDescriptor y_K_get.desc).map (fun d => d.parameters.length) = some 2 := by decide +kernel
theorem hd_M_get : y_M_get.cls = "KeepHeapModel" ∧ y_M_get.cls ≠ "java/lang/invoke/MethodHandle" ∧ y_M_get.cls ≠ "java/lang/invoke/VarHandle" ∧ (parseMethodDescriptor y_M_get.desc).map (fun d => d.parameters.length) = some 2 := by decide +kernel
theorem hd_K_push : y_K_push.cls = "KeepHeap" ∧ y_K_push.cls ≠ "java/lang/invoke/MethodHandle" ∧ y_K_push.cls ≠ "java/lang/invoke/VarHandle" ∧ (parseMethodDescriptor y_K_push.desc).map (fun d => d.parameters.length) = some 3 := by decide +kernel
theorem hd_M_push : y_M_push.cls = "KeepHeapModel" ∧ y_M_push.cls ≠ "java/lang/invoke/MethodHandle" ∧ y_M_push.cls ≠ "java/lang/invoke/VarHandle" ∧ (parseMethodDescriptor y_M_push.desc).map (fun d => d.parameters.length) = some 3 := by decide +kernel
theorem hd_S_takeLast : y_S_takeLast.cls = "KeepHeap$Slots" ∧ y_S_takeLast.cls ≠ "java/lang/invoke/MethodHandle" ∧ y_S_takeLast.cls ≠ "java/lang/invoke/VarHandle" ∧ (parseMethodDescriptor y_S_takeLast.desc).map (fun d => d.parameters.length) = some 0 := by decide +kernel
theorem hd_K_pop : y_K_pop.cls = "KeepHeap" ∧ y_K_pop.cls ≠ "java/lang/invoke/MethodHandle" ∧ y_K_pop.cls ≠ "java/lang/invoke/VarHandle" ∧ (parseMethodDescriptor y_K_pop.desc).map (fun d => d.parameters.length) = some 1 := by decide +kernel
theorem hd_M_pop : y_M_pop.cls = "KeepHeapModel" ∧ y_M_pop.cls ≠ "java/lang/invoke/MethodHandle" ∧ y_M_pop.cls ≠ "java/lang/invoke/VarHandle" ∧ (parseMethodDescriptor y_M_pop.desc).map (fun d => d.parameters.length) = some 1 := by decide +kernel
theorem hd_K_put : y_K_put.cls = "KeepHeap" ∧ y_K_put.cls ≠ "java/lang/invoke/MethodHandle" ∧ y_K_put.cls ≠ "java/lang/invoke/VarHandle" ∧ (parseMethodDescriptor y_K_put.desc).map (fun d => d.parameters.length) = some 4 := by decide +kernel
theorem hd_M_put : y_M_put.cls = "KeepHeapModel" ∧ y_M_put.cls ≠ "java/lang/invoke/MethodHandle" ∧ y_M_put.cls ≠ "java/lang/invoke/VarHandle" ∧ (parseMethodDescriptor y_M_put.desc).map (fun d => d.parameters.length) = some 4 := by decide +kernel
theorem hd_K_item : y_K_item.cls = "KeepHeap" ∧ y_K_item.cls ≠ "java/lang/invoke/MethodHandle" ∧ y_K_item.cls ≠ "java/lang/invoke/VarHandle" ∧ (parseMethodDescriptor y_K_item.desc).map (fun d => d.parameters.length) = some 2 := by decide +kernel
theorem hd_M_item : y_M_item.cls = "KeepHeapModel" ∧ y_M_item.cls ≠ "java/lang/invoke/MethodHandle" ∧ y_M_item.cls ≠ "java/lang/invoke/VarHandle" ∧ (parseMethodDescriptor y_M_item.desc).map (fun d => d.parameters.length) = some 2 := by decide +kernel
theorem hd_K_ownRoots : y_K_ownRoots.cls = "KeepHeap" ∧ y_K_ownRoots.cls ≠ "java/lang/invoke/MethodHandle" ∧ y_K_ownRoots.cls ≠ "java/lang/invoke/VarHandle" ∧ (parseMethodDescriptor y_K_ownRoots.desc).map (fun d => d.parameters.length) = some 0 := by decide +kernel
theorem hd_K_root : y_K_root.cls = "KeepHeap" ∧ y_K_root.cls ≠ "java/lang/invoke/MethodHandle" ∧ y_K_root.cls ≠ "java/lang/invoke/VarHandle" ∧ (parseMethodDescriptor y_K_root.desc).map (fun d => d.parameters.length) = some 3 := by decide +kernel
theorem hd_N_findRoot : y_N_findRoot.cls = "KeepHeapModel$State" ∧ y_N_findRoot.cls ≠ "java/lang/invoke/MethodHandle" ∧ y_N_findRoot.cls ≠ "java/lang/invoke/VarHandle" ∧ (parseMethodDescriptor y_N_findRoot.desc).map (fun d => d.parameters.length) = some 1 := by decide +kernel
theorem hd_M_root : y_M_root.cls = "KeepHeapModel" ∧ y_M_root.cls ≠ "java/lang/invoke/MethodHandle" ∧ y_M_root.cls ≠ "java/lang/invoke/VarHandle" ∧ (parseMethodDescriptor y_M_root.desc).map (fun d => d.parameters.length) = some 3 := by decide +kernel
theorem hd_K_rooted : y_K_rooted.cls = "KeepHeap" ∧ y_K_rooted.cls ≠ "java/lang/invoke/MethodHandle" ∧ y_K_rooted.cls ≠ "java/lang/invoke/VarHandle" ∧ (parseMethodDescriptor y_K_rooted.desc).map (fun d => d.parameters.length) = some 1 := by decide +kernel
theorem hd_M_rooted : y_M_rooted.cls = "KeepHeapModel" ∧ y_M_rooted.cls ≠ "java/lang/invoke/MethodHandle" ∧ y_M_rooted.cls ≠ "java/lang/invoke/VarHandle" ∧ (parseMethodDescriptor y_M_rooted.desc).map (fun d => d.parameters.length) = some 1 := by decide +kernel
theorem hd_S_sameAs : y_S_sameAs.cls = "KeepHeap$Slots" ∧ y_S_sameAs.cls ≠ "java/lang/invoke/MethodHandle" ∧ y_S_sameAs.cls ≠ "java/lang/invoke/VarHandle" ∧ (parseMethodDescriptor y_S_sameAs.desc).map (fun d => d.parameters.length) = some 1 := by decide +kernel
theorem hd_S_namesChangedFrom : y_S_namesChangedFrom.cls = "KeepHeap$Slots" ∧ y_S_namesChangedFrom.cls ≠ "java/lang/invoke/MethodHandle" ∧ y_S_namesChangedFrom.cls ≠ "java/lang/invoke/VarHandle" ∧ (parseMethodDescriptor y_S_namesChangedFrom.desc).map (fun d => d.parameters.length) = some 1 := by decide +kernel
theorem hd_K_changedBytes : y_K_changedBytes.cls = "KeepHeap" ∧ y_K_changedBytes.cls ≠ "java/lang/invoke/MethodHandle" ∧ y_K_changedBytes.cls ≠ "java/lang/invoke/VarHandle" ∧ (parseMethodDescriptor y_K_changedBytes.desc).map (fun d => d.parameters.length) = some 0 := by decide +kernel
theorem hd_T_become : y_T_become.cls = "KeepHeap$State" ∧ y_T_become.cls ≠ "java/lang/invoke/MethodHandle" ∧ y_T_become.cls ≠ "java/lang/invoke/VarHandle" ∧ (parseMethodDescriptor y_T_become.desc).map (fun d => d.parameters.length) = some 1 := by decide +kernel
theorem hd_K_keepNow : y_K_keepNow.cls = "KeepHeap" ∧ y_K_keepNow.cls ≠ "java/lang/invoke/MethodHandle" ∧ y_K_keepNow.cls ≠ "java/lang/invoke/VarHandle" ∧ (parseMethodDescriptor y_K_keepNow.desc).map (fun d => d.parameters.length) = some 1 := by decide +kernel
theorem hd_K_commit : y_K_commit.cls = "KeepHeap" ∧ y_K_commit.cls ≠ "java/lang/invoke/MethodHandle" ∧ y_K_commit.cls ≠ "java/lang/invoke/VarHandle" ∧ (parseMethodDescriptor y_K_commit.desc).map (fun d => d.parameters.length) = some 0 := by decide +kernel
theorem hd_N_isSame : y_N_isSame.cls = "KeepHeapModel$State" ∧ y_N_isSame.cls ≠ "java/lang/invoke/MethodHandle" ∧ y_N_isSame.cls ≠ "java/lang/invoke/VarHandle" ∧ (parseMethodDescriptor y_N_isSame.desc).map (fun d => d.parameters.length) = some 2 := by decide +kernel
theorem hd_N_bytesBehind : y_N_bytesBehind.cls = "KeepHeapModel$State" ∧ y_N_bytesBehind.cls ≠ "java/lang/invoke/MethodHandle" ∧ y_N_bytesBehind.cls ≠ "java/lang/invoke/VarHandle" ∧ (parseMethodDescriptor y_N_bytesBehind.desc).map (fun d => d.parameters.length) = some 1 := by decide +kernel
theorem hd_N_copy : y_N_copy.cls = "KeepHeapModel$State" ∧ y_N_copy.cls ≠ "java/lang/invoke/MethodHandle" ∧ y_N_copy.cls ≠ "java/lang/invoke/VarHandle" ∧ (parseMethodDescriptor y_N_copy.desc).map (fun d => d.parameters.length) = some 1 := by decide +kernel
theorem hd_M_keep : y_M_keep.cls = "KeepHeapModel" ∧ y_M_keep.cls ≠ "java/lang/invoke/MethodHandle" ∧ y_M_keep.cls ≠ "java/lang/invoke/VarHandle" ∧ (parseMethodDescriptor y_M_keep.desc).map (fun d => d.parameters.length) = some 1 := by decide +kernel
theorem hd_M_commit : y_M_commit.cls = "KeepHeapModel" ∧ y_M_commit.cls ≠ "java/lang/invoke/MethodHandle" ∧ y_M_commit.cls ≠ "java/lang/invoke/VarHandle" ∧ (parseMethodDescriptor y_M_commit.desc).map (fun d => d.parameters.length) = some 0 := by decide +kernel
theorem hd_K_undo : y_K_undo.cls = "KeepHeap" ∧ y_K_undo.cls ≠ "java/lang/invoke/MethodHandle" ∧ y_K_undo.cls ≠ "java/lang/invoke/VarHandle" ∧ (parseMethodDescriptor y_K_undo.desc).map (fun d => d.parameters.length) = some 0 := by decide +kernel
theorem hd_M_undo : y_M_undo.cls = "KeepHeapModel" ∧ y_M_undo.cls ≠ "java/lang/invoke/MethodHandle" ∧ y_M_undo.cls ≠ "java/lang/invoke/VarHandle" ∧ (parseMethodDescriptor y_M_undo.desc).map (fun d => d.parameters.length) = some 0 := by decide +kernel
theorem hd_R_enqueue : y_R_enqueue.cls = "KeepHeap$Reach" ∧ y_R_enqueue.cls ≠ "java/lang/invoke/MethodHandle" ∧ y_R_enqueue.cls ≠ "java/lang/invoke/VarHandle" ∧ (parseMethodDescriptor y_R_enqueue.desc).map (fun d => d.parameters.length) = some 1 := by decide +kernel
theorem hd_R_enqueueAll : y_R_enqueueAll.cls = "KeepHeap$Reach" ∧ y_R_enqueueAll.cls ≠ "java/lang/invoke/MethodHandle" ∧ y_R_enqueueAll.cls ≠ "java/lang/invoke/VarHandle" ∧ (parseMethodDescriptor y_R_enqueueAll.desc).map (fun d => d.parameters.length) = some 1 := by decide +kernel
theorem hd_R_walk : y_R_walk.cls = "KeepHeap$Reach" ∧ y_R_walk.cls ≠ "java/lang/invoke/MethodHandle" ∧ y_R_walk.cls ≠ "java/lang/invoke/VarHandle" ∧ (parseMethodDescriptor y_R_walk.desc).map (fun d => d.parameters.length) = some 1 := by decide +kernel
theorem hd_R_dropUnreached : y_R_dropUnreached.cls = "KeepHeap$Reach" ∧ y_R_dropUnreached.cls ≠ "java/lang/invoke/MethodHandle" ∧ y_R_dropUnreached.cls ≠ "java/lang/invoke/VarHandle" ∧ (parseMethodDescriptor y_R_dropUnreached.desc).map (fun d => d.parameters.length) = some 1 := by decide +kernel
theorem hd_K_sweep : y_K_sweep.cls = "KeepHeap" ∧ y_K_sweep.cls ≠ "java/lang/invoke/MethodHandle" ∧ y_K_sweep.cls ≠ "java/lang/invoke/VarHandle" ∧ (parseMethodDescriptor y_K_sweep.desc).map (fun d => d.parameters.length) = some 0 := by decide +kernel
theorem hd_M_reach : y_M_reach.cls = "KeepHeapModel" ∧ y_M_reach.cls ≠ "java/lang/invoke/MethodHandle" ∧ y_M_reach.cls ≠ "java/lang/invoke/VarHandle" ∧ (parseMethodDescriptor y_M_reach.desc).map (fun d => d.parameters.length) = some 2 := by decide +kernel
theorem hd_M_sweep : y_M_sweep.cls = "KeepHeapModel" ∧ y_M_sweep.cls ≠ "java/lang/invoke/MethodHandle" ∧ y_M_sweep.cls ≠ "java/lang/invoke/VarHandle" ∧ (parseMethodDescriptor y_M_sweep.desc).map (fun d => d.parameters.length) = some 0 := by decide +kernel
theorem hd_K_sync : y_K_sync.cls = "KeepHeap" ∧ y_K_sync.cls ≠ "java/lang/invoke/MethodHandle" ∧ y_K_sync.cls ≠ "java/lang/invoke/VarHandle" ∧ (parseMethodDescriptor y_K_sync.desc).map (fun d => d.parameters.length) = some 0 := by decide +kernel
theorem hd_M_sync : y_M_sync.cls = "KeepHeapModel" ∧ y_M_sync.cls ≠ "java/lang/invoke/MethodHandle" ∧ y_M_sync.cls ≠ "java/lang/invoke/VarHandle" ∧ (parseMethodDescriptor y_M_sync.desc).map (fun d => d.parameters.length) = some 0 := by decide +kernel
theorem hd_K_entriesWithin : y_K_entriesWithin.cls = "KeepHeap" ∧ y_K_entriesWithin.cls ≠ "java/lang/invoke/MethodHandle" ∧ y_K_entriesWithin.cls ≠ "java/lang/invoke/VarHandle" ∧ (parseMethodDescriptor y_K_entriesWithin.desc).map (fun d => d.parameters.length) = some 1 := by decide +kernel
theorem hd_K_crash : y_K_crash.cls = "KeepHeap" ∧ y_K_crash.cls ≠ "java/lang/invoke/MethodHandle" ∧ y_K_crash.cls ≠ "java/lang/invoke/VarHandle" ∧ (parseMethodDescriptor y_K_crash.desc).map (fun d => d.parameters.length) = some 1 := by decide +kernel
theorem hd_M_crash : y_M_crash.cls = "KeepHeapModel" ∧ y_M_crash.cls ≠ "java/lang/invoke/MethodHandle" ∧ y_M_crash.cls ≠ "java/lang/invoke/VarHandle" ∧ (parseMethodDescriptor y_M_crash.desc).map (fun d => d.parameters.length) = some 1 := by decide +kernel
theorem hd_K_kind : y_K_kind.cls = "KeepHeap" ∧ y_K_kind.cls ≠ "java/lang/invoke/MethodHandle" ∧ y_K_kind.cls ≠ "java/lang/invoke/VarHandle" ∧ (parseMethodDescriptor y_K_kind.desc).map (fun d => d.parameters.length) = some 1 := by decide +kernel
theorem hd_M_kind : y_M_kind.cls = "KeepHeapModel" ∧ y_M_kind.cls ≠ "java/lang/invoke/MethodHandle" ∧ y_M_kind.cls ≠ "java/lang/invoke/VarHandle" ∧ (parseMethodDescriptor y_M_kind.desc).map (fun d => d.parameters.length) = some 1 := by decide +kernel
theorem hd_K_size : y_K_size.cls = "KeepHeap" ∧ y_K_size.cls ≠ "java/lang/invoke/MethodHandle" ∧ y_K_size.cls ≠ "java/lang/invoke/VarHandle" ∧ (parseMethodDescriptor y_K_size.desc).map (fun d => d.parameters.length) = some 1 := by decide +kernel
theorem hd_M_size : y_M_size.cls = "KeepHeapModel" ∧ y_M_size.cls ≠ "java/lang/invoke/MethodHandle" ∧ y_M_size.cls ≠ "java/lang/invoke/VarHandle" ∧ (parseMethodDescriptor y_M_size.desc).map (fun d => d.parameters.length) = some 1 := by decide +kernel
theorem hd_T_objectsThere : y_T_objectsThere.cls = "KeepHeap$State" ∧ y_T_objectsThere.cls ≠ "java/lang/invoke/MethodHandle" ∧ y_T_objectsThere.cls ≠ "java/lang/invoke/VarHandle" ∧ (parseMethodDescriptor y_T_objectsThere.desc).map (fun d => d.parameters.length) = some 0 := by decide +kernel
theorem hd_K_count : y_K_count.cls = "KeepHeap" ∧ y_K_count.cls ≠ "java/lang/invoke/MethodHandle" ∧ y_K_count.cls ≠ "java/lang/invoke/VarHandle" ∧ (parseMethodDescriptor y_K_count.desc).map (fun d => d.parameters.length) = some 1 := by decide +kernel
theorem hd_M_count : y_M_count.cls = "KeepHeapModel" ∧ y_M_count.cls ≠ "java/lang/invoke/MethodHandle" ∧ y_M_count.cls ≠ "java/lang/invoke/VarHandle" ∧ (parseMethodDescriptor y_M_count.desc).map (fun d => d.parameters.length) = some 1 := by decide +kernel
end
section
theorem d_R_init_0 : decode b_R_init 0 = .ok (.aload_n 0, 1) := by decide +kernel
theorem d_R_init_1 : decode b_R_init 1 = .ok (.invokespecial 3, 3) := by decide +kernel
theorem d_R_init_4 : decode b_R_init 4 = .ok (.aload_n 0, 1) := by decide +kernel
theorem d_R_init_5 : decode b_R_init 5 = .ok (.bipush 100, 2) := by decide +kernel
theorem d_R_init_7 : decode b_R_init 7 = .ok (.newarray .boolean, 2) := by decide +kernel
theorem d_R_init_9 : decode b_R_init 9 = .ok (.putfield 9, 3) := by decide +kernel
theorem d_R_init_12 : decode b_R_init 12 = .ok (.aload_n 0, 1) := by decide +kernel
theorem d_R_init_13 : decode b_R_init 13 = .ok (.bipush 100, 2) := by decide +kernel
theorem d_R_init_15 : decode b_R_init 15 = .ok (.newarray .int, 2) := by decide +kernel
theorem d_R_init_17 : decode b_R_init 17 = .ok (.putfield 15, 3) := by decide +kernel
theorem d_R_init_20 : decode b_R_init 20 = .ok (.aload_n 0, 1) := by decide +kernel
theorem d_R_init_21 : decode b_R_init 21 = .ok (.iconst 0, 1) := by decide +kernel
theorem d_R_init_22 : decode b_R_init 22 = .ok (.putfield 19, 3) := by decide +kernel
theorem d_R_init_25 : decode b_R_init 25 = .ok (.return_, 1) := by decide +kernel
theorem d_S_init_0 : decode b_S_init 0 = .ok (.aload_n 0, 1) := by decide +kernel
theorem d_S_init_1 : decode b_S_init 1 = .ok (.invokespecial 3, 3) := by decide +kernel
theorem d_S_init_4 : decode b_S_init 4 = .ok (.aload_n 0, 1) := by decide +kernel
theorem d_S_init_5 : decode b_S_init 5 = .ok (.iconst 0, 1) := by decide +kernel
theorem d_S_init_6 : decode b_S_init 6 = .ok (.putfield 9, 3) := by decide +kernel
theorem d_S_init_9 : decode b_S_init 9 = .ok (.aload_n 0, 1) := by decide +kernel
theorem d_S_init_10 : decode b_S_init 10 = .ok (.iload_n 1, 1) := by decide +kernel
theorem d_S_init_11 : decode b_S_init 11 = .ok (.putfield 15, 3) := by decide +kernel
theorem d_S_init_14 : decode b_S_init 14 = .ok (.aload_n 0, 1) := by decide +kernel
theorem d_S_init_15 : decode b_S_init 15 = .ok (.iload_n 2, 1) := by decide +kernel
theorem d_S_init_16 : decode b_S_init 16 = .ok (.newarray .int, 2) := by decide +kernel
theorem d_S_init_18 : decode b_S_init 18 = .ok (.putfield 18, 3) := by decide +kernel
theorem d_S_init_21 : decode b_S_init 21 = .ok (.aload_n 0, 1) := by decide +kernel
theorem d_S_init_22 : decode b_S_init 22 = .ok (.iload_n 2, 1) := by decide +kernel
theorem d_S_init_23 : decode b_S_init 23 = .ok (.newarray .long, 2) := by decide +kernel
theorem d_S_init_25 : decode b_S_init 25 = .ok (.putfield 22, 3) := by decide +kernel
theorem d_S_init_28 : decode b_S_init 28 = .ok (.return_, 1) := by decide +kernel
theorem d_T_init_0 : decode b_T_init 0 = .ok (.aload_n 0, 1) := by decide +kernel
theorem d_T_init_1 : decode b_T_init 1 = .ok (.invokespecial 3, 3) := by decide +kernel
theorem d_T_init_4 : decode b_T_init 4 = .ok (.aload_n 0, 1) := by decide +kernel
theorem d_T_init_5 : decode b_T_init 5 = .ok (.bipush 100, 2) := by decide +kernel
theorem d_T_init_7 : decode b_T_init 7 = .ok (.anewarray 9, 3) := by decide +kernel
theorem d_T_init_10 : decode b_T_init 10 = .ok (.putfield 11, 3) := by decide +kernel
theorem d_T_init_13 : decode b_T_init 13 = .ok (.aload_n 0, 1) := by decide +kernel
theorem d_T_init_14 : decode b_T_init 14 = .ok (.aload_n 1, 1) := by decide +kernel
theorem d_T_init_15 : decode b_T_init 15 = .ok (.putfield 17, 3) := by decide +kernel
theorem d_T_init_18 : decode b_T_init 18 = .ok (.return_, 1) := by decide +kernel
theorem d_K_init_0 : decode b_K_init 0 = .ok (.aload_n 0, 1) := by decide +kernel
theorem d_K_init_1 : decode b_K_init 1 = .ok (.invokespecial 3, 3) := by decide +kernel
theorem d_K_init_4 : decode b_K_init 4 = .ok (.aload_n 0, 1) := by decide +kernel
theorem d_K_init_5 : decode b_K_init 5 = .ok (.bipush 9, 2) := by decide +kernel
theorem d_K_init_7 : decode b_K_init 7 = .ok (.anewarray 9, 3) := by decide +kernel
theorem d_K_init_10 : decode b_K_init 10 = .ok (.putfield 11, 3) := by decide +kernel
theorem d_K_init_13 : decode b_K_init 13 = .ok (.aload_n 0, 1) := by decide +kernel
theorem d_K_init_14 : decode b_K_init 14 = .ok (.bipush 9, 2) := by decide +kernel
theorem d_K_init_16 : decode b_K_init 16 = .ok (.newarray .int, 2) := by decide +kernel
theorem d_K_init_18 : decode b_K_init 18 = .ok (.putfield 15, 3) := by decide +kernel
theorem d_K_init_21 : decode b_K_init 21 = .ok (.aload_n 0, 1) := by decide +kernel
theorem d_K_init_22 : decode b_K_init 22 = .ok (.new 19, 3) := by decide +kernel
theorem d_K_init_25 : decode b_K_init 25 = .ok (.dup, 1) := by decide +kernel
theorem d_K_init_26 : decode b_K_init 26 = .ok (.invokespecial 21, 3) := by decide +kernel
theorem d_K_init_29 : decode b_K_init 29 = .ok (.putfield 22, 3) := by decide +kernel
theorem d_K_init_32 : decode b_K_init 32 = .ok (.aload_n 0, 1) := by decide +kernel
theorem d_K_init_33 : decode b_K_init 33 = .ok (.iconst 0, 1) := by decide +kernel
theorem d_K_init_34 : decode b_K_init 34 = .ok (.putfield 26, 3) := by decide +kernel
theorem d_K_init_37 : decode b_K_init 37 = .ok (.aload_n 0, 1) := by decide +kernel
theorem d_K_init_38 : decode b_K_init 38 = .ok (.iconst 0, 1) := by decide +kernel
theorem d_K_init_39 : decode b_K_init 39 = .ok (.putfield 30, 3) := by decide +kernel
theorem d_K_init_42 : decode b_K_init 42 = .ok (.aload_n 0, 1) := by decide +kernel
theorem d_K_init_43 : decode b_K_init 43 = .ok (.iconst 0, 1) := by decide +kernel
theorem d_K_init_44 : decode b_K_init 44 = .ok (.putfield 33, 3) := by decide +kernel
theorem d_K_init_47 : decode b_K_init 47 = .ok (.new 36, 3) := by decide +kernel
theorem d_K_init_50 : decode b_K_init 50 = .ok (.dup, 1) := by decide +kernel
theorem d_K_init_51 : decode b_K_init 51 = .ok (.iconst 1, 1) := by decide +kernel
theorem d_K_init_52 : decode b_K_init 52 = .ok (.bipush 12, 2) := by decide +kernel
theorem d_K_init_54 : decode b_K_init 54 = .ok (.invokespecial 38, 3) := by decide +kernel
theorem d_K_init_57 : decode b_K_init 57 = .ok (.astore_n 1, 1) := by decide +kernel
theorem d_K_init_58 : decode b_K_init 58 = .ok (.aload_n 0, 1) := by decide +kernel
theorem d_K_init_59 : decode b_K_init 59 = .ok (.new 9, 3) := by decide +kernel
theorem d_K_init_62 : decode b_K_init 62 = .ok (.dup, 1) := by decide +kernel
theorem d_K_init_63 : decode b_K_init 63 = .ok (.aload_n 1, 1) := by decide +kernel
theorem d_K_init_64 : decode b_K_init 64 = .ok (.invokespecial 41, 3) := by decide +kernel
theorem d_K_init_67 : decode b_K_init 67 = .ok (.putfield 44, 3) := by decide +kernel
theorem d_K_init_70 : decode b_K_init 70 = .ok (.iconst 0, 1) := by decide +kernel
theorem d_K_init_71 : decode b_K_init 71 = .ok (.istore_n 2, 1) := by decide +kernel
theorem d_K_init_72 : decode b_K_init 72 = .ok (.iload_n 2, 1) := by decide +kernel
theorem d_K_init_73 : decode b_K_init 73 = .ok (.bipush 9, 2) := by decide +kernel
theorem d_K_init_75 : decode b_K_init 75 = .ok (.if_icmp .ge 23, 3) := by decide +kernel
theorem d_K_init_78 : decode b_K_init 78 = .ok (.aload_n 0, 1) := by decide +kernel
theorem d_K_init_79 : decode b_K_init 79 = .ok (.getfield 11, 3) := by decide +kernel
theorem d_K_init_82 : decode b_K_init 82 = .ok (.iload_n 2, 1) := by decide +kernel
theorem d_K_init_83 : decode b_K_init 83 = .ok (.new 9, 3) := by decide +kernel
theorem d_K_init_86 : decode b_K_init 86 = .ok (.dup, 1) := by decide +kernel
theorem d_K_init_87 : decode b_K_init 87 = .ok (.aload_n 1, 1) := by decide +kernel
theorem d_K_init_88 : decode b_K_init 88 = .ok (.invokespecial 41, 3) := by decide +kernel
theorem d_K_init_91 : decode b_K_init 91 = .ok (.aastore, 1) := by decide +kernel
theorem d_K_init_92 : decode b_K_init 92 = .ok (.iinc 2 1, 3) := by decide +kernel
theorem d_K_init_95 : decode b_K_init 95 = .ok (.goto (-23), 3) := by decide +kernel
theorem d_K_init_98 : decode b_K_init 98 = .ok (.return_, 1) := by decide +kernel
theorem d_N_init_0 : decode b_N_init 0 = .ok (.aload_n 0, 1) := by decide +kernel
theorem d_N_init_1 : decode b_N_init 1 = .ok (.invokespecial 3, 3) := by decide +kernel
theorem d_N_init_4 : decode b_N_init 4 = .ok (.aload_n 0, 1) := by decide +kernel
theorem d_N_init_5 : decode b_N_init 5 = .ok (.bipush 100, 2) := by decide +kernel
theorem d_N_init_7 : decode b_N_init 7 = .ok (.newarray .int, 2) := by decide +kernel
theorem d_N_init_9 : decode b_N_init 9 = .ok (.putfield 9, 3) := by decide +kernel
theorem d_N_init_12 : decode b_N_init 12 = .ok (.aload_n 0, 1) := by decide +kernel
theorem d_N_init_13 : decode b_N_init 13 = .ok (.bipush 100, 2) := by decide +kernel
theorem d_N_init_15 : decode b_N_init 15 = .ok (.newarray .int, 2) := by decide +kernel
theorem d_N_init_17 : decode b_N_init 17 = .ok (.putfield 15, 3) := by decide +kernel
theorem d_N_init_20 : decode b_N_init 20 = .ok (.aload_n 0, 1) := by decide +kernel
theorem d_N_init_21 : decode b_N_init 21 = .ok (.sipush 800, 3) := by decide +kernel
theorem d_N_init_24 : decode b_N_init 24 = .ok (.newarray .int, 2) := by decide +kernel
theorem d_N_init_26 : decode b_N_init 26 = .ok (.putfield 18, 3) := by decide +kernel
theorem d_N_init_29 : decode b_N_init 29 = .ok (.aload_n 0, 1) := by decide +kernel
theorem d_N_init_30 : decode b_N_init 30 = .ok (.bipush 12, 2) := by decide +kernel
theorem d_N_init_32 : decode b_N_init 32 = .ok (.newarray .int, 2) := by decide +kernel
theorem d_N_init_34 : decode b_N_init 34 = .ok (.putfield 21, 3) := by decide +kernel
theorem d_N_init_37 : decode b_N_init 37 = .ok (.aload_n 0, 1) := by decide +kernel
theorem d_N_init_38 : decode b_N_init 38 = .ok (.sipush 2000, 3) := by decide +kernel
theorem d_N_init_41 : decode b_N_init 41 = .ok (.newarray .long, 2) := by decide +kernel
theorem d_N_init_43 : decode b_N_init 43 = .ok (.putfield 24, 3) := by decide +kernel
theorem d_N_init_46 : decode b_N_init 46 = .ok (.aload_n 0, 1) := by decide +kernel
theorem d_N_init_47 : decode b_N_init 47 = .ok (.bipush 12, 2) := by decide +kernel
theorem d_N_init_49 : decode b_N_init 49 = .ok (.newarray .long, 2) := by decide +kernel
theorem d_N_init_51 : decode b_N_init 51 = .ok (.putfield 28, 3) := by decide +kernel
theorem d_N_init_54 : decode b_N_init 54 = .ok (.return_, 1) := by decide +kernel
theorem d_M_init_0 : decode b_M_init 0 = .ok (.aload_n 0, 1) := by decide +kernel
theorem d_M_init_1 : decode b_M_init 1 = .ok (.invokespecial 1, 3) := by decide +kernel
theorem d_M_init_4 : decode b_M_init 4 = .ok (.aload_n 0, 1) := by decide +kernel
theorem d_M_init_5 : decode b_M_init 5 = .ok (.new 7, 3) := by decide +kernel
theorem d_M_init_8 : decode b_M_init 8 = .ok (.dup, 1) := by decide +kernel
theorem d_M_init_9 : decode b_M_init 9 = .ok (.invokespecial 9, 3) := by decide +kernel
theorem d_M_init_12 : decode b_M_init 12 = .ok (.putfield 10, 3) := by decide +kernel
theorem d_M_init_15 : decode b_M_init 15 = .ok (.aload_n 0, 1) := by decide +kernel
theorem d_M_init_16 : decode b_M_init 16 = .ok (.new 7, 3) := by decide +kernel
theorem d_M_init_19 : decode b_M_init 19 = .ok (.dup, 1) := by decide +kernel
theorem d_M_init_20 : decode b_M_init 20 = .ok (.invokespecial 9, 3) := by decide +kernel
theorem d_M_init_23 : decode b_M_init 23 = .ok (.putfield 16, 3) := by decide +kernel
theorem d_M_init_26 : decode b_M_init 26 = .ok (.aload_n 0, 1) := by decide +kernel
theorem d_M_init_27 : decode b_M_init 27 = .ok (.new 7, 3) := by decide +kernel
theorem d_M_init_30 : decode b_M_init 30 = .ok (.dup, 1) := by decide +kernel
theorem d_M_init_31 : decode b_M_init 31 = .ok (.invokespecial 9, 3) := by decide +kernel
theorem d_M_init_34 : decode b_M_init 34 = .ok (.putfield 19, 3) := by decide +kernel
theorem d_M_init_37 : decode b_M_init 37 = .ok (.aload_n 0, 1) := by decide +kernel
theorem d_M_init_38 : decode b_M_init 38 = .ok (.bipush 8, 2) := by decide +kernel
theorem d_M_init_40 : decode b_M_init 40 = .ok (.anewarray 7, 3) := by decide +kernel
theorem d_M_init_43 : decode b_M_init 43 = .ok (.putfield 22, 3) := by decide +kernel
theorem d_M_init_46 : decode b_M_init 46 = .ok (.aload_n 0, 1) := by decide +kernel
theorem d_M_init_47 : decode b_M_init 47 = .ok (.bipush 100, 2) := by decide +kernel
theorem d_M_init_49 : decode b_M_init 49 = .ok (.newarray .boolean, 2) := by decide +kernel
theorem d_M_init_51 : decode b_M_init 51 = .ok (.putfield 26, 3) := by decide +kernel
theorem d_M_init_54 : decode b_M_init 54 = .ok (.aload_n 0, 1) := by decide +kernel
theorem d_M_init_55 : decode b_M_init 55 = .ok (.bipush 100, 2) := by decide +kernel
theorem d_M_init_57 : decode b_M_init 57 = .ok (.newarray .int, 2) := by decide +kernel
theorem d_M_init_59 : decode b_M_init 59 = .ok (.putfield 30, 3) := by decide +kernel
theorem d_M_init_62 : decode b_M_init 62 = .ok (.iconst 0, 1) := by decide +kernel
theorem d_M_init_63 : decode b_M_init 63 = .ok (.istore_n 1, 1) := by decide +kernel
theorem d_M_init_64 : decode b_M_init 64 = .ok (.iload_n 1, 1) := by decide +kernel
theorem d_M_init_65 : decode b_M_init 65 = .ok (.bipush 8, 2) := by decide +kernel
theorem d_M_init_67 : decode b_M_init 67 = .ok (.if_icmp .ge 22, 3) := by decide +kernel
theorem d_M_init_70 : decode b_M_init 70 = .ok (.aload_n 0, 1) := by decide +kernel
theorem d_M_init_71 : decode b_M_init 71 = .ok (.getfield 22, 3) := by decide +kernel
theorem d_M_init_74 : decode b_M_init 74 = .ok (.iload_n 1, 1) := by decide +kernel
theorem d_M_init_75 : decode b_M_init 75 = .ok (.new 7, 3) := by decide +kernel
theorem d_M_init_78 : decode b_M_init 78 = .ok (.dup, 1) := by decide +kernel
theorem d_M_init_79 : decode b_M_init 79 = .ok (.invokespecial 9, 3) := by decide +kernel
theorem d_M_init_82 : decode b_M_init 82 = .ok (.aastore, 1) := by decide +kernel
theorem d_M_init_83 : decode b_M_init 83 = .ok (.iinc 1 1, 3) := by decide +kernel
theorem d_M_init_86 : decode b_M_init 86 = .ok (.goto (-22), 3) := by decide +kernel
theorem d_M_init_89 : decode b_M_init 89 = .ok (.return_, 1) := by decide +kernel
theorem d_K_make_0 : decode b_K_make 0 = .ok (.iconst 0, 1) := by decide +kernel
theorem d_K_make_1 : decode b_K_make 1 = .ok (.istore_n 2, 1) := by decide +kernel
theorem d_K_make_2 : decode b_K_make 2 = .ok (.iload_n 2, 1) := by decide +kernel
theorem d_K_make_3 : decode b_K_make 3 = .ok (.bipush 100, 2) := by decide +kernel
theorem d_K_make_5 : decode b_K_make 5 = .ok (.if_icmp .ge 59, 3) := by decide +kernel
theorem d_K_make_8 : decode b_K_make 8 = .ok (.aload_n 0, 1) := by decide +kernel
theorem d_K_make_9 : decode b_K_make 9 = .ok (.getfield 44, 3) := by decide +kernel
theorem d_K_make_12 : decode b_K_make 12 = .ok (.getfield 48, 3) := by decide +kernel
theorem d_K_make_15 : decode b_K_make 15 = .ok (.iload_n 2, 1) := by decide +kernel
theorem d_K_make_16 : decode b_K_make 16 = .ok (.aaload, 1) := by decide +kernel
theorem d_K_make_17 : decode b_K_make 17 = .ok (.ifnonnull 41, 3) := by decide +kernel
theorem d_K_make_20 : decode b_K_make 20 = .ok (.aload_n 0, 1) := by decide +kernel
theorem d_K_make_21 : decode b_K_make 21 = .ok (.getfield 44, 3) := by decide +kernel
theorem d_K_make_24 : decode b_K_make 24 = .ok (.getfield 48, 3) := by decide +kernel
theorem d_K_make_27 : decode b_K_make 27 = .ok (.iload_n 2, 1) := by decide +kernel
theorem d_K_make_28 : decode b_K_make 28 = .ok (.iload_n 1, 1) := by decide +kernel
theorem d_K_make_29 : decode b_K_make 29 = .ok (.ifCond .eq 16, 3) := by decide +kernel
theorem d_K_make_32 : decode b_K_make 32 = .ok (.new 36, 3) := by decide +kernel
theorem d_K_make_35 : decode b_K_make 35 = .ok (.dup, 1) := by decide +kernel
theorem d_K_make_36 : decode b_K_make 36 = .ok (.iconst 2, 1) := by decide +kernel
theorem d_K_make_37 : decode b_K_make 37 = .ok (.bipush 20, 2) := by decide +kernel
theorem d_K_make_39 : decode b_K_make 39 = .ok (.invokespecial 38, 3) := by decide +kernel
theorem d_K_make_42 : decode b_K_make 42 = .ok (.goto 13, 3) := by decide +kernel
theorem d_K_make_45 : decode b_K_make 45 = .ok (.new 36, 3) := by decide +kernel
theorem d_K_make_48 : decode b_K_make 48 = .ok (.dup, 1) := by decide +kernel
theorem d_K_make_49 : decode b_K_make 49 = .ok (.iconst 1, 1) := by decide +kernel
theorem d_K_make_50 : decode b_K_make 50 = .ok (.bipush 8, 2) := by decide +kernel
theorem d_K_make_52 : decode b_K_make 52 = .ok (.invokespecial 38, 3) := by decide +kernel
theorem d_K_make_55 : decode b_K_make 55 = .ok (.aastore, 1) := by decide +kernel
theorem d_K_make_56 : decode b_K_make 56 = .ok (.iload_n 2, 1) := by decide +kernel
theorem d_K_make_57 : decode b_K_make 57 = .ok (.ireturn, 1) := by decide +kernel
theorem d_K_make_58 : decode b_K_make 58 = .ok (.iinc 2 1, 3) := by decide +kernel
theorem d_K_make_61 : decode b_K_make 61 = .ok (.goto (-59), 3) := by decide +kernel
theorem d_K_make_64 : decode b_K_make 64 = .ok (.bipush (-3), 2) := by decide +kernel
theorem d_K_make_66 : decode b_K_make 66 = .ok (.ireturn, 1) := by decide +kernel
theorem d_M_make_0 : decode b_M_make 0 = .ok (.iconst 0, 1) := by decide +kernel
theorem d_M_make_1 : decode b_M_make 1 = .ok (.istore_n 2, 1) := by decide +kernel
theorem d_M_make_2 : decode b_M_make 2 = .ok (.iload_n 2, 1) := by decide +kernel
theorem d_M_make_3 : decode b_M_make 3 = .ok (.bipush 100, 2) := by decide +kernel
theorem d_M_make_5 : decode b_M_make 5 = .ok (.if_icmp .ge 54, 3) := by decide +kernel
theorem d_M_make_8 : decode b_M_make 8 = .ok (.aload_n 0, 1) := by decide +kernel
theorem d_M_make_9 : decode b_M_make 9 = .ok (.getfield 10, 3) := by decide +kernel
theorem d_M_make_12 : decode b_M_make 12 = .ok (.getfield 40, 3) := by decide +kernel
theorem d_M_make_15 : decode b_M_make 15 = .ok (.iload_n 2, 1) := by decide +kernel
theorem d_M_make_16 : decode b_M_make 16 = .ok (.iaload, 1) := by decide +kernel
theorem d_M_make_17 : decode b_M_make 17 = .ok (.ifCond .eq 6, 3) := by decide +kernel
theorem d_M_make_20 : decode b_M_make 20 = .ok (.goto 33, 3) := by decide +kernel
theorem d_M_make_23 : decode b_M_make 23 = .ok (.aload_n 0, 1) := by decide +kernel
theorem d_M_make_24 : decode b_M_make 24 = .ok (.getfield 10, 3) := by decide +kernel
theorem d_M_make_27 : decode b_M_make 27 = .ok (.getfield 40, 3) := by decide +kernel
theorem d_M_make_30 : decode b_M_make 30 = .ok (.iload_n 2, 1) := by decide +kernel
theorem d_M_make_31 : decode b_M_make 31 = .ok (.iload_n 1, 1) := by decide +kernel
theorem d_M_make_32 : decode b_M_make 32 = .ok (.ifCond .eq 7, 3) := by decide +kernel
theorem d_M_make_35 : decode b_M_make 35 = .ok (.iconst 2, 1) := by decide +kernel
theorem d_M_make_36 : decode b_M_make 36 = .ok (.goto 4, 3) := by decide +kernel
theorem d_M_make_39 : decode b_M_make 39 = .ok (.iconst 1, 1) := by decide +kernel
theorem d_M_make_40 : decode b_M_make 40 = .ok (.iastore, 1) := by decide +kernel
theorem d_M_make_41 : decode b_M_make 41 = .ok (.aload_n 0, 1) := by decide +kernel
theorem d_M_make_42 : decode b_M_make 42 = .ok (.getfield 10, 3) := by decide +kernel
theorem d_M_make_45 : decode b_M_make 45 = .ok (.getfield 51, 3) := by decide +kernel
theorem d_M_make_48 : decode b_M_make 48 = .ok (.iload_n 2, 1) := by decide +kernel
theorem d_M_make_49 : decode b_M_make 49 = .ok (.iconst 0, 1) := by decide +kernel
theorem d_M_make_50 : decode b_M_make 50 = .ok (.iastore, 1) := by decide +kernel
theorem d_M_make_51 : decode b_M_make 51 = .ok (.iload_n 2, 1) := by decide +kernel
theorem d_M_make_52 : decode b_M_make 52 = .ok (.ireturn, 1) := by decide +kernel
theorem d_M_make_53 : decode b_M_make 53 = .ok (.iinc 2 1, 3) := by decide +kernel
theorem d_M_make_56 : decode b_M_make 56 = .ok (.goto (-54), 3) := by decide +kernel
theorem d_M_make_59 : decode b_M_make 59 = .ok (.bipush (-3), 2) := by decide +kernel
theorem d_M_make_61 : decode b_M_make 61 = .ok (.ireturn, 1) := by decide +kernel
theorem d_T_has_0 : decode b_T_has 0 = .ok (.iload_n 1, 1) := by decide +kernel
theorem d_T_has_1 : decode b_T_has 1 = .ok (.ifCond .lt 22, 3) := by decide +kernel
theorem d_T_has_4 : decode b_T_has 4 = .ok (.iload_n 1, 1) := by decide +kernel
theorem d_T_has_5 : decode b_T_has 5 = .ok (.bipush 100, 2) := by decide +kernel
theorem d_T_has_7 : decode b_T_has 7 = .ok (.if_icmp .ge 16, 3) := by decide +kernel
theorem d_T_has_10 : decode b_T_has 10 = .ok (.aload_n 0, 1) := by decide +kernel
theorem d_T_has_11 : decode b_T_has 11 = .ok (.getfield 11, 3) := by decide +kernel
theorem d_T_has_14 : decode b_T_has 14 = .ok (.iload_n 1, 1) := by decide +kernel
theorem d_T_has_15 : decode b_T_has 15 = .ok (.aaload, 1) := by decide +kernel
theorem d_T_has_16 : decode b_T_has 16 = .ok (.ifnull 7, 3) := by decide +kernel
theorem d_T_has_19 : decode b_T_has 19 = .ok (.iconst 1, 1) := by decide +kernel
theorem d_T_has_20 : decode b_T_has 20 = .ok (.goto 4, 3) := by decide +kernel
theorem d_T_has_23 : decode b_T_has 23 = .ok (.iconst 0, 1) := by decide +kernel
theorem d_T_has_24 : decode b_T_has 24 = .ok (.ireturn, 1) := by decide +kernel
theorem d_K_valueOf_0 : decode b_K_valueOf 0 = .ok (.iload_n 1, 1) := by decide +kernel
theorem d_K_valueOf_1 : decode b_K_valueOf 1 = .ok (.tableswitch 58 0 2 #[27, 31, 34], 27) := by decide +kernel
theorem d_K_valueOf_28 : decode b_K_valueOf 28 = .ok (.ldc2_w 132, 3) := by decide +kernel
theorem d_K_valueOf_31 : decode b_K_valueOf 31 = .ok (.lreturn, 1) := by decide +kernel
theorem d_K_valueOf_32 : decode b_K_valueOf 32 = .ok (.iload_n 2, 1) := by decide +kernel
theorem d_K_valueOf_33 : decode b_K_valueOf 33 = .ok (.i2l, 1) := by decide +kernel
theorem d_K_valueOf_34 : decode b_K_valueOf 34 = .ok (.lreturn, 1) := by decide +kernel
theorem d_K_valueOf_35 : decode b_K_valueOf 35 = .ok (.aload_n 0, 1) := by decide +kernel
theorem d_K_valueOf_36 : decode b_K_valueOf 36 = .ok (.getfield 44, 3) := by decide +kernel
theorem d_K_valueOf_39 : decode b_K_valueOf 39 = .ok (.iload_n 2, 1) := by decide +kernel
theorem d_K_valueOf_40 : decode b_K_valueOf 40 = .ok (.invokevirtual 134, 3) := by decide +kernel
theorem d_K_valueOf_43 : decode b_K_valueOf 43 = .ok (.ifCond .eq 12, 3) := by decide +kernel
theorem d_K_valueOf_46 : decode b_K_valueOf 46 = .ok (.ldc2_w 137, 3) := by decide +kernel
theorem d_K_valueOf_49 : decode b_K_valueOf 49 = .ok (.iload_n 2, 1) := by decide +kernel
theorem d_K_valueOf_50 : decode b_K_valueOf 50 = .ok (.i2l, 1) := by decide +kernel
theorem d_K_valueOf_51 : decode b_K_valueOf 51 = .ok (.ladd, 1) := by decide +kernel
theorem d_K_valueOf_52 : decode b_K_valueOf 52 = .ok (.goto 6, 3) := by decide +kernel
theorem d_K_valueOf_55 : decode b_K_valueOf 55 = .ok (.ldc2_w 60, 3) := by decide +kernel
theorem d_K_valueOf_58 : decode b_K_valueOf 58 = .ok (.lreturn, 1) := by decide +kernel
theorem d_K_valueOf_59 : decode b_K_valueOf 59 = .ok (.ldc2_w 60, 3) := by decide +kernel
theorem d_K_valueOf_62 : decode b_K_valueOf 62 = .ok (.lreturn, 1) := by decide +kernel
theorem d_T_find_0 : decode b_T_find 0 = .ok (.aload_n 0, 1) := by decide +kernel
theorem d_T_find_1 : decode b_T_find 1 = .ok (.iload_n 1, 1) := by decide +kernel
theorem d_T_find_2 : decode b_T_find 2 = .ok (.invokevirtual 21, 3) := by decide +kernel
theorem d_T_find_5 : decode b_T_find 5 = .ok (.ifCond .eq 25, 3) := by decide +kernel
theorem d_T_find_8 : decode b_T_find 8 = .ok (.aload_n 0, 1) := by decide +kernel
theorem d_T_find_9 : decode b_T_find 9 = .ok (.getfield 11, 3) := by decide +kernel
theorem d_T_find_12 : decode b_T_find 12 = .ok (.iload_n 1, 1) := by decide +kernel
theorem d_T_find_13 : decode b_T_find 13 = .ok (.aaload, 1) := by decide +kernel
theorem d_T_find_14 : decode b_T_find 14 = .ok (.getfield 25, 3) := by decide +kernel
theorem d_T_find_17 : decode b_T_find 17 = .ok (.iload_n 2, 1) := by decide +kernel
theorem d_T_find_18 : decode b_T_find 18 = .ok (.if_icmp .ne 12, 3) := by decide +kernel
theorem d_T_find_21 : decode b_T_find 21 = .ok (.aload_n 0, 1) := by decide +kernel
theorem d_T_find_22 : decode b_T_find 22 = .ok (.getfield 11, 3) := by decide +kernel
theorem d_T_find_25 : decode b_T_find 25 = .ok (.iload_n 1, 1) := by decide +kernel
theorem d_T_find_26 : decode b_T_find 26 = .ok (.aaload, 1) := by decide +kernel
theorem d_T_find_27 : decode b_T_find 27 = .ok (.goto 4, 3) := by decide +kernel
theorem d_T_find_30 : decode b_T_find 30 = .ok (.aconst_null, 1) := by decide +kernel
theorem d_T_find_31 : decode b_T_find 31 = .ok (.areturn, 1) := by decide +kernel
theorem d_K_ringIndex_0 : decode b_K_ringIndex 0 = .ok (.aload_n 0, 1) := by decide +kernel
theorem d_K_ringIndex_1 : decode b_K_ringIndex 1 = .ok (.getfield 26, 3) := by decide +kernel
theorem d_K_ringIndex_4 : decode b_K_ringIndex 4 = .ok (.iload_n 1, 1) := by decide +kernel
theorem d_K_ringIndex_5 : decode b_K_ringIndex 5 = .ok (.iadd, 1) := by decide +kernel
theorem d_K_ringIndex_6 : decode b_K_ringIndex 6 = .ok (.bipush 9, 2) := by decide +kernel
theorem d_K_ringIndex_8 : decode b_K_ringIndex 8 = .ok (.irem, 1) := by decide +kernel
theorem d_K_ringIndex_9 : decode b_K_ringIndex 9 = .ok (.ireturn, 1) := by decide +kernel
theorem d_K_kept_0 : decode b_K_kept 0 = .ok (.aload_n 0, 1) := by decide +kernel
theorem d_K_kept_1 : decode b_K_kept 1 = .ok (.getfield 11, 3) := by decide +kernel
theorem d_K_kept_4 : decode b_K_kept 4 = .ok (.aload_n 0, 1) := by decide +kernel
theorem d_K_kept_5 : decode b_K_kept 5 = .ok (.aload_n 0, 1) := by decide +kernel
theorem d_K_kept_6 : decode b_K_kept 6 = .ok (.getfield 30, 3) := by decide +kernel
theorem d_K_kept_9 : decode b_K_kept 9 = .ok (.invokevirtual 116, 3) := by decide +kernel
theorem d_K_kept_12 : decode b_K_kept 12 = .ok (.aaload, 1) := by decide +kernel
theorem d_K_kept_13 : decode b_K_kept 13 = .ok (.areturn, 1) := by decide +kernel
theorem d_S_twin_0 : decode b_S_twin 0 = .ok (.new 10, 3) := by decide +kernel
theorem d_S_twin_3 : decode b_S_twin 3 = .ok (.dup, 1) := by decide +kernel
theorem d_S_twin_4 : decode b_S_twin 4 = .ok (.aload_n 0, 1) := by decide +kernel
theorem d_S_twin_5 : decode b_S_twin 5 = .ok (.getfield 15, 3) := by decide +kernel
theorem d_S_twin_8 : decode b_S_twin 8 = .ok (.aload_n 0, 1) := by decide +kernel
theorem d_S_twin_9 : decode b_S_twin 9 = .ok (.getfield 22, 3) := by decide +kernel
theorem d_S_twin_12 : decode b_S_twin 12 = .ok (.arraylength, 1) := by decide +kernel
theorem d_S_twin_13 : decode b_S_twin 13 = .ok (.invokespecial 26, 3) := by decide +kernel
theorem d_S_twin_16 : decode b_S_twin 16 = .ok (.astore_n 1, 1) := by decide +kernel
theorem d_S_twin_17 : decode b_S_twin 17 = .ok (.aload_n 0, 1) := by decide +kernel
theorem d_S_twin_18 : decode b_S_twin 18 = .ok (.getfield 18, 3) := by decide +kernel
theorem d_S_twin_21 : decode b_S_twin 21 = .ok (.iconst 0, 1) := by decide +kernel
theorem d_S_twin_22 : decode b_S_twin 22 = .ok (.aload_n 1, 1) := by decide +kernel
theorem d_S_twin_23 : decode b_S_twin 23 = .ok (.getfield 18, 3) := by decide +kernel
theorem d_S_twin_26 : decode b_S_twin 26 = .ok (.iconst 0, 1) := by decide +kernel
theorem d_S_twin_27 : decode b_S_twin 27 = .ok (.aload_n 0, 1) := by decide +kernel
theorem d_S_twin_28 : decode b_S_twin 28 = .ok (.getfield 9, 3) := by decide +kernel
theorem d_S_twin_31 : decode b_S_twin 31 = .ok (.invokestatic 29, 3) := by decide +kernel
theorem d_S_twin_34 : decode b_S_twin 34 = .ok (.aload_n 0, 1) := by decide +kernel
theorem d_S_twin_35 : decode b_S_twin 35 = .ok (.getfield 22, 3) := by decide +kernel
theorem d_S_twin_38 : decode b_S_twin 38 = .ok (.iconst 0, 1) := by decide +kernel
theorem d_S_twin_39 : decode b_S_twin 39 = .ok (.aload_n 1, 1) := by decide +kernel
theorem d_S_twin_40 : decode b_S_twin 40 = .ok (.getfield 22, 3) := by decide +kernel
theorem d_S_twin_43 : decode b_S_twin 43 = .ok (.iconst 0, 1) := by decide +kernel
theorem d_S_twin_44 : decode b_S_twin 44 = .ok (.aload_n 0, 1) := by decide +kernel
theorem d_S_twin_45 : decode b_S_twin 45 = .ok (.getfield 9, 3) := by decide +kernel
theorem d_S_twin_48 : decode b_S_twin 48 = .ok (.invokestatic 29, 3) := by decide +kernel
theorem d_S_twin_51 : decode b_S_twin 51 = .ok (.aload_n 1, 1) := by decide +kernel
theorem d_S_twin_52 : decode b_S_twin 52 = .ok (.aload_n 0, 1) := by decide +kernel
theorem d_S_twin_53 : decode b_S_twin 53 = .ok (.getfield 9, 3) := by decide +kernel
theorem d_S_twin_56 : decode b_S_twin 56 = .ok (.putfield 9, 3) := by decide +kernel
theorem d_S_twin_59 : decode b_S_twin 59 = .ok (.aload_n 1, 1) := by decide +kernel
theorem d_S_twin_60 : decode b_S_twin 60 = .ok (.areturn, 1) := by decide +kernel
theorem d_K_own_0 : decode b_K_own 0 = .ok (.aload_n 0, 1) := by decide +kernel
theorem d_K_own_1 : decode b_K_own 1 = .ok (.getfield 44, 3) := by decide +kernel
theorem d_K_own_4 : decode b_K_own 4 = .ok (.iload_n 1, 1) := by decide +kernel
theorem d_K_own_5 : decode b_K_own 5 = .ok (.iload_n 2, 1) := by decide +kernel
theorem d_K_own_6 : decode b_K_own 6 = .ok (.invokevirtual 66, 3) := by decide +kernel
theorem d_K_own_9 : decode b_K_own 9 = .ok (.astore_n 3, 1) := by decide +kernel
theorem d_K_own_10 : decode b_K_own 10 = .ok (.aload_n 3, 1) := by decide +kernel
theorem d_K_own_11 : decode b_K_own 11 = .ok (.ifnull 31, 3) := by decide +kernel
theorem d_K_own_14 : decode b_K_own 14 = .ok (.aload_n 3, 1) := by decide +kernel
theorem d_K_own_15 : decode b_K_own 15 = .ok (.aload_n 0, 1) := by decide +kernel
theorem d_K_own_16 : decode b_K_own 16 = .ok (.invokevirtual 104, 3) := by decide +kernel
theorem d_K_own_19 : decode b_K_own 19 = .ok (.getfield 48, 3) := by decide +kernel
theorem d_K_own_22 : decode b_K_own 22 = .ok (.iload_n 1, 1) := by decide +kernel
theorem d_K_own_23 : decode b_K_own 23 = .ok (.aaload, 1) := by decide +kernel
theorem d_K_own_24 : decode b_K_own 24 = .ok (.if_acmp .ne 18, 3) := by decide +kernel
theorem d_K_own_27 : decode b_K_own 27 = .ok (.aload_n 3, 1) := by decide +kernel
theorem d_K_own_28 : decode b_K_own 28 = .ok (.invokevirtual 139, 3) := by decide +kernel
theorem d_K_own_31 : decode b_K_own 31 = .ok (.astore_n 3, 1) := by decide +kernel
theorem d_K_own_32 : decode b_K_own 32 = .ok (.aload_n 0, 1) := by decide +kernel
theorem d_K_own_33 : decode b_K_own 33 = .ok (.getfield 44, 3) := by decide +kernel
theorem d_K_own_36 : decode b_K_own 36 = .ok (.getfield 48, 3) := by decide +kernel
theorem d_K_own_39 : decode b_K_own 39 = .ok (.iload_n 1, 1) := by decide +kernel
theorem d_K_own_40 : decode b_K_own 40 = .ok (.aload_n 3, 1) := by decide +kernel
theorem d_K_own_41 : decode b_K_own 41 = .ok (.aastore, 1) := by decide +kernel
theorem d_K_own_42 : decode b_K_own 42 = .ok (.aload_n 3, 1) := by decide +kernel
theorem d_K_own_43 : decode b_K_own 43 = .ok (.areturn, 1) := by decide +kernel
theorem d_S_placeOf_0 : decode b_S_placeOf 0 = .ok (.iconst 0, 1) := by decide +kernel
theorem d_S_placeOf_1 : decode b_S_placeOf 1 = .ok (.istore_n 2, 1) := by decide +kernel
theorem d_S_placeOf_2 : decode b_S_placeOf 2 = .ok (.iload_n 2, 1) := by decide +kernel
theorem d_S_placeOf_3 : decode b_S_placeOf 3 = .ok (.aload_n 0, 1) := by decide +kernel
theorem d_S_placeOf_4 : decode b_S_placeOf 4 = .ok (.getfield 9, 3) := by decide +kernel
theorem d_S_placeOf_7 : decode b_S_placeOf 7 = .ok (.if_icmp .ge 19, 3) := by decide +kernel
theorem d_S_placeOf_10 : decode b_S_placeOf 10 = .ok (.aload_n 0, 1) := by decide +kernel
theorem d_S_placeOf_11 : decode b_S_placeOf 11 = .ok (.getfield 18, 3) := by decide +kernel
theorem d_S_placeOf_14 : decode b_S_placeOf 14 = .ok (.iload_n 2, 1) := by decide +kernel
theorem d_S_placeOf_15 : decode b_S_placeOf 15 = .ok (.iaload, 1) := by decide +kernel
theorem d_S_placeOf_16 : decode b_S_placeOf 16 = .ok (.iload_n 1, 1) := by decide +kernel
theorem d_S_placeOf_17 : decode b_S_placeOf 17 = .ok (.if_icmp .eq 9, 3) := by decide +kernel
theorem d_S_placeOf_20 : decode b_S_placeOf 20 = .ok (.iinc 2 1, 3) := by decide +kernel
theorem d_S_placeOf_23 : decode b_S_placeOf 23 = .ok (.goto (-21), 3) := by decide +kernel
theorem d_S_placeOf_26 : decode b_S_placeOf 26 = .ok (.iload_n 2, 1) := by decide +kernel
theorem d_S_placeOf_27 : decode b_S_placeOf 27 = .ok (.ireturn, 1) := by decide +kernel
theorem d_S_holds_0 : decode b_S_holds 0 = .ok (.iload_n 1, 1) := by decide +kernel
theorem d_S_holds_1 : decode b_S_holds 1 = .ok (.ifCond .lt 15, 3) := by decide +kernel
theorem d_S_holds_4 : decode b_S_holds 4 = .ok (.iload_n 1, 1) := by decide +kernel
theorem d_S_holds_5 : decode b_S_holds 5 = .ok (.aload_n 0, 1) := by decide +kernel
theorem d_S_holds_6 : decode b_S_holds 6 = .ok (.getfield 9, 3) := by decide +kernel
theorem d_S_holds_9 : decode b_S_holds 9 = .ok (.if_icmp .ge 7, 3) := by decide +kernel
theorem d_S_holds_12 : decode b_S_holds 12 = .ok (.iconst 1, 1) := by decide +kernel
theorem d_S_holds_13 : decode b_S_holds 13 = .ok (.goto 4, 3) := by decide +kernel
theorem d_S_holds_16 : decode b_S_holds 16 = .ok (.iconst 0, 1) := by decide +kernel
theorem d_S_holds_17 : decode b_S_holds 17 = .ok (.ireturn, 1) := by decide +kernel
end
section
theorem d_S_removeAt_0 : decode b_S_removeAt 0 = .ok (.aload_n 0, 1) := by decide +kernel
theorem d_S_removeAt_1 : decode b_S_removeAt 1 = .ok (.iload_n 1, 1) := by decide +kernel
theorem d_S_removeAt_2 : decode b_S_removeAt 2 = .ok (.invokevirtual 49, 3) := by decide +kernel
theorem d_S_removeAt_5 : decode b_S_removeAt 5 = .ok (.ifCond .ne 4, 3) := by decide +kernel
theorem d_S_removeAt_8 : decode b_S_removeAt 8 = .ok (.return_, 1) := by decide +kernel
theorem d_S_removeAt_9 : decode b_S_removeAt 9 = .ok (.aload_n 0, 1) := by decide +kernel
theorem d_S_removeAt_10 : decode b_S_removeAt 10 = .ok (.dup, 1) := by decide +kernel
theorem d_S_removeAt_11 : decode b_S_removeAt 11 = .ok (.getfield 9, 3) := by decide +kernel
theorem d_S_removeAt_14 : decode b_S_removeAt 14 = .ok (.iconst 1, 1) := by decide +kernel
theorem d_S_removeAt_15 : decode b_S_removeAt 15 = .ok (.isub, 1) := by decide +kernel
theorem d_S_removeAt_16 : decode b_S_removeAt 16 = .ok (.putfield 9, 3) := by decide +kernel
theorem d_S_removeAt_19 : decode b_S_removeAt 19 = .ok (.iload_n 1, 1) := by decide +kernel
theorem d_S_removeAt_20 : decode b_S_removeAt 20 = .ok (.istore_n 2, 1) := by decide +kernel
theorem d_S_removeAt_21 : decode b_S_removeAt 21 = .ok (.iload_n 2, 1) := by decide +kernel
theorem d_S_removeAt_22 : decode b_S_removeAt 22 = .ok (.aload_n 0, 1) := by decide +kernel
theorem d_S_removeAt_23 : decode b_S_removeAt 23 = .ok (.getfield 9, 3) := by decide +kernel
theorem d_S_removeAt_26 : decode b_S_removeAt 26 = .ok (.if_icmp .ge 37, 3) := by decide +kernel
theorem d_S_removeAt_29 : decode b_S_removeAt 29 = .ok (.aload_n 0, 1) := by decide +kernel
theorem d_S_removeAt_30 : decode b_S_removeAt 30 = .ok (.getfield 18, 3) := by decide +kernel
theorem d_S_removeAt_33 : decode b_S_removeAt 33 = .ok (.iload_n 2, 1) := by decide +kernel
theorem d_S_removeAt_34 : decode b_S_removeAt 34 = .ok (.aload_n 0, 1) := by decide +kernel
theorem d_S_removeAt_35 : decode b_S_removeAt 35 = .ok (.getfield 18, 3) := by decide +kernel
theorem d_S_removeAt_38 : decode b_S_removeAt 38 = .ok (.iload_n 2, 1) := by decide +kernel
theorem d_S_removeAt_39 : decode b_S_removeAt 39 = .ok (.iconst 1, 1) := by decide +kernel
theorem d_S_removeAt_40 : decode b_S_removeAt 40 = .ok (.iadd, 1) := by decide +kernel
theorem d_S_removeAt_41 : decode b_S_removeAt 41 = .ok (.iaload, 1) := by decide +kernel
theorem d_S_removeAt_42 : decode b_S_removeAt 42 = .ok (.iastore, 1) := by decide +kernel
theorem d_S_removeAt_43 : decode b_S_removeAt 43 = .ok (.aload_n 0, 1) := by decide +kernel
theorem d_S_removeAt_44 : decode b_S_removeAt 44 = .ok (.getfield 22, 3) := by decide +kernel
theorem d_S_removeAt_47 : decode b_S_removeAt 47 = .ok (.iload_n 2, 1) := by decide +kernel
theorem d_S_removeAt_48 : decode b_S_removeAt 48 = .ok (.aload_n 0, 1) := by decide +kernel
theorem d_S_removeAt_49 : decode b_S_removeAt 49 = .ok (.getfield 22, 3) := by decide +kernel
theorem d_S_removeAt_52 : decode b_S_removeAt 52 = .ok (.iload_n 2, 1) := by decide +kernel
theorem d_S_removeAt_53 : decode b_S_removeAt 53 = .ok (.iconst 1, 1) := by decide +kernel
theorem d_S_removeAt_54 : decode b_S_removeAt 54 = .ok (.iadd, 1) := by decide +kernel
theorem d_S_removeAt_55 : decode b_S_removeAt 55 = .ok (.laload, 1) := by decide +kernel
theorem d_S_removeAt_56 : decode b_S_removeAt 56 = .ok (.lastore, 1) := by decide +kernel
theorem d_S_removeAt_57 : decode b_S_removeAt 57 = .ok (.iinc 2 1, 3) := by decide +kernel
theorem d_S_removeAt_60 : decode b_S_removeAt 60 = .ok (.goto (-39), 3) := by decide +kernel
theorem d_S_removeAt_63 : decode b_S_removeAt 63 = .ok (.return_, 1) := by decide +kernel
theorem d_S_append_0 : decode b_S_append 0 = .ok (.aload_n 0, 1) := by decide +kernel
theorem d_S_append_1 : decode b_S_append 1 = .ok (.getfield 9, 3) := by decide +kernel
theorem d_S_append_4 : decode b_S_append 4 = .ok (.aload_n 0, 1) := by decide +kernel
theorem d_S_append_5 : decode b_S_append 5 = .ok (.getfield 22, 3) := by decide +kernel
theorem d_S_append_8 : decode b_S_append 8 = .ok (.arraylength, 1) := by decide +kernel
theorem d_S_append_9 : decode b_S_append 9 = .ok (.if_icmp .lt 6, 3) := by decide +kernel
theorem d_S_append_12 : decode b_S_append 12 = .ok (.bipush (-3), 2) := by decide +kernel
theorem d_S_append_14 : decode b_S_append 14 = .ok (.ireturn, 1) := by decide +kernel
theorem d_S_append_15 : decode b_S_append 15 = .ok (.aload_n 0, 1) := by decide +kernel
theorem d_S_append_16 : decode b_S_append 16 = .ok (.getfield 18, 3) := by decide +kernel
theorem d_S_append_19 : decode b_S_append 19 = .ok (.aload_n 0, 1) := by decide +kernel
theorem d_S_append_20 : decode b_S_append 20 = .ok (.getfield 9, 3) := by decide +kernel
theorem d_S_append_23 : decode b_S_append 23 = .ok (.iload_n 1, 1) := by decide +kernel
theorem d_S_append_24 : decode b_S_append 24 = .ok (.iastore, 1) := by decide +kernel
theorem d_S_append_25 : decode b_S_append 25 = .ok (.aload_n 0, 1) := by decide +kernel
theorem d_S_append_26 : decode b_S_append 26 = .ok (.getfield 22, 3) := by decide +kernel
theorem d_S_append_29 : decode b_S_append 29 = .ok (.aload_n 0, 1) := by decide +kernel
theorem d_S_append_30 : decode b_S_append 30 = .ok (.getfield 9, 3) := by decide +kernel
theorem d_S_append_33 : decode b_S_append 33 = .ok (.lload_n 2, 1) := by decide +kernel
theorem d_S_append_34 : decode b_S_append 34 = .ok (.lastore, 1) := by decide +kernel
theorem d_S_append_35 : decode b_S_append 35 = .ok (.aload_n 0, 1) := by decide +kernel
theorem d_S_append_36 : decode b_S_append 36 = .ok (.dup, 1) := by decide +kernel
theorem d_S_append_37 : decode b_S_append 37 = .ok (.getfield 9, 3) := by decide +kernel
theorem d_S_append_40 : decode b_S_append 40 = .ok (.iconst 1, 1) := by decide +kernel
theorem d_S_append_41 : decode b_S_append 41 = .ok (.iadd, 1) := by decide +kernel
theorem d_S_append_42 : decode b_S_append 42 = .ok (.putfield 9, 3) := by decide +kernel
theorem d_S_append_45 : decode b_S_append 45 = .ok (.aload_n 0, 1) := by decide +kernel
theorem d_S_append_46 : decode b_S_append 46 = .ok (.getfield 9, 3) := by decide +kernel
theorem d_S_append_49 : decode b_S_append 49 = .ok (.ireturn, 1) := by decide +kernel
theorem d_S_assign_0 : decode b_S_assign 0 = .ok (.aload_n 0, 1) := by decide +kernel
theorem d_S_assign_1 : decode b_S_assign 1 = .ok (.iload_n 1, 1) := by decide +kernel
theorem d_S_assign_2 : decode b_S_assign 2 = .ok (.invokevirtual 35, 3) := by decide +kernel
theorem d_S_assign_5 : decode b_S_assign 5 = .ok (.istore 4, 2) := by decide +kernel
theorem d_S_assign_7 : decode b_S_assign 7 = .ok (.lload_n 2, 1) := by decide +kernel
theorem d_S_assign_8 : decode b_S_assign 8 = .ok (.ldc2_w 39, 3) := by decide +kernel
theorem d_S_assign_11 : decode b_S_assign 11 = .ok (.lcmp, 1) := by decide +kernel
theorem d_S_assign_12 : decode b_S_assign 12 = .ok (.ifCond .ne 14, 3) := by decide +kernel
theorem d_S_assign_15 : decode b_S_assign 15 = .ok (.aload_n 0, 1) := by decide +kernel
theorem d_S_assign_16 : decode b_S_assign 16 = .ok (.iload 4, 2) := by decide +kernel
theorem d_S_assign_18 : decode b_S_assign 18 = .ok (.invokevirtual 41, 3) := by decide +kernel
theorem d_S_assign_21 : decode b_S_assign 21 = .ok (.aload_n 0, 1) := by decide +kernel
theorem d_S_assign_22 : decode b_S_assign 22 = .ok (.getfield 9, 3) := by decide +kernel
theorem d_S_assign_25 : decode b_S_assign 25 = .ok (.ireturn, 1) := by decide +kernel
theorem d_S_assign_26 : decode b_S_assign 26 = .ok (.iload 4, 2) := by decide +kernel
theorem d_S_assign_28 : decode b_S_assign 28 = .ok (.aload_n 0, 1) := by decide +kernel
theorem d_S_assign_29 : decode b_S_assign 29 = .ok (.getfield 9, 3) := by decide +kernel
theorem d_S_assign_32 : decode b_S_assign 32 = .ok (.if_icmp .ne 10, 3) := by decide +kernel
theorem d_S_assign_35 : decode b_S_assign 35 = .ok (.aload_n 0, 1) := by decide +kernel
theorem d_S_assign_36 : decode b_S_assign 36 = .ok (.iload_n 1, 1) := by decide +kernel
theorem d_S_assign_37 : decode b_S_assign 37 = .ok (.lload_n 2, 1) := by decide +kernel
theorem d_S_assign_38 : decode b_S_assign 38 = .ok (.invokevirtual 45, 3) := by decide +kernel
theorem d_S_assign_41 : decode b_S_assign 41 = .ok (.ireturn, 1) := by decide +kernel
theorem d_S_assign_42 : decode b_S_assign 42 = .ok (.aload_n 0, 1) := by decide +kernel
theorem d_S_assign_43 : decode b_S_assign 43 = .ok (.getfield 22, 3) := by decide +kernel
theorem d_S_assign_46 : decode b_S_assign 46 = .ok (.iload 4, 2) := by decide +kernel
theorem d_S_assign_48 : decode b_S_assign 48 = .ok (.lload_n 2, 1) := by decide +kernel
theorem d_S_assign_49 : decode b_S_assign 49 = .ok (.lastore, 1) := by decide +kernel
theorem d_S_assign_50 : decode b_S_assign 50 = .ok (.aload_n 0, 1) := by decide +kernel
theorem d_S_assign_51 : decode b_S_assign 51 = .ok (.getfield 9, 3) := by decide +kernel
theorem d_S_assign_54 : decode b_S_assign 54 = .ok (.ireturn, 1) := by decide +kernel
theorem d_K_set_0 : decode b_K_set 0 = .ok (.aload_n 0, 1) := by decide +kernel
theorem d_K_set_1 : decode b_K_set 1 = .ok (.iload_n 3, 1) := by decide +kernel
theorem d_K_set_2 : decode b_K_set 2 = .ok (.iload 4, 2) := by decide +kernel
theorem d_K_set_4 : decode b_K_set 4 = .ok (.invokevirtual 52, 3) := by decide +kernel
theorem d_K_set_7 : decode b_K_set 7 = .ok (.lstore 5, 2) := by decide +kernel
theorem d_K_set_9 : decode b_K_set 9 = .ok (.aload_n 0, 1) := by decide +kernel
theorem d_K_set_10 : decode b_K_set 10 = .ok (.iload_n 1, 1) := by decide +kernel
theorem d_K_set_11 : decode b_K_set 11 = .ok (.iconst 1, 1) := by decide +kernel
theorem d_K_set_12 : decode b_K_set 12 = .ok (.invokevirtual 56, 3) := by decide +kernel
theorem d_K_set_15 : decode b_K_set 15 = .ok (.astore 7, 2) := by decide +kernel
theorem d_K_set_17 : decode b_K_set 17 = .ok (.lload 5, 2) := by decide +kernel
theorem d_K_set_19 : decode b_K_set 19 = .ok (.ldc2_w 60, 3) := by decide +kernel
theorem d_K_set_22 : decode b_K_set 22 = .ok (.lcmp, 1) := by decide +kernel
theorem d_K_set_23 : decode b_K_set 23 = .ok (.ifCond .eq 8, 3) := by decide +kernel
theorem d_K_set_26 : decode b_K_set 26 = .ok (.aload 7, 2) := by decide +kernel
theorem d_K_set_28 : decode b_K_set 28 = .ok (.ifnonnull 7, 3) := by decide +kernel
theorem d_K_set_31 : decode b_K_set 31 = .ok (.iconst (-1), 1) := by decide +kernel
theorem d_K_set_32 : decode b_K_set 32 = .ok (.goto 11, 3) := by decide +kernel
theorem d_K_set_35 : decode b_K_set 35 = .ok (.aload 7, 2) := by decide +kernel
theorem d_K_set_37 : decode b_K_set 37 = .ok (.iload_n 2, 1) := by decide +kernel
theorem d_K_set_38 : decode b_K_set 38 = .ok (.lload 5, 2) := by decide +kernel
theorem d_K_set_40 : decode b_K_set 40 = .ok (.invokevirtual 62, 3) := by decide +kernel
theorem d_K_set_43 : decode b_K_set 43 = .ok (.ireturn, 1) := by decide +kernel
theorem d_M_in_0 : decode b_M_in 0 = .ok (.lload_n 0, 1) := by decide +kernel
theorem d_M_in_1 : decode b_M_in 1 = .ok (.lload_n 2, 1) := by decide +kernel
theorem d_M_in_2 : decode b_M_in 2 = .ok (.lcmp, 1) := by decide +kernel
theorem d_M_in_3 : decode b_M_in 3 = .ok (.ifCond .lt 14, 3) := by decide +kernel
theorem d_M_in_6 : decode b_M_in 6 = .ok (.lload_n 0, 1) := by decide +kernel
theorem d_M_in_7 : decode b_M_in 7 = .ok (.lload 4, 2) := by decide +kernel
theorem d_M_in_9 : decode b_M_in 9 = .ok (.lcmp, 1) := by decide +kernel
theorem d_M_in_10 : decode b_M_in 10 = .ok (.ifCond .gt 7, 3) := by decide +kernel
theorem d_M_in_13 : decode b_M_in 13 = .ok (.iconst 1, 1) := by decide +kernel
theorem d_M_in_14 : decode b_M_in 14 = .ok (.goto 4, 3) := by decide +kernel
theorem d_M_in_17 : decode b_M_in 17 = .ok (.iconst 0, 1) := by decide +kernel
theorem d_M_in_18 : decode b_M_in 18 = .ok (.ireturn, 1) := by decide +kernel
theorem d_M_is_0 : decode b_M_is 0 = .ok (.iload_n 1, 1) := by decide +kernel
theorem d_M_is_1 : decode b_M_is 1 = .ok (.i2l, 1) := by decide +kernel
theorem d_M_is_2 : decode b_M_is 2 = .ok (.lconst 0, 1) := by decide +kernel
theorem d_M_is_3 : decode b_M_is 3 = .ok (.ldc2_w 34, 3) := by decide +kernel
theorem d_M_is_6 : decode b_M_is 6 = .ok (.invokestatic 36, 3) := by decide +kernel
theorem d_M_is_9 : decode b_M_is 9 = .ok (.ifCond .eq 20, 3) := by decide +kernel
theorem d_M_is_12 : decode b_M_is 12 = .ok (.aload_n 0, 1) := by decide +kernel
theorem d_M_is_13 : decode b_M_is 13 = .ok (.getfield 10, 3) := by decide +kernel
theorem d_M_is_16 : decode b_M_is 16 = .ok (.getfield 40, 3) := by decide +kernel
theorem d_M_is_19 : decode b_M_is 19 = .ok (.iload_n 1, 1) := by decide +kernel
theorem d_M_is_20 : decode b_M_is 20 = .ok (.iaload, 1) := by decide +kernel
theorem d_M_is_21 : decode b_M_is 21 = .ok (.iload_n 2, 1) := by decide +kernel
theorem d_M_is_22 : decode b_M_is 22 = .ok (.if_icmp .ne 7, 3) := by decide +kernel
theorem d_M_is_25 : decode b_M_is 25 = .ok (.iconst 1, 1) := by decide +kernel
theorem d_M_is_26 : decode b_M_is 26 = .ok (.goto 4, 3) := by decide +kernel
theorem d_M_is_29 : decode b_M_is 29 = .ok (.iconst 0, 1) := by decide +kernel
theorem d_M_is_30 : decode b_M_is 30 = .ok (.ireturn, 1) := by decide +kernel
theorem d_M_isThere_0 : decode b_M_isThere 0 = .ok (.iload_n 1, 1) := by decide +kernel
theorem d_M_isThere_1 : decode b_M_isThere 1 = .ok (.i2l, 1) := by decide +kernel
theorem d_M_isThere_2 : decode b_M_isThere 2 = .ok (.lconst 0, 1) := by decide +kernel
theorem d_M_isThere_3 : decode b_M_isThere 3 = .ok (.ldc2_w 34, 3) := by decide +kernel
theorem d_M_isThere_6 : decode b_M_isThere 6 = .ok (.invokestatic 36, 3) := by decide +kernel
theorem d_M_isThere_9 : decode b_M_isThere 9 = .ok (.ifCond .eq 19, 3) := by decide +kernel
theorem d_M_isThere_12 : decode b_M_isThere 12 = .ok (.aload_n 0, 1) := by decide +kernel
theorem d_M_isThere_13 : decode b_M_isThere 13 = .ok (.getfield 10, 3) := by decide +kernel
theorem d_M_isThere_16 : decode b_M_isThere 16 = .ok (.getfield 40, 3) := by decide +kernel
theorem d_M_isThere_19 : decode b_M_isThere 19 = .ok (.iload_n 1, 1) := by decide +kernel
theorem d_M_isThere_20 : decode b_M_isThere 20 = .ok (.iaload, 1) := by decide +kernel
theorem d_M_isThere_21 : decode b_M_isThere 21 = .ok (.ifCond .eq 7, 3) := by decide +kernel
theorem d_M_isThere_24 : decode b_M_isThere 24 = .ok (.iconst 1, 1) := by decide +kernel
theorem d_M_isThere_25 : decode b_M_isThere 25 = .ok (.goto 4, 3) := by decide +kernel
theorem d_M_isThere_28 : decode b_M_isThere 28 = .ok (.iconst 0, 1) := by decide +kernel
theorem d_M_isThere_29 : decode b_M_isThere 29 = .ok (.ireturn, 1) := by decide +kernel
theorem d_M_isValue_0 : decode b_M_isValue 0 = .ok (.iload_n 1, 1) := by decide +kernel
theorem d_M_isValue_1 : decode b_M_isValue 1 = .ok (.ifCond .eq 21, 3) := by decide +kernel
theorem d_M_isValue_4 : decode b_M_isValue 4 = .ok (.iload_n 1, 1) := by decide +kernel
theorem d_M_isValue_5 : decode b_M_isValue 5 = .ok (.iconst 1, 1) := by decide +kernel
theorem d_M_isValue_6 : decode b_M_isValue 6 = .ok (.if_icmp .eq 16, 3) := by decide +kernel
theorem d_M_isValue_9 : decode b_M_isValue 9 = .ok (.iload_n 1, 1) := by decide +kernel
theorem d_M_isValue_10 : decode b_M_isValue 10 = .ok (.iconst 2, 1) := by decide +kernel
theorem d_M_isValue_11 : decode b_M_isValue 11 = .ok (.if_icmp .ne 15, 3) := by decide +kernel
theorem d_M_isValue_14 : decode b_M_isValue 14 = .ok (.aload_n 0, 1) := by decide +kernel
theorem d_M_isValue_15 : decode b_M_isValue 15 = .ok (.iload_n 2, 1) := by decide +kernel
theorem d_M_isValue_16 : decode b_M_isValue 16 = .ok (.invokevirtual 43, 3) := by decide +kernel
theorem d_M_isValue_19 : decode b_M_isValue 19 = .ok (.ifCond .eq 7, 3) := by decide +kernel
theorem d_M_isValue_22 : decode b_M_isValue 22 = .ok (.iconst 1, 1) := by decide +kernel
theorem d_M_isValue_23 : decode b_M_isValue 23 = .ok (.goto 4, 3) := by decide +kernel
theorem d_M_isValue_26 : decode b_M_isValue 26 = .ok (.iconst 0, 1) := by decide +kernel
theorem d_M_isValue_27 : decode b_M_isValue 27 = .ok (.ireturn, 1) := by decide +kernel
theorem d_N_findField_0 : decode b_N_findField 0 = .ok (.iconst 0, 1) := by decide +kernel
theorem d_N_findField_1 : decode b_N_findField 1 = .ok (.istore_n 3, 1) := by decide +kernel
theorem d_N_findField_2 : decode b_N_findField 2 = .ok (.iload_n 3, 1) := by decide +kernel
theorem d_N_findField_3 : decode b_N_findField 3 = .ok (.aload_n 0, 1) := by decide +kernel
theorem d_N_findField_4 : decode b_N_findField 4 = .ok (.getfield 15, 3) := by decide +kernel
theorem d_N_findField_7 : decode b_N_findField 7 = .ok (.iload_n 1, 1) := by decide +kernel
theorem d_N_findField_8 : decode b_N_findField 8 = .ok (.iaload, 1) := by decide +kernel
theorem d_N_findField_9 : decode b_N_findField 9 = .ok (.if_icmp .ge 26, 3) := by decide +kernel
theorem d_N_findField_12 : decode b_N_findField 12 = .ok (.aload_n 0, 1) := by decide +kernel
theorem d_N_findField_13 : decode b_N_findField 13 = .ok (.getfield 18, 3) := by decide +kernel
theorem d_N_findField_16 : decode b_N_findField 16 = .ok (.bipush 8, 2) := by decide +kernel
theorem d_N_findField_18 : decode b_N_findField 18 = .ok (.iload_n 1, 1) := by decide +kernel
theorem d_N_findField_19 : decode b_N_findField 19 = .ok (.imul, 1) := by decide +kernel
theorem d_N_findField_20 : decode b_N_findField 20 = .ok (.iload_n 3, 1) := by decide +kernel
theorem d_N_findField_21 : decode b_N_findField 21 = .ok (.iadd, 1) := by decide +kernel
theorem d_N_findField_22 : decode b_N_findField 22 = .ok (.iaload, 1) := by decide +kernel
theorem d_N_findField_23 : decode b_N_findField 23 = .ok (.iload_n 2, 1) := by decide +kernel
theorem d_N_findField_24 : decode b_N_findField 24 = .ok (.if_icmp .ne 5, 3) := by decide +kernel
theorem d_N_findField_27 : decode b_N_findField 27 = .ok (.iload_n 3, 1) := by decide +kernel
theorem d_N_findField_28 : decode b_N_findField 28 = .ok (.ireturn, 1) := by decide +kernel
theorem d_N_findField_29 : decode b_N_findField 29 = .ok (.iinc 3 1, 3) := by decide +kernel
theorem d_N_findField_32 : decode b_N_findField 32 = .ok (.goto (-30), 3) := by decide +kernel
theorem d_N_findField_35 : decode b_N_findField 35 = .ok (.iconst (-1), 1) := by decide +kernel
theorem d_N_findField_36 : decode b_N_findField 36 = .ok (.ireturn, 1) := by decide +kernel
theorem d_M_value_0 : decode b_M_value 0 = .ok (.iload_n 0, 1) := by decide +kernel
theorem d_M_value_1 : decode b_M_value 1 = .ok (.ifCond .ne 9, 3) := by decide +kernel
theorem d_M_value_4 : decode b_M_value 4 = .ok (.ldc2_w 47, 3) := by decide +kernel
theorem d_M_value_7 : decode b_M_value 7 = .ok (.goto 19, 3) := by decide +kernel
theorem d_M_value_10 : decode b_M_value 10 = .ok (.iload_n 0, 1) := by decide +kernel
theorem d_M_value_11 : decode b_M_value 11 = .ok (.iconst 1, 1) := by decide +kernel
theorem d_M_value_12 : decode b_M_value 12 = .ok (.if_icmp .ne 8, 3) := by decide +kernel
theorem d_M_value_15 : decode b_M_value 15 = .ok (.iload_n 1, 1) := by decide +kernel
theorem d_M_value_16 : decode b_M_value 16 = .ok (.i2l, 1) := by decide +kernel
theorem d_M_value_17 : decode b_M_value 17 = .ok (.goto 9, 3) := by decide +kernel
theorem d_M_value_20 : decode b_M_value 20 = .ok (.ldc2_w 49, 3) := by decide +kernel
theorem d_M_value_23 : decode b_M_value 23 = .ok (.iload_n 1, 1) := by decide +kernel
theorem d_M_value_24 : decode b_M_value 24 = .ok (.i2l, 1) := by decide +kernel
theorem d_M_value_25 : decode b_M_value 25 = .ok (.ladd, 1) := by decide +kernel
theorem d_M_value_26 : decode b_M_value 26 = .ok (.lreturn, 1) := by decide +kernel
theorem d_M_set_0 : decode b_M_set 0 = .ok (.aload_n 0, 1) := by decide +kernel
theorem d_M_set_1 : decode b_M_set 1 = .ok (.iload_n 1, 1) := by decide +kernel
theorem d_M_set_2 : decode b_M_set 2 = .ok (.iconst 1, 1) := by decide +kernel
theorem d_M_set_3 : decode b_M_set 3 = .ok (.invokevirtual 54, 3) := by decide +kernel
theorem d_M_set_6 : decode b_M_set 6 = .ok (.ifCond .eq 13, 3) := by decide +kernel
theorem d_M_set_9 : decode b_M_set 9 = .ok (.aload_n 0, 1) := by decide +kernel
theorem d_M_set_10 : decode b_M_set 10 = .ok (.iload_n 3, 1) := by decide +kernel
theorem d_M_set_11 : decode b_M_set 11 = .ok (.iload 4, 2) := by decide +kernel
theorem d_M_set_13 : decode b_M_set 13 = .ok (.invokevirtual 58, 3) := by decide +kernel
theorem d_M_set_16 : decode b_M_set 16 = .ok (.ifCond .ne 5, 3) := by decide +kernel
theorem d_M_set_19 : decode b_M_set 19 = .ok (.iconst (-1), 1) := by decide +kernel
theorem d_M_set_20 : decode b_M_set 20 = .ok (.ireturn, 1) := by decide +kernel
theorem d_M_set_21 : decode b_M_set 21 = .ok (.aload_n 0, 1) := by decide +kernel
theorem d_M_set_22 : decode b_M_set 22 = .ok (.getfield 10, 3) := by decide +kernel
theorem d_M_set_25 : decode b_M_set 25 = .ok (.iload_n 1, 1) := by decide +kernel
theorem d_M_set_26 : decode b_M_set 26 = .ok (.iload_n 2, 1) := by decide +kernel
theorem d_M_set_27 : decode b_M_set 27 = .ok (.invokevirtual 61, 3) := by decide +kernel
theorem d_M_set_30 : decode b_M_set 30 = .ok (.istore 5, 2) := by decide +kernel
theorem d_M_set_32 : decode b_M_set 32 = .ok (.bipush 8, 2) := by decide +kernel
theorem d_M_set_34 : decode b_M_set 34 = .ok (.iload_n 1, 1) := by decide +kernel
theorem d_M_set_35 : decode b_M_set 35 = .ok (.imul, 1) := by decide +kernel
theorem d_M_set_36 : decode b_M_set 36 = .ok (.istore 6, 2) := by decide +kernel
theorem d_M_set_38 : decode b_M_set 38 = .ok (.bipush 20, 2) := by decide +kernel
theorem d_M_set_40 : decode b_M_set 40 = .ok (.iload_n 1, 1) := by decide +kernel
theorem d_M_set_41 : decode b_M_set 41 = .ok (.imul, 1) := by decide +kernel
theorem d_M_set_42 : decode b_M_set 42 = .ok (.istore 7, 2) := by decide +kernel
theorem d_M_set_44 : decode b_M_set 44 = .ok (.iload_n 3, 1) := by decide +kernel
theorem d_M_set_45 : decode b_M_set 45 = .ok (.ifCond .ne 121, 3) := by decide +kernel
theorem d_M_set_48 : decode b_M_set 48 = .ok (.iload 5, 2) := by decide +kernel
theorem d_M_set_50 : decode b_M_set 50 = .ok (.ifCond .ge 13, 3) := by decide +kernel
theorem d_M_set_53 : decode b_M_set 53 = .ok (.aload_n 0, 1) := by decide +kernel
theorem d_M_set_54 : decode b_M_set 54 = .ok (.getfield 10, 3) := by decide +kernel
theorem d_M_set_57 : decode b_M_set 57 = .ok (.getfield 51, 3) := by decide +kernel
theorem d_M_set_60 : decode b_M_set 60 = .ok (.iload_n 1, 1) := by decide +kernel
theorem d_M_set_61 : decode b_M_set 61 = .ok (.iaload, 1) := by decide +kernel
theorem d_M_set_62 : decode b_M_set 62 = .ok (.ireturn, 1) := by decide +kernel
theorem d_M_set_63 : decode b_M_set 63 = .ok (.aload_n 0, 1) := by decide +kernel
theorem d_M_set_64 : decode b_M_set 64 = .ok (.getfield 10, 3) := by decide +kernel
theorem d_M_set_67 : decode b_M_set 67 = .ok (.getfield 51, 3) := by decide +kernel
theorem d_M_set_70 : decode b_M_set 70 = .ok (.iload_n 1, 1) := by decide +kernel
theorem d_M_set_71 : decode b_M_set 71 = .ok (.dup2, 1) := by decide +kernel
theorem d_M_set_72 : decode b_M_set 72 = .ok (.iaload, 1) := by decide +kernel
theorem d_M_set_73 : decode b_M_set 73 = .ok (.iconst 1, 1) := by decide +kernel
theorem d_M_set_74 : decode b_M_set 74 = .ok (.isub, 1) := by decide +kernel
theorem d_M_set_75 : decode b_M_set 75 = .ok (.iastore, 1) := by decide +kernel
theorem d_M_set_76 : decode b_M_set 76 = .ok (.iload 5, 2) := by decide +kernel
theorem d_M_set_78 : decode b_M_set 78 = .ok (.istore 8, 2) := by decide +kernel
theorem d_M_set_80 : decode b_M_set 80 = .ok (.iload 8, 2) := by decide +kernel
theorem d_M_set_82 : decode b_M_set 82 = .ok (.aload_n 0, 1) := by decide +kernel
theorem d_M_set_83 : decode b_M_set 83 = .ok (.getfield 10, 3) := by decide +kernel
theorem d_M_set_86 : decode b_M_set 86 = .ok (.getfield 51, 3) := by decide +kernel
theorem d_M_set_89 : decode b_M_set 89 = .ok (.iload_n 1, 1) := by decide +kernel
theorem d_M_set_90 : decode b_M_set 90 = .ok (.iaload, 1) := by decide +kernel
theorem d_M_set_91 : decode b_M_set 91 = .ok (.if_icmp .ge 65, 3) := by decide +kernel
theorem d_M_set_94 : decode b_M_set 94 = .ok (.aload_n 0, 1) := by decide +kernel
theorem d_M_set_95 : decode b_M_set 95 = .ok (.getfield 10, 3) := by decide +kernel
theorem d_M_set_98 : decode b_M_set 98 = .ok (.getfield 65, 3) := by decide +kernel
theorem d_M_set_101 : decode b_M_set 101 = .ok (.iload 6, 2) := by decide +kernel
theorem d_M_set_103 : decode b_M_set 103 = .ok (.iload 8, 2) := by decide +kernel
theorem d_M_set_105 : decode b_M_set 105 = .ok (.iadd, 1) := by decide +kernel
theorem d_M_set_106 : decode b_M_set 106 = .ok (.aload_n 0, 1) := by decide +kernel
theorem d_M_set_107 : decode b_M_set 107 = .ok (.getfield 10, 3) := by decide +kernel
theorem d_M_set_110 : decode b_M_set 110 = .ok (.getfield 65, 3) := by decide +kernel
theorem d_M_set_113 : decode b_M_set 113 = .ok (.iload 6, 2) := by decide +kernel
theorem d_M_set_115 : decode b_M_set 115 = .ok (.iload 8, 2) := by decide +kernel
theorem d_M_set_117 : decode b_M_set 117 = .ok (.iadd, 1) := by decide +kernel
theorem d_M_set_118 : decode b_M_set 118 = .ok (.iconst 1, 1) := by decide +kernel
theorem d_M_set_119 : decode b_M_set 119 = .ok (.iadd, 1) := by decide +kernel
theorem d_M_set_120 : decode b_M_set 120 = .ok (.iaload, 1) := by decide +kernel
theorem d_M_set_121 : decode b_M_set 121 = .ok (.iastore, 1) := by decide +kernel
theorem d_M_set_122 : decode b_M_set 122 = .ok (.aload_n 0, 1) := by decide +kernel
theorem d_M_set_123 : decode b_M_set 123 = .ok (.getfield 10, 3) := by decide +kernel
theorem d_M_set_126 : decode b_M_set 126 = .ok (.getfield 68, 3) := by decide +kernel
theorem d_M_set_129 : decode b_M_set 129 = .ok (.iload 7, 2) := by decide +kernel
theorem d_M_set_131 : decode b_M_set 131 = .ok (.iload 8, 2) := by decide +kernel
theorem d_M_set_133 : decode b_M_set 133 = .ok (.iadd, 1) := by decide +kernel
theorem d_M_set_134 : decode b_M_set 134 = .ok (.aload_n 0, 1) := by decide +kernel
theorem d_M_set_135 : decode b_M_set 135 = .ok (.getfield 10, 3) := by decide +kernel
theorem d_M_set_138 : decode b_M_set 138 = .ok (.getfield 68, 3) := by decide +kernel
theorem d_M_set_141 : decode b_M_set 141 = .ok (.iload 7, 2) := by decide +kernel
theorem d_M_set_143 : decode b_M_set 143 = .ok (.iload 8, 2) := by decide +kernel
theorem d_M_set_145 : decode b_M_set 145 = .ok (.iadd, 1) := by decide +kernel
theorem d_M_set_146 : decode b_M_set 146 = .ok (.iconst 1, 1) := by decide +kernel
theorem d_M_set_147 : decode b_M_set 147 = .ok (.iadd, 1) := by decide +kernel
theorem d_M_set_148 : decode b_M_set 148 = .ok (.laload, 1) := by decide +kernel
theorem d_M_set_149 : decode b_M_set 149 = .ok (.lastore, 1) := by decide +kernel
theorem d_M_set_150 : decode b_M_set 150 = .ok (.iinc 8 1, 3) := by decide +kernel
theorem d_M_set_153 : decode b_M_set 153 = .ok (.goto (-73), 3) := by decide +kernel
theorem d_M_set_156 : decode b_M_set 156 = .ok (.aload_n 0, 1) := by decide +kernel
theorem d_M_set_157 : decode b_M_set 157 = .ok (.getfield 10, 3) := by decide +kernel
theorem d_M_set_160 : decode b_M_set 160 = .ok (.getfield 51, 3) := by decide +kernel
theorem d_M_set_163 : decode b_M_set 163 = .ok (.iload_n 1, 1) := by decide +kernel
theorem d_M_set_164 : decode b_M_set 164 = .ok (.iaload, 1) := by decide +kernel
theorem d_M_set_165 : decode b_M_set 165 = .ok (.ireturn, 1) := by decide +kernel
theorem d_M_set_166 : decode b_M_set 166 = .ok (.iload 5, 2) := by decide +kernel
theorem d_M_set_168 : decode b_M_set 168 = .ok (.ifCond .ge 58, 3) := by decide +kernel
theorem d_M_set_171 : decode b_M_set 171 = .ok (.aload_n 0, 1) := by decide +kernel
theorem d_M_set_172 : decode b_M_set 172 = .ok (.getfield 10, 3) := by decide +kernel
theorem d_M_set_175 : decode b_M_set 175 = .ok (.getfield 51, 3) := by decide +kernel
theorem d_M_set_178 : decode b_M_set 178 = .ok (.iload_n 1, 1) := by decide +kernel
theorem d_M_set_179 : decode b_M_set 179 = .ok (.iaload, 1) := by decide +kernel
theorem d_M_set_180 : decode b_M_set 180 = .ok (.bipush 8, 2) := by decide +kernel
theorem d_M_set_182 : decode b_M_set 182 = .ok (.if_icmp .ne 6, 3) := by decide +kernel
theorem d_M_set_185 : decode b_M_set 185 = .ok (.bipush (-3), 2) := by decide +kernel
theorem d_M_set_187 : decode b_M_set 187 = .ok (.ireturn, 1) := by decide +kernel
theorem d_M_set_188 : decode b_M_set 188 = .ok (.aload_n 0, 1) := by decide +kernel
theorem d_M_set_189 : decode b_M_set 189 = .ok (.getfield 10, 3) := by decide +kernel
theorem d_M_set_192 : decode b_M_set 192 = .ok (.getfield 51, 3) := by decide +kernel
theorem d_M_set_195 : decode b_M_set 195 = .ok (.iload_n 1, 1) := by decide +kernel
theorem d_M_set_196 : decode b_M_set 196 = .ok (.iaload, 1) := by decide +kernel
theorem d_M_set_197 : decode b_M_set 197 = .ok (.istore 5, 2) := by decide +kernel
theorem d_M_set_199 : decode b_M_set 199 = .ok (.aload_n 0, 1) := by decide +kernel
theorem d_M_set_200 : decode b_M_set 200 = .ok (.getfield 10, 3) := by decide +kernel
theorem d_M_set_203 : decode b_M_set 203 = .ok (.getfield 51, 3) := by decide +kernel
theorem d_M_set_206 : decode b_M_set 206 = .ok (.iload_n 1, 1) := by decide +kernel
theorem d_M_set_207 : decode b_M_set 207 = .ok (.dup2, 1) := by decide +kernel
theorem d_M_set_208 : decode b_M_set 208 = .ok (.iaload, 1) := by decide +kernel
theorem d_M_set_209 : decode b_M_set 209 = .ok (.iconst 1, 1) := by decide +kernel
theorem d_M_set_210 : decode b_M_set 210 = .ok (.iadd, 1) := by decide +kernel
theorem d_M_set_211 : decode b_M_set 211 = .ok (.iastore, 1) := by decide +kernel
theorem d_M_set_212 : decode b_M_set 212 = .ok (.aload_n 0, 1) := by decide +kernel
theorem d_M_set_213 : decode b_M_set 213 = .ok (.getfield 10, 3) := by decide +kernel
theorem d_M_set_216 : decode b_M_set 216 = .ok (.getfield 65, 3) := by decide +kernel
theorem d_M_set_219 : decode b_M_set 219 = .ok (.iload 6, 2) := by decide +kernel
theorem d_M_set_221 : decode b_M_set 221 = .ok (.iload 5, 2) := by decide +kernel
theorem d_M_set_223 : decode b_M_set 223 = .ok (.iadd, 1) := by decide +kernel
theorem d_M_set_224 : decode b_M_set 224 = .ok (.iload_n 2, 1) := by decide +kernel
theorem d_M_set_225 : decode b_M_set 225 = .ok (.iastore, 1) := by decide +kernel
theorem d_M_set_226 : decode b_M_set 226 = .ok (.aload_n 0, 1) := by decide +kernel
theorem d_M_set_227 : decode b_M_set 227 = .ok (.getfield 10, 3) := by decide +kernel
theorem d_M_set_230 : decode b_M_set 230 = .ok (.getfield 68, 3) := by decide +kernel
theorem d_M_set_233 : decode b_M_set 233 = .ok (.iload 7, 2) := by decide +kernel
theorem d_M_set_235 : decode b_M_set 235 = .ok (.iload 5, 2) := by decide +kernel
theorem d_M_set_237 : decode b_M_set 237 = .ok (.iadd, 1) := by decide +kernel
theorem d_M_set_238 : decode b_M_set 238 = .ok (.iload_n 3, 1) := by decide +kernel
theorem d_M_set_239 : decode b_M_set 239 = .ok (.iload 4, 2) := by decide +kernel
theorem d_M_set_241 : decode b_M_set 241 = .ok (.invokestatic 72, 3) := by decide +kernel
theorem d_M_set_244 : decode b_M_set 244 = .ok (.lastore, 1) := by decide +kernel
theorem d_M_set_245 : decode b_M_set 245 = .ok (.aload_n 0, 1) := by decide +kernel
theorem d_M_set_246 : decode b_M_set 246 = .ok (.getfield 10, 3) := by decide +kernel
theorem d_M_set_249 : decode b_M_set 249 = .ok (.getfield 51, 3) := by decide +kernel
theorem d_M_set_252 : decode b_M_set 252 = .ok (.iload_n 1, 1) := by decide +kernel
theorem d_M_set_253 : decode b_M_set 253 = .ok (.iaload, 1) := by decide +kernel
theorem d_M_set_254 : decode b_M_set 254 = .ok (.ireturn, 1) := by decide +kernel
theorem d_S_named_0 : decode b_S_named 0 = .ok (.aload_n 0, 1) := by decide +kernel
theorem d_S_named_1 : decode b_S_named 1 = .ok (.iload_n 1, 1) := by decide +kernel
theorem d_S_named_2 : decode b_S_named 2 = .ok (.invokevirtual 35, 3) := by decide +kernel
theorem d_S_named_5 : decode b_S_named 5 = .ok (.istore_n 2, 1) := by decide +kernel
theorem d_S_named_6 : decode b_S_named 6 = .ok (.iload_n 2, 1) := by decide +kernel
theorem d_S_named_7 : decode b_S_named 7 = .ok (.aload_n 0, 1) := by decide +kernel
theorem d_S_named_8 : decode b_S_named 8 = .ok (.getfield 9, 3) := by decide +kernel
theorem d_S_named_11 : decode b_S_named 11 = .ok (.if_icmp .ge 12, 3) := by decide +kernel
theorem d_S_named_14 : decode b_S_named 14 = .ok (.aload_n 0, 1) := by decide +kernel
theorem d_S_named_15 : decode b_S_named 15 = .ok (.getfield 22, 3) := by decide +kernel
theorem d_S_named_18 : decode b_S_named 18 = .ok (.iload_n 2, 1) := by decide +kernel
theorem d_S_named_19 : decode b_S_named 19 = .ok (.laload, 1) := by decide +kernel
theorem d_S_named_20 : decode b_S_named 20 = .ok (.goto 6, 3) := by decide +kernel
theorem d_S_named_23 : decode b_S_named 23 = .ok (.ldc2_w 39, 3) := by decide +kernel
theorem d_S_named_26 : decode b_S_named 26 = .ok (.lreturn, 1) := by decide +kernel
theorem d_K_get_0 : decode b_K_get 0 = .ok (.aload_n 0, 1) := by decide +kernel
theorem d_K_get_1 : decode b_K_get 1 = .ok (.getfield 44, 3) := by decide +kernel
theorem d_K_get_4 : decode b_K_get 4 = .ok (.iload_n 1, 1) := by decide +kernel
theorem d_K_get_5 : decode b_K_get 5 = .ok (.iconst 1, 1) := by decide +kernel
theorem d_K_get_6 : decode b_K_get 6 = .ok (.invokevirtual 66, 3) := by decide +kernel
theorem d_K_get_9 : decode b_K_get 9 = .ok (.astore_n 3, 1) := by decide +kernel
theorem d_K_get_10 : decode b_K_get 10 = .ok (.aload_n 3, 1) := by decide +kernel
theorem d_K_get_11 : decode b_K_get 11 = .ok (.ifnonnull 9, 3) := by decide +kernel
theorem d_K_get_14 : decode b_K_get 14 = .ok (.ldc2_w 60, 3) := by decide +kernel
theorem d_K_get_17 : decode b_K_get 17 = .ok (.goto 8, 3) := by decide +kernel
theorem d_K_get_20 : decode b_K_get 20 = .ok (.aload_n 3, 1) := by decide +kernel
theorem d_K_get_21 : decode b_K_get 21 = .ok (.iload_n 2, 1) := by decide +kernel
theorem d_K_get_22 : decode b_K_get 22 = .ok (.invokevirtual 69, 3) := by decide +kernel
theorem d_K_get_25 : decode b_K_get 25 = .ok (.lreturn, 1) := by decide +kernel
end
section
theorem d_M_get_0 : decode b_M_get 0 = .ok (.aload_n 0, 1) := by decide +kernel
theorem d_M_get_1 : decode b_M_get 1 = .ok (.iload_n 1, 1) := by decide +kernel
theorem d_M_get_2 : decode b_M_get 2 = .ok (.iconst 1, 1) := by decide +kernel
theorem d_M_get_3 : decode b_M_get 3 = .ok (.invokevirtual 54, 3) := by decide +kernel
theorem d_M_get_6 : decode b_M_get 6 = .ok (.ifCond .ne 7, 3) := by decide +kernel
theorem d_M_get_9 : decode b_M_get 9 = .ok (.ldc2_w 76, 3) := by decide +kernel
theorem d_M_get_12 : decode b_M_get 12 = .ok (.lreturn, 1) := by decide +kernel
theorem d_M_get_13 : decode b_M_get 13 = .ok (.aload_n 0, 1) := by decide +kernel
theorem d_M_get_14 : decode b_M_get 14 = .ok (.getfield 10, 3) := by decide +kernel
theorem d_M_get_17 : decode b_M_get 17 = .ok (.iload_n 1, 1) := by decide +kernel
theorem d_M_get_18 : decode b_M_get 18 = .ok (.iload_n 2, 1) := by decide +kernel
theorem d_M_get_19 : decode b_M_get 19 = .ok (.invokevirtual 61, 3) := by decide +kernel
theorem d_M_get_22 : decode b_M_get 22 = .ok (.istore_n 3, 1) := by decide +kernel
theorem d_M_get_23 : decode b_M_get 23 = .ok (.iload_n 3, 1) := by decide +kernel
theorem d_M_get_24 : decode b_M_get 24 = .ok (.ifCond .ge 9, 3) := by decide +kernel
theorem d_M_get_27 : decode b_M_get 27 = .ok (.ldc2_w 47, 3) := by decide +kernel
theorem d_M_get_30 : decode b_M_get 30 = .ok (.goto 17, 3) := by decide +kernel
theorem d_M_get_33 : decode b_M_get 33 = .ok (.aload_n 0, 1) := by decide +kernel
theorem d_M_get_34 : decode b_M_get 34 = .ok (.getfield 10, 3) := by decide +kernel
theorem d_M_get_37 : decode b_M_get 37 = .ok (.getfield 68, 3) := by decide +kernel
theorem d_M_get_40 : decode b_M_get 40 = .ok (.bipush 20, 2) := by decide +kernel
theorem d_M_get_42 : decode b_M_get 42 = .ok (.iload_n 1, 1) := by decide +kernel
theorem d_M_get_43 : decode b_M_get 43 = .ok (.imul, 1) := by decide +kernel
theorem d_M_get_44 : decode b_M_get 44 = .ok (.iload_n 3, 1) := by decide +kernel
theorem d_M_get_45 : decode b_M_get 45 = .ok (.iadd, 1) := by decide +kernel
theorem d_M_get_46 : decode b_M_get 46 = .ok (.laload, 1) := by decide +kernel
theorem d_M_get_47 : decode b_M_get 47 = .ok (.lreturn, 1) := by decide +kernel
theorem d_K_push_0 : decode b_K_push 0 = .ok (.aload_n 0, 1) := by decide +kernel
theorem d_K_push_1 : decode b_K_push 1 = .ok (.iload_n 2, 1) := by decide +kernel
theorem d_K_push_2 : decode b_K_push 2 = .ok (.iload_n 3, 1) := by decide +kernel
theorem d_K_push_3 : decode b_K_push 3 = .ok (.invokevirtual 52, 3) := by decide +kernel
theorem d_K_push_6 : decode b_K_push 6 = .ok (.lstore 4, 2) := by decide +kernel
theorem d_K_push_8 : decode b_K_push 8 = .ok (.aload_n 0, 1) := by decide +kernel
theorem d_K_push_9 : decode b_K_push 9 = .ok (.iload_n 1, 1) := by decide +kernel
theorem d_K_push_10 : decode b_K_push 10 = .ok (.iconst 2, 1) := by decide +kernel
theorem d_K_push_11 : decode b_K_push 11 = .ok (.invokevirtual 56, 3) := by decide +kernel
theorem d_K_push_14 : decode b_K_push 14 = .ok (.astore 6, 2) := by decide +kernel
theorem d_K_push_16 : decode b_K_push 16 = .ok (.lload 4, 2) := by decide +kernel
theorem d_K_push_18 : decode b_K_push 18 = .ok (.ldc2_w 60, 3) := by decide +kernel
theorem d_K_push_21 : decode b_K_push 21 = .ok (.lcmp, 1) := by decide +kernel
theorem d_K_push_22 : decode b_K_push 22 = .ok (.ifCond .eq 8, 3) := by decide +kernel
theorem d_K_push_25 : decode b_K_push 25 = .ok (.aload 6, 2) := by decide +kernel
theorem d_K_push_27 : decode b_K_push 27 = .ok (.ifnonnull 7, 3) := by decide +kernel
theorem d_K_push_30 : decode b_K_push 30 = .ok (.iconst (-1), 1) := by decide +kernel
theorem d_K_push_31 : decode b_K_push 31 = .ok (.goto 11, 3) := by decide +kernel
theorem d_K_push_34 : decode b_K_push 34 = .ok (.aload 6, 2) := by decide +kernel
theorem d_K_push_36 : decode b_K_push 36 = .ok (.iconst 0, 1) := by decide +kernel
theorem d_K_push_37 : decode b_K_push 37 = .ok (.lload 4, 2) := by decide +kernel
theorem d_K_push_39 : decode b_K_push 39 = .ok (.invokevirtual 73, 3) := by decide +kernel
theorem d_K_push_42 : decode b_K_push 42 = .ok (.ireturn, 1) := by decide +kernel
theorem d_M_push_0 : decode b_M_push 0 = .ok (.aload_n 0, 1) := by decide +kernel
theorem d_M_push_1 : decode b_M_push 1 = .ok (.iload_n 1, 1) := by decide +kernel
theorem d_M_push_2 : decode b_M_push 2 = .ok (.iconst 2, 1) := by decide +kernel
theorem d_M_push_3 : decode b_M_push 3 = .ok (.invokevirtual 54, 3) := by decide +kernel
theorem d_M_push_6 : decode b_M_push 6 = .ok (.ifCond .eq 12, 3) := by decide +kernel
theorem d_M_push_9 : decode b_M_push 9 = .ok (.aload_n 0, 1) := by decide +kernel
theorem d_M_push_10 : decode b_M_push 10 = .ok (.iload_n 2, 1) := by decide +kernel
theorem d_M_push_11 : decode b_M_push 11 = .ok (.iload_n 3, 1) := by decide +kernel
theorem d_M_push_12 : decode b_M_push 12 = .ok (.invokevirtual 58, 3) := by decide +kernel
theorem d_M_push_15 : decode b_M_push 15 = .ok (.ifCond .ne 5, 3) := by decide +kernel
theorem d_M_push_18 : decode b_M_push 18 = .ok (.iconst (-1), 1) := by decide +kernel
theorem d_M_push_19 : decode b_M_push 19 = .ok (.ireturn, 1) := by decide +kernel
theorem d_M_push_20 : decode b_M_push 20 = .ok (.aload_n 0, 1) := by decide +kernel
theorem d_M_push_21 : decode b_M_push 21 = .ok (.getfield 10, 3) := by decide +kernel
theorem d_M_push_24 : decode b_M_push 24 = .ok (.getfield 51, 3) := by decide +kernel
theorem d_M_push_27 : decode b_M_push 27 = .ok (.iload_n 1, 1) := by decide +kernel
theorem d_M_push_28 : decode b_M_push 28 = .ok (.iaload, 1) := by decide +kernel
theorem d_M_push_29 : decode b_M_push 29 = .ok (.bipush 20, 2) := by decide +kernel
theorem d_M_push_31 : decode b_M_push 31 = .ok (.if_icmp .ne 6, 3) := by decide +kernel
theorem d_M_push_34 : decode b_M_push 34 = .ok (.bipush (-3), 2) := by decide +kernel
theorem d_M_push_36 : decode b_M_push 36 = .ok (.ireturn, 1) := by decide +kernel
theorem d_M_push_37 : decode b_M_push 37 = .ok (.aload_n 0, 1) := by decide +kernel
theorem d_M_push_38 : decode b_M_push 38 = .ok (.getfield 10, 3) := by decide +kernel
theorem d_M_push_41 : decode b_M_push 41 = .ok (.getfield 68, 3) := by decide +kernel
theorem d_M_push_44 : decode b_M_push 44 = .ok (.bipush 20, 2) := by decide +kernel
theorem d_M_push_46 : decode b_M_push 46 = .ok (.iload_n 1, 1) := by decide +kernel
theorem d_M_push_47 : decode b_M_push 47 = .ok (.imul, 1) := by decide +kernel
theorem d_M_push_48 : decode b_M_push 48 = .ok (.aload_n 0, 1) := by decide +kernel
theorem d_M_push_49 : decode b_M_push 49 = .ok (.getfield 10, 3) := by decide +kernel
theorem d_M_push_52 : decode b_M_push 52 = .ok (.getfield 51, 3) := by decide +kernel
theorem d_M_push_55 : decode b_M_push 55 = .ok (.iload_n 1, 1) := by decide +kernel
theorem d_M_push_56 : decode b_M_push 56 = .ok (.iaload, 1) := by decide +kernel
theorem d_M_push_57 : decode b_M_push 57 = .ok (.iadd, 1) := by decide +kernel
theorem d_M_push_58 : decode b_M_push 58 = .ok (.iload_n 2, 1) := by decide +kernel
theorem d_M_push_59 : decode b_M_push 59 = .ok (.iload_n 3, 1) := by decide +kernel
theorem d_M_push_60 : decode b_M_push 60 = .ok (.invokestatic 72, 3) := by decide +kernel
theorem d_M_push_63 : decode b_M_push 63 = .ok (.lastore, 1) := by decide +kernel
theorem d_M_push_64 : decode b_M_push 64 = .ok (.aload_n 0, 1) := by decide +kernel
theorem d_M_push_65 : decode b_M_push 65 = .ok (.getfield 10, 3) := by decide +kernel
theorem d_M_push_68 : decode b_M_push 68 = .ok (.getfield 51, 3) := by decide +kernel
theorem d_M_push_71 : decode b_M_push 71 = .ok (.iload_n 1, 1) := by decide +kernel
theorem d_M_push_72 : decode b_M_push 72 = .ok (.dup2, 1) := by decide +kernel
theorem d_M_push_73 : decode b_M_push 73 = .ok (.iaload, 1) := by decide +kernel
theorem d_M_push_74 : decode b_M_push 74 = .ok (.iconst 1, 1) := by decide +kernel
theorem d_M_push_75 : decode b_M_push 75 = .ok (.iadd, 1) := by decide +kernel
theorem d_M_push_76 : decode b_M_push 76 = .ok (.iastore, 1) := by decide +kernel
theorem d_M_push_77 : decode b_M_push 77 = .ok (.aload_n 0, 1) := by decide +kernel
theorem d_M_push_78 : decode b_M_push 78 = .ok (.getfield 10, 3) := by decide +kernel
theorem d_M_push_81 : decode b_M_push 81 = .ok (.getfield 51, 3) := by decide +kernel
theorem d_M_push_84 : decode b_M_push 84 = .ok (.iload_n 1, 1) := by decide +kernel
theorem d_M_push_85 : decode b_M_push 85 = .ok (.iaload, 1) := by decide +kernel
theorem d_M_push_86 : decode b_M_push 86 = .ok (.ireturn, 1) := by decide +kernel
theorem d_S_takeLast_0 : decode b_S_takeLast 0 = .ok (.aload_n 0, 1) := by decide +kernel
theorem d_S_takeLast_1 : decode b_S_takeLast 1 = .ok (.getfield 9, 3) := by decide +kernel
theorem d_S_takeLast_4 : decode b_S_takeLast 4 = .ok (.ifCond .ne 7, 3) := by decide +kernel
theorem d_S_takeLast_7 : decode b_S_takeLast 7 = .ok (.ldc2_w 53, 3) := by decide +kernel
theorem d_S_takeLast_10 : decode b_S_takeLast 10 = .ok (.lreturn, 1) := by decide +kernel
theorem d_S_takeLast_11 : decode b_S_takeLast 11 = .ok (.aload_n 0, 1) := by decide +kernel
theorem d_S_takeLast_12 : decode b_S_takeLast 12 = .ok (.dup, 1) := by decide +kernel
theorem d_S_takeLast_13 : decode b_S_takeLast 13 = .ok (.getfield 9, 3) := by decide +kernel
theorem d_S_takeLast_16 : decode b_S_takeLast 16 = .ok (.iconst 1, 1) := by decide +kernel
theorem d_S_takeLast_17 : decode b_S_takeLast 17 = .ok (.isub, 1) := by decide +kernel
theorem d_S_takeLast_18 : decode b_S_takeLast 18 = .ok (.putfield 9, 3) := by decide +kernel
theorem d_S_takeLast_21 : decode b_S_takeLast 21 = .ok (.aload_n 0, 1) := by decide +kernel
theorem d_S_takeLast_22 : decode b_S_takeLast 22 = .ok (.getfield 22, 3) := by decide +kernel
theorem d_S_takeLast_25 : decode b_S_takeLast 25 = .ok (.aload_n 0, 1) := by decide +kernel
theorem d_S_takeLast_26 : decode b_S_takeLast 26 = .ok (.getfield 9, 3) := by decide +kernel
theorem d_S_takeLast_29 : decode b_S_takeLast 29 = .ok (.laload, 1) := by decide +kernel
theorem d_S_takeLast_30 : decode b_S_takeLast 30 = .ok (.lreturn, 1) := by decide +kernel
theorem d_K_pop_0 : decode b_K_pop 0 = .ok (.aload_n 0, 1) := by decide +kernel
theorem d_K_pop_1 : decode b_K_pop 1 = .ok (.iload_n 1, 1) := by decide +kernel
theorem d_K_pop_2 : decode b_K_pop 2 = .ok (.iconst 2, 1) := by decide +kernel
theorem d_K_pop_3 : decode b_K_pop 3 = .ok (.invokevirtual 56, 3) := by decide +kernel
theorem d_K_pop_6 : decode b_K_pop 6 = .ok (.astore_n 2, 1) := by decide +kernel
theorem d_K_pop_7 : decode b_K_pop 7 = .ok (.aload_n 2, 1) := by decide +kernel
theorem d_K_pop_8 : decode b_K_pop 8 = .ok (.ifnonnull 9, 3) := by decide +kernel
theorem d_K_pop_11 : decode b_K_pop 11 = .ok (.ldc2_w 60, 3) := by decide +kernel
theorem d_K_pop_14 : decode b_K_pop 14 = .ok (.goto 7, 3) := by decide +kernel
theorem d_K_pop_17 : decode b_K_pop 17 = .ok (.aload_n 2, 1) := by decide +kernel
theorem d_K_pop_18 : decode b_K_pop 18 = .ok (.invokevirtual 76, 3) := by decide +kernel
theorem d_K_pop_21 : decode b_K_pop 21 = .ok (.lreturn, 1) := by decide +kernel
theorem d_M_pop_0 : decode b_M_pop 0 = .ok (.aload_n 0, 1) := by decide +kernel
theorem d_M_pop_1 : decode b_M_pop 1 = .ok (.iload_n 1, 1) := by decide +kernel
theorem d_M_pop_2 : decode b_M_pop 2 = .ok (.iconst 2, 1) := by decide +kernel
theorem d_M_pop_3 : decode b_M_pop 3 = .ok (.invokevirtual 54, 3) := by decide +kernel
theorem d_M_pop_6 : decode b_M_pop 6 = .ok (.ifCond .eq 15, 3) := by decide +kernel
theorem d_M_pop_9 : decode b_M_pop 9 = .ok (.aload_n 0, 1) := by decide +kernel
theorem d_M_pop_10 : decode b_M_pop 10 = .ok (.getfield 10, 3) := by decide +kernel
theorem d_M_pop_13 : decode b_M_pop 13 = .ok (.getfield 51, 3) := by decide +kernel
theorem d_M_pop_16 : decode b_M_pop 16 = .ok (.iload_n 1, 1) := by decide +kernel
theorem d_M_pop_17 : decode b_M_pop 17 = .ok (.iaload, 1) := by decide +kernel
theorem d_M_pop_18 : decode b_M_pop 18 = .ok (.ifCond .ne 7, 3) := by decide +kernel
theorem d_M_pop_21 : decode b_M_pop 21 = .ok (.ldc2_w 76, 3) := by decide +kernel
theorem d_M_pop_24 : decode b_M_pop 24 = .ok (.lreturn, 1) := by decide +kernel
theorem d_M_pop_25 : decode b_M_pop 25 = .ok (.aload_n 0, 1) := by decide +kernel
theorem d_M_pop_26 : decode b_M_pop 26 = .ok (.getfield 10, 3) := by decide +kernel
theorem d_M_pop_29 : decode b_M_pop 29 = .ok (.getfield 51, 3) := by decide +kernel
theorem d_M_pop_32 : decode b_M_pop 32 = .ok (.iload_n 1, 1) := by decide +kernel
theorem d_M_pop_33 : decode b_M_pop 33 = .ok (.dup2, 1) := by decide +kernel
theorem d_M_pop_34 : decode b_M_pop 34 = .ok (.iaload, 1) := by decide +kernel
theorem d_M_pop_35 : decode b_M_pop 35 = .ok (.iconst 1, 1) := by decide +kernel
theorem d_M_pop_36 : decode b_M_pop 36 = .ok (.isub, 1) := by decide +kernel
theorem d_M_pop_37 : decode b_M_pop 37 = .ok (.iastore, 1) := by decide +kernel
theorem d_M_pop_38 : decode b_M_pop 38 = .ok (.aload_n 0, 1) := by decide +kernel
theorem d_M_pop_39 : decode b_M_pop 39 = .ok (.getfield 10, 3) := by decide +kernel
theorem d_M_pop_42 : decode b_M_pop 42 = .ok (.getfield 68, 3) := by decide +kernel
theorem d_M_pop_45 : decode b_M_pop 45 = .ok (.bipush 20, 2) := by decide +kernel
theorem d_M_pop_47 : decode b_M_pop 47 = .ok (.iload_n 1, 1) := by decide +kernel
theorem d_M_pop_48 : decode b_M_pop 48 = .ok (.imul, 1) := by decide +kernel
theorem d_M_pop_49 : decode b_M_pop 49 = .ok (.aload_n 0, 1) := by decide +kernel
theorem d_M_pop_50 : decode b_M_pop 50 = .ok (.getfield 10, 3) := by decide +kernel
theorem d_M_pop_53 : decode b_M_pop 53 = .ok (.getfield 51, 3) := by decide +kernel
theorem d_M_pop_56 : decode b_M_pop 56 = .ok (.iload_n 1, 1) := by decide +kernel
theorem d_M_pop_57 : decode b_M_pop 57 = .ok (.iaload, 1) := by decide +kernel
theorem d_M_pop_58 : decode b_M_pop 58 = .ok (.iadd, 1) := by decide +kernel
theorem d_M_pop_59 : decode b_M_pop 59 = .ok (.laload, 1) := by decide +kernel
theorem d_M_pop_60 : decode b_M_pop 60 = .ok (.lreturn, 1) := by decide +kernel
theorem d_K_put_0 : decode b_K_put 0 = .ok (.aload_n 0, 1) := by decide +kernel
theorem d_K_put_1 : decode b_K_put 1 = .ok (.iload_n 3, 1) := by decide +kernel
theorem d_K_put_2 : decode b_K_put 2 = .ok (.iload 4, 2) := by decide +kernel
theorem d_K_put_4 : decode b_K_put 4 = .ok (.invokevirtual 52, 3) := by decide +kernel
theorem d_K_put_7 : decode b_K_put 7 = .ok (.lstore 5, 2) := by decide +kernel
theorem d_K_put_9 : decode b_K_put 9 = .ok (.aload_n 0, 1) := by decide +kernel
theorem d_K_put_10 : decode b_K_put 10 = .ok (.iload_n 1, 1) := by decide +kernel
theorem d_K_put_11 : decode b_K_put 11 = .ok (.iconst 2, 1) := by decide +kernel
theorem d_K_put_12 : decode b_K_put 12 = .ok (.invokevirtual 56, 3) := by decide +kernel
theorem d_K_put_15 : decode b_K_put 15 = .ok (.astore 7, 2) := by decide +kernel
theorem d_K_put_17 : decode b_K_put 17 = .ok (.lload 5, 2) := by decide +kernel
theorem d_K_put_19 : decode b_K_put 19 = .ok (.ldc2_w 60, 3) := by decide +kernel
theorem d_K_put_22 : decode b_K_put 22 = .ok (.lcmp, 1) := by decide +kernel
theorem d_K_put_23 : decode b_K_put 23 = .ok (.ifCond .eq 17, 3) := by decide +kernel
theorem d_K_put_26 : decode b_K_put 26 = .ok (.aload 7, 2) := by decide +kernel
theorem d_K_put_28 : decode b_K_put 28 = .ok (.ifnull 12, 3) := by decide +kernel
theorem d_K_put_31 : decode b_K_put 31 = .ok (.aload 7, 2) := by decide +kernel
theorem d_K_put_33 : decode b_K_put 33 = .ok (.iload_n 2, 1) := by decide +kernel
theorem d_K_put_34 : decode b_K_put 34 = .ok (.invokevirtual 80, 3) := by decide +kernel
theorem d_K_put_37 : decode b_K_put 37 = .ok (.ifCond .ne 5, 3) := by decide +kernel
theorem d_K_put_40 : decode b_K_put 40 = .ok (.iconst (-1), 1) := by decide +kernel
theorem d_K_put_41 : decode b_K_put 41 = .ok (.ireturn, 1) := by decide +kernel
theorem d_K_put_42 : decode b_K_put 42 = .ok (.aload 7, 2) := by decide +kernel
theorem d_K_put_44 : decode b_K_put 44 = .ok (.getfield 84, 3) := by decide +kernel
theorem d_K_put_47 : decode b_K_put 47 = .ok (.iload_n 2, 1) := by decide +kernel
theorem d_K_put_48 : decode b_K_put 48 = .ok (.lload 5, 2) := by decide +kernel
theorem d_K_put_50 : decode b_K_put 50 = .ok (.lastore, 1) := by decide +kernel
theorem d_K_put_51 : decode b_K_put 51 = .ok (.iconst 0, 1) := by decide +kernel
theorem d_K_put_52 : decode b_K_put 52 = .ok (.ireturn, 1) := by decide +kernel
theorem d_M_put_0 : decode b_M_put 0 = .ok (.aload_n 0, 1) := by decide +kernel
theorem d_M_put_1 : decode b_M_put 1 = .ok (.iload_n 1, 1) := by decide +kernel
theorem d_M_put_2 : decode b_M_put 2 = .ok (.iconst 2, 1) := by decide +kernel
theorem d_M_put_3 : decode b_M_put 3 = .ok (.invokevirtual 54, 3) := by decide +kernel
theorem d_M_put_6 : decode b_M_put 6 = .ok (.ifCond .eq 34, 3) := by decide +kernel
theorem d_M_put_9 : decode b_M_put 9 = .ok (.iload_n 2, 1) := by decide +kernel
theorem d_M_put_10 : decode b_M_put 10 = .ok (.i2l, 1) := by decide +kernel
theorem d_M_put_11 : decode b_M_put 11 = .ok (.lconst 0, 1) := by decide +kernel
theorem d_M_put_12 : decode b_M_put 12 = .ok (.aload_n 0, 1) := by decide +kernel
theorem d_M_put_13 : decode b_M_put 13 = .ok (.getfield 10, 3) := by decide +kernel
theorem d_M_put_16 : decode b_M_put 16 = .ok (.getfield 51, 3) := by decide +kernel
theorem d_M_put_19 : decode b_M_put 19 = .ok (.iload_n 1, 1) := by decide +kernel
theorem d_M_put_20 : decode b_M_put 20 = .ok (.iaload, 1) := by decide +kernel
theorem d_M_put_21 : decode b_M_put 21 = .ok (.iconst 1, 1) := by decide +kernel
theorem d_M_put_22 : decode b_M_put 22 = .ok (.isub, 1) := by decide +kernel
theorem d_M_put_23 : decode b_M_put 23 = .ok (.i2l, 1) := by decide +kernel
theorem d_M_put_24 : decode b_M_put 24 = .ok (.invokestatic 36, 3) := by decide +kernel
theorem d_M_put_27 : decode b_M_put 27 = .ok (.ifCond .eq 13, 3) := by decide +kernel
theorem d_M_put_30 : decode b_M_put 30 = .ok (.aload_n 0, 1) := by decide +kernel
theorem d_M_put_31 : decode b_M_put 31 = .ok (.iload_n 3, 1) := by decide +kernel
theorem d_M_put_32 : decode b_M_put 32 = .ok (.iload 4, 2) := by decide +kernel
theorem d_M_put_34 : decode b_M_put 34 = .ok (.invokevirtual 58, 3) := by decide +kernel
theorem d_M_put_37 : decode b_M_put 37 = .ok (.ifCond .ne 5, 3) := by decide +kernel
theorem d_M_put_40 : decode b_M_put 40 = .ok (.iconst (-1), 1) := by decide +kernel
theorem d_M_put_41 : decode b_M_put 41 = .ok (.ireturn, 1) := by decide +kernel
theorem d_M_put_42 : decode b_M_put 42 = .ok (.aload_n 0, 1) := by decide +kernel
theorem d_M_put_43 : decode b_M_put 43 = .ok (.getfield 10, 3) := by decide +kernel
theorem d_M_put_46 : decode b_M_put 46 = .ok (.getfield 68, 3) := by decide +kernel
theorem d_M_put_49 : decode b_M_put 49 = .ok (.bipush 20, 2) := by decide +kernel
theorem d_M_put_51 : decode b_M_put 51 = .ok (.iload_n 1, 1) := by decide +kernel
theorem d_M_put_52 : decode b_M_put 52 = .ok (.imul, 1) := by decide +kernel
theorem d_M_put_53 : decode b_M_put 53 = .ok (.iload_n 2, 1) := by decide +kernel
theorem d_M_put_54 : decode b_M_put 54 = .ok (.iadd, 1) := by decide +kernel
theorem d_M_put_55 : decode b_M_put 55 = .ok (.iload_n 3, 1) := by decide +kernel
theorem d_M_put_56 : decode b_M_put 56 = .ok (.iload 4, 2) := by decide +kernel
theorem d_M_put_58 : decode b_M_put 58 = .ok (.invokestatic 72, 3) := by decide +kernel
theorem d_M_put_61 : decode b_M_put 61 = .ok (.lastore, 1) := by decide +kernel
theorem d_M_put_62 : decode b_M_put 62 = .ok (.iconst 0, 1) := by decide +kernel
theorem d_M_put_63 : decode b_M_put 63 = .ok (.ireturn, 1) := by decide +kernel
theorem d_K_item_0 : decode b_K_item 0 = .ok (.aload_n 0, 1) := by decide +kernel
theorem d_K_item_1 : decode b_K_item 1 = .ok (.getfield 44, 3) := by decide +kernel
theorem d_K_item_4 : decode b_K_item 4 = .ok (.iload_n 1, 1) := by decide +kernel
theorem d_K_item_5 : decode b_K_item 5 = .ok (.iconst 2, 1) := by decide +kernel
theorem d_K_item_6 : decode b_K_item 6 = .ok (.invokevirtual 66, 3) := by decide +kernel
theorem d_K_item_9 : decode b_K_item 9 = .ok (.astore_n 3, 1) := by decide +kernel
theorem d_K_item_10 : decode b_K_item 10 = .ok (.aload_n 3, 1) := by decide +kernel
theorem d_K_item_11 : decode b_K_item 11 = .ok (.ifnull 11, 3) := by decide +kernel
theorem d_K_item_14 : decode b_K_item 14 = .ok (.aload_n 3, 1) := by decide +kernel
theorem d_K_item_15 : decode b_K_item 15 = .ok (.iload_n 2, 1) := by decide +kernel
theorem d_K_item_16 : decode b_K_item 16 = .ok (.invokevirtual 80, 3) := by decide +kernel
theorem d_K_item_19 : decode b_K_item 19 = .ok (.ifCond .ne 9, 3) := by decide +kernel
theorem d_K_item_22 : decode b_K_item 22 = .ok (.ldc2_w 60, 3) := by decide +kernel
theorem d_K_item_25 : decode b_K_item 25 = .ok (.goto 9, 3) := by decide +kernel
theorem d_K_item_28 : decode b_K_item 28 = .ok (.aload_n 3, 1) := by decide +kernel
theorem d_K_item_29 : decode b_K_item 29 = .ok (.getfield 84, 3) := by decide +kernel
theorem d_K_item_32 : decode b_K_item 32 = .ok (.iload_n 2, 1) := by decide +kernel
theorem d_K_item_33 : decode b_K_item 33 = .ok (.laload, 1) := by decide +kernel
theorem d_K_item_34 : decode b_K_item 34 = .ok (.lreturn, 1) := by decide +kernel
theorem d_M_item_0 : decode b_M_item 0 = .ok (.aload_n 0, 1) := by decide +kernel
theorem d_M_item_1 : decode b_M_item 1 = .ok (.iload_n 1, 1) := by decide +kernel
theorem d_M_item_2 : decode b_M_item 2 = .ok (.iconst 2, 1) := by decide +kernel
theorem d_M_item_3 : decode b_M_item 3 = .ok (.invokevirtual 54, 3) := by decide +kernel
theorem d_M_item_6 : decode b_M_item 6 = .ok (.ifCond .eq 41, 3) := by decide +kernel
theorem d_M_item_9 : decode b_M_item 9 = .ok (.iload_n 2, 1) := by decide +kernel
theorem d_M_item_10 : decode b_M_item 10 = .ok (.i2l, 1) := by decide +kernel
theorem d_M_item_11 : decode b_M_item 11 = .ok (.lconst 0, 1) := by decide +kernel
theorem d_M_item_12 : decode b_M_item 12 = .ok (.aload_n 0, 1) := by decide +kernel
theorem d_M_item_13 : decode b_M_item 13 = .ok (.getfield 10, 3) := by decide +kernel
theorem d_M_item_16 : decode b_M_item 16 = .ok (.getfield 51, 3) := by decide +kernel
theorem d_M_item_19 : decode b_M_item 19 = .ok (.iload_n 1, 1) := by decide +kernel
theorem d_M_item_20 : decode b_M_item 20 = .ok (.iaload, 1) := by decide +kernel
theorem d_M_item_21 : decode b_M_item 21 = .ok (.iconst 1, 1) := by decide +kernel
theorem d_M_item_22 : decode b_M_item 22 = .ok (.isub, 1) := by decide +kernel
theorem d_M_item_23 : decode b_M_item 23 = .ok (.i2l, 1) := by decide +kernel
theorem d_M_item_24 : decode b_M_item 24 = .ok (.invokestatic 36, 3) := by decide +kernel
theorem d_M_item_27 : decode b_M_item 27 = .ok (.ifCond .eq 20, 3) := by decide +kernel
theorem d_M_item_30 : decode b_M_item 30 = .ok (.aload_n 0, 1) := by decide +kernel
theorem d_M_item_31 : decode b_M_item 31 = .ok (.getfield 10, 3) := by decide +kernel
theorem d_M_item_34 : decode b_M_item 34 = .ok (.getfield 68, 3) := by decide +kernel
theorem d_M_item_37 : decode b_M_item 37 = .ok (.bipush 20, 2) := by decide +kernel
theorem d_M_item_39 : decode b_M_item 39 = .ok (.iload_n 1, 1) := by decide +kernel
theorem d_M_item_40 : decode b_M_item 40 = .ok (.imul, 1) := by decide +kernel
theorem d_M_item_41 : decode b_M_item 41 = .ok (.iload_n 2, 1) := by decide +kernel
theorem d_M_item_42 : decode b_M_item 42 = .ok (.iadd, 1) := by decide +kernel
theorem d_M_item_43 : decode b_M_item 43 = .ok (.laload, 1) := by decide +kernel
theorem d_M_item_44 : decode b_M_item 44 = .ok (.goto 6, 3) := by decide +kernel
theorem d_M_item_47 : decode b_M_item 47 = .ok (.ldc2_w 76, 3) := by decide +kernel
theorem d_M_item_50 : decode b_M_item 50 = .ok (.lreturn, 1) := by decide +kernel
theorem d_K_ownRoots_0 : decode b_K_ownRoots 0 = .ok (.aload_n 0, 1) := by decide +kernel
theorem d_K_ownRoots_1 : decode b_K_ownRoots 1 = .ok (.getfield 44, 3) := by decide +kernel
theorem d_K_ownRoots_4 : decode b_K_ownRoots 4 = .ok (.getfield 92, 3) := by decide +kernel
theorem d_K_ownRoots_7 : decode b_K_ownRoots 7 = .ok (.aload_n 0, 1) := by decide +kernel
theorem d_K_ownRoots_8 : decode b_K_ownRoots 8 = .ok (.invokevirtual 104, 3) := by decide +kernel
theorem d_K_ownRoots_11 : decode b_K_ownRoots 11 = .ok (.getfield 92, 3) := by decide +kernel
theorem d_K_ownRoots_14 : decode b_K_ownRoots 14 = .ok (.if_acmp .ne 20, 3) := by decide +kernel
theorem d_K_ownRoots_17 : decode b_K_ownRoots 17 = .ok (.aload_n 0, 1) := by decide +kernel
theorem d_K_ownRoots_18 : decode b_K_ownRoots 18 = .ok (.getfield 44, 3) := by decide +kernel
theorem d_K_ownRoots_21 : decode b_K_ownRoots 21 = .ok (.aload_n 0, 1) := by decide +kernel
theorem d_K_ownRoots_22 : decode b_K_ownRoots 22 = .ok (.getfield 44, 3) := by decide +kernel
theorem d_K_ownRoots_25 : decode b_K_ownRoots 25 = .ok (.getfield 92, 3) := by decide +kernel
theorem d_K_ownRoots_28 : decode b_K_ownRoots 28 = .ok (.invokevirtual 139, 3) := by decide +kernel
theorem d_K_ownRoots_31 : decode b_K_ownRoots 31 = .ok (.putfield 92, 3) := by decide +kernel
theorem d_K_ownRoots_34 : decode b_K_ownRoots 34 = .ok (.aload_n 0, 1) := by decide +kernel
theorem d_K_ownRoots_35 : decode b_K_ownRoots 35 = .ok (.getfield 44, 3) := by decide +kernel
theorem d_K_ownRoots_38 : decode b_K_ownRoots 38 = .ok (.getfield 92, 3) := by decide +kernel
theorem d_K_ownRoots_41 : decode b_K_ownRoots 41 = .ok (.areturn, 1) := by decide +kernel
theorem d_K_root_0 : decode b_K_root 0 = .ok (.aload_n 0, 1) := by decide +kernel
theorem d_K_root_1 : decode b_K_root 1 = .ok (.iload_n 2, 1) := by decide +kernel
theorem d_K_root_2 : decode b_K_root 2 = .ok (.iload_n 3, 1) := by decide +kernel
theorem d_K_root_3 : decode b_K_root 3 = .ok (.invokevirtual 52, 3) := by decide +kernel
theorem d_K_root_6 : decode b_K_root 6 = .ok (.lstore 4, 2) := by decide +kernel
theorem d_K_root_8 : decode b_K_root 8 = .ok (.lload 4, 2) := by decide +kernel
theorem d_K_root_10 : decode b_K_root 10 = .ok (.ldc2_w 60, 3) := by decide +kernel
theorem d_K_root_13 : decode b_K_root 13 = .ok (.lcmp, 1) := by decide +kernel
theorem d_K_root_14 : decode b_K_root 14 = .ok (.ifCond .ne 7, 3) := by decide +kernel
theorem d_K_root_17 : decode b_K_root 17 = .ok (.iconst (-1), 1) := by decide +kernel
theorem d_K_root_18 : decode b_K_root 18 = .ok (.goto 13, 3) := by decide +kernel
theorem d_K_root_21 : decode b_K_root 21 = .ok (.aload_n 0, 1) := by decide +kernel
theorem d_K_root_22 : decode b_K_root 22 = .ok (.invokevirtual 88, 3) := by decide +kernel
theorem d_K_root_25 : decode b_K_root 25 = .ok (.iload_n 1, 1) := by decide +kernel
theorem d_K_root_26 : decode b_K_root 26 = .ok (.lload 4, 2) := by decide +kernel
theorem d_K_root_28 : decode b_K_root 28 = .ok (.invokevirtual 62, 3) := by decide +kernel
theorem d_K_root_31 : decode b_K_root 31 = .ok (.ireturn, 1) := by decide +kernel
theorem d_N_findRoot_0 : decode b_N_findRoot 0 = .ok (.iconst 0, 1) := by decide +kernel
theorem d_N_findRoot_1 : decode b_N_findRoot 1 = .ok (.istore_n 2, 1) := by decide +kernel
theorem d_N_findRoot_2 : decode b_N_findRoot 2 = .ok (.iload_n 2, 1) := by decide +kernel
theorem d_N_findRoot_3 : decode b_N_findRoot 3 = .ok (.aload_n 0, 1) := by decide +kernel
theorem d_N_findRoot_4 : decode b_N_findRoot 4 = .ok (.getfield 37, 3) := by decide +kernel
theorem d_N_findRoot_7 : decode b_N_findRoot 7 = .ok (.if_icmp .ge 21, 3) := by decide +kernel
theorem d_N_findRoot_10 : decode b_N_findRoot 10 = .ok (.aload_n 0, 1) := by decide +kernel
theorem d_N_findRoot_11 : decode b_N_findRoot 11 = .ok (.getfield 21, 3) := by decide +kernel
theorem d_N_findRoot_14 : decode b_N_findRoot 14 = .ok (.iload_n 2, 1) := by decide +kernel
theorem d_N_findRoot_15 : decode b_N_findRoot 15 = .ok (.iaload, 1) := by decide +kernel
theorem d_N_findRoot_16 : decode b_N_findRoot 16 = .ok (.iload_n 1, 1) := by decide +kernel
theorem d_N_findRoot_17 : decode b_N_findRoot 17 = .ok (.if_icmp .ne 5, 3) := by decide +kernel
theorem d_N_findRoot_20 : decode b_N_findRoot 20 = .ok (.iload_n 2, 1) := by decide +kernel
theorem d_N_findRoot_21 : decode b_N_findRoot 21 = .ok (.ireturn, 1) := by decide +kernel
theorem d_N_findRoot_22 : decode b_N_findRoot 22 = .ok (.iinc 2 1, 3) := by decide +kernel
theorem d_N_findRoot_25 : decode b_N_findRoot 25 = .ok (.goto (-23), 3) := by decide +kernel
theorem d_N_findRoot_28 : decode b_N_findRoot 28 = .ok (.iconst (-1), 1) := by decide +kernel
theorem d_N_findRoot_29 : decode b_N_findRoot 29 = .ok (.ireturn, 1) := by decide +kernel
end
section
theorem d_M_root_0 : decode b_M_root 0 = .ok (.aload_n 0, 1) := by decide +kernel
theorem d_M_root_1 : decode b_M_root 1 = .ok (.iload_n 2, 1) := by decide +kernel
theorem d_M_root_2 : decode b_M_root 2 = .ok (.iload_n 3, 1) := by decide +kernel
theorem d_M_root_3 : decode b_M_root 3 = .ok (.invokevirtual 58, 3) := by decide +kernel
theorem d_M_root_6 : decode b_M_root 6 = .ok (.ifCond .ne 5, 3) := by decide +kernel
theorem d_M_root_9 : decode b_M_root 9 = .ok (.iconst (-1), 1) := by decide +kernel
theorem d_M_root_10 : decode b_M_root 10 = .ok (.ireturn, 1) := by decide +kernel
theorem d_M_root_11 : decode b_M_root 11 = .ok (.aload_n 0, 1) := by decide +kernel
theorem d_M_root_12 : decode b_M_root 12 = .ok (.getfield 10, 3) := by decide +kernel
theorem d_M_root_15 : decode b_M_root 15 = .ok (.iload_n 1, 1) := by decide +kernel
theorem d_M_root_16 : decode b_M_root 16 = .ok (.invokevirtual 78, 3) := by decide +kernel
theorem d_M_root_19 : decode b_M_root 19 = .ok (.istore 4, 2) := by decide +kernel
theorem d_M_root_21 : decode b_M_root 21 = .ok (.iload_n 2, 1) := by decide +kernel
theorem d_M_root_22 : decode b_M_root 22 = .ok (.ifCond .ne 87, 3) := by decide +kernel
theorem d_M_root_25 : decode b_M_root 25 = .ok (.iload 4, 2) := by decide +kernel
theorem d_M_root_27 : decode b_M_root 27 = .ok (.ifCond .ge 11, 3) := by decide +kernel
theorem d_M_root_30 : decode b_M_root 30 = .ok (.aload_n 0, 1) := by decide +kernel
theorem d_M_root_31 : decode b_M_root 31 = .ok (.getfield 10, 3) := by decide +kernel
theorem d_M_root_34 : decode b_M_root 34 = .ok (.getfield 82, 3) := by decide +kernel
theorem d_M_root_37 : decode b_M_root 37 = .ok (.ireturn, 1) := by decide +kernel
theorem d_M_root_38 : decode b_M_root 38 = .ok (.aload_n 0, 1) := by decide +kernel
theorem d_M_root_39 : decode b_M_root 39 = .ok (.getfield 10, 3) := by decide +kernel
theorem d_M_root_42 : decode b_M_root 42 = .ok (.dup, 1) := by decide +kernel
theorem d_M_root_43 : decode b_M_root 43 = .ok (.getfield 82, 3) := by decide +kernel
theorem d_M_root_46 : decode b_M_root 46 = .ok (.iconst 1, 1) := by decide +kernel
theorem d_M_root_47 : decode b_M_root 47 = .ok (.isub, 1) := by decide +kernel
theorem d_M_root_48 : decode b_M_root 48 = .ok (.putfield 82, 3) := by decide +kernel
theorem d_M_root_51 : decode b_M_root 51 = .ok (.aload_n 0, 1) := by decide +kernel
theorem d_M_root_52 : decode b_M_root 52 = .ok (.getfield 10, 3) := by decide +kernel
theorem d_M_root_55 : decode b_M_root 55 = .ok (.getfield 86, 3) := by decide +kernel
theorem d_M_root_58 : decode b_M_root 58 = .ok (.iload 4, 2) := by decide +kernel
theorem d_M_root_60 : decode b_M_root 60 = .ok (.aload_n 0, 1) := by decide +kernel
theorem d_M_root_61 : decode b_M_root 61 = .ok (.getfield 10, 3) := by decide +kernel
theorem d_M_root_64 : decode b_M_root 64 = .ok (.getfield 86, 3) := by decide +kernel
theorem d_M_root_67 : decode b_M_root 67 = .ok (.aload_n 0, 1) := by decide +kernel
theorem d_M_root_68 : decode b_M_root 68 = .ok (.getfield 10, 3) := by decide +kernel
theorem d_M_root_71 : decode b_M_root 71 = .ok (.getfield 82, 3) := by decide +kernel
theorem d_M_root_74 : decode b_M_root 74 = .ok (.iaload, 1) := by decide +kernel
theorem d_M_root_75 : decode b_M_root 75 = .ok (.iastore, 1) := by decide +kernel
theorem d_M_root_76 : decode b_M_root 76 = .ok (.aload_n 0, 1) := by decide +kernel
theorem d_M_root_77 : decode b_M_root 77 = .ok (.getfield 10, 3) := by decide +kernel
theorem d_M_root_80 : decode b_M_root 80 = .ok (.getfield 89, 3) := by decide +kernel
theorem d_M_root_83 : decode b_M_root 83 = .ok (.iload 4, 2) := by decide +kernel
theorem d_M_root_85 : decode b_M_root 85 = .ok (.aload_n 0, 1) := by decide +kernel
theorem d_M_root_86 : decode b_M_root 86 = .ok (.getfield 10, 3) := by decide +kernel
theorem d_M_root_89 : decode b_M_root 89 = .ok (.getfield 89, 3) := by decide +kernel
theorem d_M_root_92 : decode b_M_root 92 = .ok (.aload_n 0, 1) := by decide +kernel
theorem d_M_root_93 : decode b_M_root 93 = .ok (.getfield 10, 3) := by decide +kernel
theorem d_M_root_96 : decode b_M_root 96 = .ok (.getfield 82, 3) := by decide +kernel
theorem d_M_root_99 : decode b_M_root 99 = .ok (.laload, 1) := by decide +kernel
theorem d_M_root_100 : decode b_M_root 100 = .ok (.lastore, 1) := by decide +kernel
theorem d_M_root_101 : decode b_M_root 101 = .ok (.aload_n 0, 1) := by decide +kernel
theorem d_M_root_102 : decode b_M_root 102 = .ok (.getfield 10, 3) := by decide +kernel
theorem d_M_root_105 : decode b_M_root 105 = .ok (.getfield 82, 3) := by decide +kernel
theorem d_M_root_108 : decode b_M_root 108 = .ok (.ireturn, 1) := by decide +kernel
theorem d_M_root_109 : decode b_M_root 109 = .ok (.iload 4, 2) := by decide +kernel
theorem d_M_root_111 : decode b_M_root 111 = .ok (.ifCond .ge 51, 3) := by decide +kernel
theorem d_M_root_114 : decode b_M_root 114 = .ok (.aload_n 0, 1) := by decide +kernel
theorem d_M_root_115 : decode b_M_root 115 = .ok (.getfield 10, 3) := by decide +kernel
theorem d_M_root_118 : decode b_M_root 118 = .ok (.getfield 82, 3) := by decide +kernel
theorem d_M_root_121 : decode b_M_root 121 = .ok (.bipush 12, 2) := by decide +kernel
theorem d_M_root_123 : decode b_M_root 123 = .ok (.if_icmp .ne 6, 3) := by decide +kernel
theorem d_M_root_126 : decode b_M_root 126 = .ok (.bipush (-3), 2) := by decide +kernel
theorem d_M_root_128 : decode b_M_root 128 = .ok (.ireturn, 1) := by decide +kernel
theorem d_M_root_129 : decode b_M_root 129 = .ok (.aload_n 0, 1) := by decide +kernel
theorem d_M_root_130 : decode b_M_root 130 = .ok (.getfield 10, 3) := by decide +kernel
theorem d_M_root_133 : decode b_M_root 133 = .ok (.getfield 82, 3) := by decide +kernel
theorem d_M_root_136 : decode b_M_root 136 = .ok (.istore 4, 2) := by decide +kernel
theorem d_M_root_138 : decode b_M_root 138 = .ok (.aload_n 0, 1) := by decide +kernel
theorem d_M_root_139 : decode b_M_root 139 = .ok (.getfield 10, 3) := by decide +kernel
theorem d_M_root_142 : decode b_M_root 142 = .ok (.dup, 1) := by decide +kernel
theorem d_M_root_143 : decode b_M_root 143 = .ok (.getfield 82, 3) := by decide +kernel
theorem d_M_root_146 : decode b_M_root 146 = .ok (.iconst 1, 1) := by decide +kernel
theorem d_M_root_147 : decode b_M_root 147 = .ok (.iadd, 1) := by decide +kernel
theorem d_M_root_148 : decode b_M_root 148 = .ok (.putfield 82, 3) := by decide +kernel
theorem d_M_root_151 : decode b_M_root 151 = .ok (.aload_n 0, 1) := by decide +kernel
theorem d_M_root_152 : decode b_M_root 152 = .ok (.getfield 10, 3) := by decide +kernel
theorem d_M_root_155 : decode b_M_root 155 = .ok (.getfield 86, 3) := by decide +kernel
theorem d_M_root_158 : decode b_M_root 158 = .ok (.iload 4, 2) := by decide +kernel
theorem d_M_root_160 : decode b_M_root 160 = .ok (.iload_n 1, 1) := by decide +kernel
theorem d_M_root_161 : decode b_M_root 161 = .ok (.iastore, 1) := by decide +kernel
theorem d_M_root_162 : decode b_M_root 162 = .ok (.aload_n 0, 1) := by decide +kernel
theorem d_M_root_163 : decode b_M_root 163 = .ok (.getfield 10, 3) := by decide +kernel
theorem d_M_root_166 : decode b_M_root 166 = .ok (.getfield 89, 3) := by decide +kernel
theorem d_M_root_169 : decode b_M_root 169 = .ok (.iload 4, 2) := by decide +kernel
theorem d_M_root_171 : decode b_M_root 171 = .ok (.iload_n 2, 1) := by decide +kernel
theorem d_M_root_172 : decode b_M_root 172 = .ok (.iload_n 3, 1) := by decide +kernel
theorem d_M_root_173 : decode b_M_root 173 = .ok (.invokestatic 72, 3) := by decide +kernel
theorem d_M_root_176 : decode b_M_root 176 = .ok (.lastore, 1) := by decide +kernel
theorem d_M_root_177 : decode b_M_root 177 = .ok (.aload_n 0, 1) := by decide +kernel
theorem d_M_root_178 : decode b_M_root 178 = .ok (.getfield 10, 3) := by decide +kernel
theorem d_M_root_181 : decode b_M_root 181 = .ok (.getfield 82, 3) := by decide +kernel
theorem d_M_root_184 : decode b_M_root 184 = .ok (.ireturn, 1) := by decide +kernel
theorem d_K_rooted_0 : decode b_K_rooted 0 = .ok (.aload_n 0, 1) := by decide +kernel
theorem d_K_rooted_1 : decode b_K_rooted 1 = .ok (.getfield 44, 3) := by decide +kernel
theorem d_K_rooted_4 : decode b_K_rooted 4 = .ok (.getfield 92, 3) := by decide +kernel
theorem d_K_rooted_7 : decode b_K_rooted 7 = .ok (.iload_n 1, 1) := by decide +kernel
theorem d_K_rooted_8 : decode b_K_rooted 8 = .ok (.invokevirtual 69, 3) := by decide +kernel
theorem d_K_rooted_11 : decode b_K_rooted 11 = .ok (.lreturn, 1) := by decide +kernel
theorem d_M_rooted_0 : decode b_M_rooted 0 = .ok (.aload_n 0, 1) := by decide +kernel
theorem d_M_rooted_1 : decode b_M_rooted 1 = .ok (.getfield 10, 3) := by decide +kernel
theorem d_M_rooted_4 : decode b_M_rooted 4 = .ok (.iload_n 1, 1) := by decide +kernel
theorem d_M_rooted_5 : decode b_M_rooted 5 = .ok (.invokevirtual 78, 3) := by decide +kernel
theorem d_M_rooted_8 : decode b_M_rooted 8 = .ok (.istore_n 2, 1) := by decide +kernel
theorem d_M_rooted_9 : decode b_M_rooted 9 = .ok (.iload_n 2, 1) := by decide +kernel
theorem d_M_rooted_10 : decode b_M_rooted 10 = .ok (.ifCond .ge 9, 3) := by decide +kernel
theorem d_M_rooted_13 : decode b_M_rooted 13 = .ok (.ldc2_w 47, 3) := by decide +kernel
theorem d_M_rooted_16 : decode b_M_rooted 16 = .ok (.goto 12, 3) := by decide +kernel
theorem d_M_rooted_19 : decode b_M_rooted 19 = .ok (.aload_n 0, 1) := by decide +kernel
theorem d_M_rooted_20 : decode b_M_rooted 20 = .ok (.getfield 10, 3) := by decide +kernel
theorem d_M_rooted_23 : decode b_M_rooted 23 = .ok (.getfield 89, 3) := by decide +kernel
theorem d_M_rooted_26 : decode b_M_rooted 26 = .ok (.iload_n 2, 1) := by decide +kernel
theorem d_M_rooted_27 : decode b_M_rooted 27 = .ok (.laload, 1) := by decide +kernel
theorem d_M_rooted_28 : decode b_M_rooted 28 = .ok (.lreturn, 1) := by decide +kernel
theorem d_S_sameAs_0 : decode b_S_sameAs 0 = .ok (.aload_n 1, 1) := by decide +kernel
theorem d_S_sameAs_1 : decode b_S_sameAs 1 = .ok (.ifnull 25, 3) := by decide +kernel
theorem d_S_sameAs_4 : decode b_S_sameAs 4 = .ok (.aload_n 1, 1) := by decide +kernel
theorem d_S_sameAs_5 : decode b_S_sameAs 5 = .ok (.getfield 15, 3) := by decide +kernel
theorem d_S_sameAs_8 : decode b_S_sameAs 8 = .ok (.aload_n 0, 1) := by decide +kernel
theorem d_S_sameAs_9 : decode b_S_sameAs 9 = .ok (.getfield 15, 3) := by decide +kernel
theorem d_S_sameAs_12 : decode b_S_sameAs 12 = .ok (.if_icmp .ne 14, 3) := by decide +kernel
theorem d_S_sameAs_15 : decode b_S_sameAs 15 = .ok (.aload_n 1, 1) := by decide +kernel
theorem d_S_sameAs_16 : decode b_S_sameAs 16 = .ok (.getfield 9, 3) := by decide +kernel
theorem d_S_sameAs_19 : decode b_S_sameAs 19 = .ok (.aload_n 0, 1) := by decide +kernel
theorem d_S_sameAs_20 : decode b_S_sameAs 20 = .ok (.getfield 9, 3) := by decide +kernel
theorem d_S_sameAs_23 : decode b_S_sameAs 23 = .ok (.if_icmp .eq 5, 3) := by decide +kernel
theorem d_S_sameAs_26 : decode b_S_sameAs 26 = .ok (.iconst 0, 1) := by decide +kernel
theorem d_S_sameAs_27 : decode b_S_sameAs 27 = .ok (.ireturn, 1) := by decide +kernel
theorem d_S_sameAs_28 : decode b_S_sameAs 28 = .ok (.iconst 0, 1) := by decide +kernel
theorem d_S_sameAs_29 : decode b_S_sameAs 29 = .ok (.istore_n 2, 1) := by decide +kernel
theorem d_S_sameAs_30 : decode b_S_sameAs 30 = .ok (.iload_n 2, 1) := by decide +kernel
theorem d_S_sameAs_31 : decode b_S_sameAs 31 = .ok (.aload_n 0, 1) := by decide +kernel
theorem d_S_sameAs_32 : decode b_S_sameAs 32 = .ok (.getfield 9, 3) := by decide +kernel
theorem d_S_sameAs_35 : decode b_S_sameAs 35 = .ok (.if_icmp .ge 42, 3) := by decide +kernel
theorem d_S_sameAs_38 : decode b_S_sameAs 38 = .ok (.aload_n 1, 1) := by decide +kernel
theorem d_S_sameAs_39 : decode b_S_sameAs 39 = .ok (.getfield 18, 3) := by decide +kernel
theorem d_S_sameAs_42 : decode b_S_sameAs 42 = .ok (.iload_n 2, 1) := by decide +kernel
theorem d_S_sameAs_43 : decode b_S_sameAs 43 = .ok (.iaload, 1) := by decide +kernel
theorem d_S_sameAs_44 : decode b_S_sameAs 44 = .ok (.aload_n 0, 1) := by decide +kernel
theorem d_S_sameAs_45 : decode b_S_sameAs 45 = .ok (.getfield 18, 3) := by decide +kernel
theorem d_S_sameAs_48 : decode b_S_sameAs 48 = .ok (.iload_n 2, 1) := by decide +kernel
theorem d_S_sameAs_49 : decode b_S_sameAs 49 = .ok (.iaload, 1) := by decide +kernel
theorem d_S_sameAs_50 : decode b_S_sameAs 50 = .ok (.if_icmp .ne 19, 3) := by decide +kernel
theorem d_S_sameAs_53 : decode b_S_sameAs 53 = .ok (.aload_n 1, 1) := by decide +kernel
theorem d_S_sameAs_54 : decode b_S_sameAs 54 = .ok (.getfield 22, 3) := by decide +kernel
theorem d_S_sameAs_57 : decode b_S_sameAs 57 = .ok (.iload_n 2, 1) := by decide +kernel
theorem d_S_sameAs_58 : decode b_S_sameAs 58 = .ok (.laload, 1) := by decide +kernel
theorem d_S_sameAs_59 : decode b_S_sameAs 59 = .ok (.aload_n 0, 1) := by decide +kernel
theorem d_S_sameAs_60 : decode b_S_sameAs 60 = .ok (.getfield 22, 3) := by decide +kernel
theorem d_S_sameAs_63 : decode b_S_sameAs 63 = .ok (.iload_n 2, 1) := by decide +kernel
theorem d_S_sameAs_64 : decode b_S_sameAs 64 = .ok (.laload, 1) := by decide +kernel
theorem d_S_sameAs_65 : decode b_S_sameAs 65 = .ok (.lcmp, 1) := by decide +kernel
theorem d_S_sameAs_66 : decode b_S_sameAs 66 = .ok (.ifCond .eq 5, 3) := by decide +kernel
theorem d_S_sameAs_69 : decode b_S_sameAs 69 = .ok (.iconst 0, 1) := by decide +kernel
theorem d_S_sameAs_70 : decode b_S_sameAs 70 = .ok (.ireturn, 1) := by decide +kernel
theorem d_S_sameAs_71 : decode b_S_sameAs 71 = .ok (.iinc 2 1, 3) := by decide +kernel
theorem d_S_sameAs_74 : decode b_S_sameAs 74 = .ok (.goto (-44), 3) := by decide +kernel
theorem d_S_sameAs_77 : decode b_S_sameAs 77 = .ok (.iconst 1, 1) := by decide +kernel
theorem d_S_sameAs_78 : decode b_S_sameAs 78 = .ok (.ireturn, 1) := by decide +kernel
theorem d_S_namesChangedFrom_0 : decode b_S_namesChangedFrom 0 = .ok (.iconst 0, 1) := by decide +kernel
theorem d_S_namesChangedFrom_1 : decode b_S_namesChangedFrom 1 = .ok (.istore_n 2, 1) := by decide +kernel
theorem d_S_namesChangedFrom_2 : decode b_S_namesChangedFrom 2 = .ok (.iconst 0, 1) := by decide +kernel
theorem d_S_namesChangedFrom_3 : decode b_S_namesChangedFrom 3 = .ok (.istore_n 3, 1) := by decide +kernel
theorem d_S_namesChangedFrom_4 : decode b_S_namesChangedFrom 4 = .ok (.iload_n 3, 1) := by decide +kernel
theorem d_S_namesChangedFrom_5 : decode b_S_namesChangedFrom 5 = .ok (.aload_n 0, 1) := by decide +kernel
theorem d_S_namesChangedFrom_6 : decode b_S_namesChangedFrom 6 = .ok (.getfield 9, 3) := by decide +kernel
theorem d_S_namesChangedFrom_9 : decode b_S_namesChangedFrom 9 = .ok (.if_icmp .ge 32, 3) := by decide +kernel
theorem d_S_namesChangedFrom_12 : decode b_S_namesChangedFrom 12 = .ok (.aload_n 1, 1) := by decide +kernel
theorem d_S_namesChangedFrom_13 : decode b_S_namesChangedFrom 13 = .ok (.aload_n 0, 1) := by decide +kernel
theorem d_S_namesChangedFrom_14 : decode b_S_namesChangedFrom 14 = .ok (.getfield 18, 3) := by decide +kernel
theorem d_S_namesChangedFrom_17 : decode b_S_namesChangedFrom 17 = .ok (.iload_n 3, 1) := by decide +kernel
theorem d_S_namesChangedFrom_18 : decode b_S_namesChangedFrom 18 = .ok (.iaload, 1) := by decide +kernel
theorem d_S_namesChangedFrom_19 : decode b_S_namesChangedFrom 19 = .ok (.invokevirtual 55, 3) := by decide +kernel
theorem d_S_namesChangedFrom_22 : decode b_S_namesChangedFrom 22 = .ok (.aload_n 0, 1) := by decide +kernel
theorem d_S_namesChangedFrom_23 : decode b_S_namesChangedFrom 23 = .ok (.getfield 22, 3) := by decide +kernel
theorem d_S_namesChangedFrom_26 : decode b_S_namesChangedFrom 26 = .ok (.iload_n 3, 1) := by decide +kernel
theorem d_S_namesChangedFrom_27 : decode b_S_namesChangedFrom 27 = .ok (.laload, 1) := by decide +kernel
theorem d_S_namesChangedFrom_28 : decode b_S_namesChangedFrom 28 = .ok (.lcmp, 1) := by decide +kernel
theorem d_S_namesChangedFrom_29 : decode b_S_namesChangedFrom 29 = .ok (.ifCond .eq 6, 3) := by decide +kernel
theorem d_S_namesChangedFrom_32 : decode b_S_namesChangedFrom 32 = .ok (.iinc 2 1, 3) := by decide +kernel
theorem d_S_namesChangedFrom_35 : decode b_S_namesChangedFrom 35 = .ok (.iinc 3 1, 3) := by decide +kernel
theorem d_S_namesChangedFrom_38 : decode b_S_namesChangedFrom 38 = .ok (.goto (-34), 3) := by decide +kernel
theorem d_S_namesChangedFrom_41 : decode b_S_namesChangedFrom 41 = .ok (.iconst 0, 1) := by decide +kernel
theorem d_S_namesChangedFrom_42 : decode b_S_namesChangedFrom 42 = .ok (.istore_n 3, 1) := by decide +kernel
theorem d_S_namesChangedFrom_43 : decode b_S_namesChangedFrom 43 = .ok (.iload_n 3, 1) := by decide +kernel
theorem d_S_namesChangedFrom_44 : decode b_S_namesChangedFrom 44 = .ok (.aload_n 1, 1) := by decide +kernel
theorem d_S_namesChangedFrom_45 : decode b_S_namesChangedFrom 45 = .ok (.getfield 9, 3) := by decide +kernel
theorem d_S_namesChangedFrom_48 : decode b_S_namesChangedFrom 48 = .ok (.if_icmp .ge 29, 3) := by decide +kernel
theorem d_S_namesChangedFrom_51 : decode b_S_namesChangedFrom 51 = .ok (.aload_n 0, 1) := by decide +kernel
theorem d_S_namesChangedFrom_52 : decode b_S_namesChangedFrom 52 = .ok (.aload_n 1, 1) := by decide +kernel
theorem d_S_namesChangedFrom_53 : decode b_S_namesChangedFrom 53 = .ok (.getfield 18, 3) := by decide +kernel
theorem d_S_namesChangedFrom_56 : decode b_S_namesChangedFrom 56 = .ok (.iload_n 3, 1) := by decide +kernel
theorem d_S_namesChangedFrom_57 : decode b_S_namesChangedFrom 57 = .ok (.iaload, 1) := by decide +kernel
theorem d_S_namesChangedFrom_58 : decode b_S_namesChangedFrom 58 = .ok (.invokevirtual 55, 3) := by decide +kernel
theorem d_S_namesChangedFrom_61 : decode b_S_namesChangedFrom 61 = .ok (.ldc2_w 39, 3) := by decide +kernel
theorem d_S_namesChangedFrom_64 : decode b_S_namesChangedFrom 64 = .ok (.lcmp, 1) := by decide +kernel
theorem d_S_namesChangedFrom_65 : decode b_S_namesChangedFrom 65 = .ok (.ifCond .ne 6, 3) := by decide +kernel
theorem d_S_namesChangedFrom_68 : decode b_S_namesChangedFrom 68 = .ok (.iinc 2 1, 3) := by decide +kernel
theorem d_S_namesChangedFrom_71 : decode b_S_namesChangedFrom 71 = .ok (.iinc 3 1, 3) := by decide +kernel
theorem d_S_namesChangedFrom_74 : decode b_S_namesChangedFrom 74 = .ok (.goto (-31), 3) := by decide +kernel
theorem d_S_namesChangedFrom_77 : decode b_S_namesChangedFrom 77 = .ok (.iload_n 2, 1) := by decide +kernel
theorem d_S_namesChangedFrom_78 : decode b_S_namesChangedFrom 78 = .ok (.ireturn, 1) := by decide +kernel
theorem d_K_changedBytes_0 : decode b_K_changedBytes 0 = .ok (.aload_n 0, 1) := by decide +kernel
theorem d_K_changedBytes_1 : decode b_K_changedBytes 1 = .ok (.invokevirtual 104, 3) := by decide +kernel
theorem d_K_changedBytes_4 : decode b_K_changedBytes 4 = .ok (.astore_n 1, 1) := by decide +kernel
theorem d_K_changedBytes_5 : decode b_K_changedBytes 5 = .ok (.iconst 0, 1) := by decide +kernel
theorem d_K_changedBytes_6 : decode b_K_changedBytes 6 = .ok (.istore_n 2, 1) := by decide +kernel
theorem d_K_changedBytes_7 : decode b_K_changedBytes 7 = .ok (.iconst 0, 1) := by decide +kernel
theorem d_K_changedBytes_8 : decode b_K_changedBytes 8 = .ok (.istore_n 3, 1) := by decide +kernel
theorem d_K_changedBytes_9 : decode b_K_changedBytes 9 = .ok (.iload_n 3, 1) := by decide +kernel
theorem d_K_changedBytes_10 : decode b_K_changedBytes 10 = .ok (.bipush 100, 2) := by decide +kernel
theorem d_K_changedBytes_12 : decode b_K_changedBytes 12 = .ok (.if_icmp .ge 42, 3) := by decide +kernel
theorem d_K_changedBytes_15 : decode b_K_changedBytes 15 = .ok (.aload_n 0, 1) := by decide +kernel
theorem d_K_changedBytes_16 : decode b_K_changedBytes 16 = .ok (.getfield 44, 3) := by decide +kernel
theorem d_K_changedBytes_19 : decode b_K_changedBytes 19 = .ok (.getfield 48, 3) := by decide +kernel
theorem d_K_changedBytes_22 : decode b_K_changedBytes 22 = .ok (.iload_n 3, 1) := by decide +kernel
theorem d_K_changedBytes_23 : decode b_K_changedBytes 23 = .ok (.aaload, 1) := by decide +kernel
theorem d_K_changedBytes_24 : decode b_K_changedBytes 24 = .ok (.astore 4, 2) := by decide +kernel
theorem d_K_changedBytes_26 : decode b_K_changedBytes 26 = .ok (.aload 4, 2) := by decide +kernel
theorem d_K_changedBytes_28 : decode b_K_changedBytes 28 = .ok (.ifnull 20, 3) := by decide +kernel
theorem d_K_changedBytes_31 : decode b_K_changedBytes 31 = .ok (.aload 4, 2) := by decide +kernel
theorem d_K_changedBytes_33 : decode b_K_changedBytes 33 = .ok (.aload_n 1, 1) := by decide +kernel
theorem d_K_changedBytes_34 : decode b_K_changedBytes 34 = .ok (.getfield 48, 3) := by decide +kernel
theorem d_K_changedBytes_37 : decode b_K_changedBytes 37 = .ok (.iload_n 3, 1) := by decide +kernel
theorem d_K_changedBytes_38 : decode b_K_changedBytes 38 = .ok (.aaload, 1) := by decide +kernel
theorem d_K_changedBytes_39 : decode b_K_changedBytes 39 = .ok (.invokevirtual 142, 3) := by decide +kernel
theorem d_K_changedBytes_42 : decode b_K_changedBytes 42 = .ok (.ifCond .ne 6, 3) := by decide +kernel
theorem d_K_changedBytes_45 : decode b_K_changedBytes 45 = .ok (.iinc 2 1, 3) := by decide +kernel
theorem d_K_changedBytes_48 : decode b_K_changedBytes 48 = .ok (.iinc 3 1, 3) := by decide +kernel
theorem d_K_changedBytes_51 : decode b_K_changedBytes 51 = .ok (.goto (-42), 3) := by decide +kernel
theorem d_K_changedBytes_54 : decode b_K_changedBytes 54 = .ok (.bipush 16, 2) := by decide +kernel
theorem d_K_changedBytes_56 : decode b_K_changedBytes 56 = .ok (.iload_n 2, 1) := by decide +kernel
theorem d_K_changedBytes_57 : decode b_K_changedBytes 57 = .ok (.imul, 1) := by decide +kernel
theorem d_K_changedBytes_58 : decode b_K_changedBytes 58 = .ok (.bipush 6, 2) := by decide +kernel
theorem d_K_changedBytes_60 : decode b_K_changedBytes 60 = .ok (.aload_n 0, 1) := by decide +kernel
theorem d_K_changedBytes_61 : decode b_K_changedBytes 61 = .ok (.getfield 44, 3) := by decide +kernel
theorem d_K_changedBytes_64 : decode b_K_changedBytes 64 = .ok (.getfield 92, 3) := by decide +kernel
theorem d_K_changedBytes_67 : decode b_K_changedBytes 67 = .ok (.aload_n 1, 1) := by decide +kernel
theorem d_K_changedBytes_68 : decode b_K_changedBytes 68 = .ok (.getfield 92, 3) := by decide +kernel
theorem d_K_changedBytes_71 : decode b_K_changedBytes 71 = .ok (.invokevirtual 146, 3) := by decide +kernel
theorem d_K_changedBytes_74 : decode b_K_changedBytes 74 = .ok (.imul, 1) := by decide +kernel
theorem d_K_changedBytes_75 : decode b_K_changedBytes 75 = .ok (.iadd, 1) := by decide +kernel
theorem d_K_changedBytes_76 : decode b_K_changedBytes 76 = .ok (.ireturn, 1) := by decide +kernel
theorem d_T_become_0 : decode b_T_become 0 = .ok (.iconst 0, 1) := by decide +kernel
theorem d_T_become_1 : decode b_T_become 1 = .ok (.istore_n 2, 1) := by decide +kernel
theorem d_T_become_2 : decode b_T_become 2 = .ok (.iload_n 2, 1) := by decide +kernel
theorem d_T_become_3 : decode b_T_become 3 = .ok (.bipush 100, 2) := by decide +kernel
theorem d_T_become_5 : decode b_T_become 5 = .ok (.if_icmp .ge 21, 3) := by decide +kernel
theorem d_T_become_8 : decode b_T_become 8 = .ok (.aload_n 0, 1) := by decide +kernel
theorem d_T_become_9 : decode b_T_become 9 = .ok (.getfield 11, 3) := by decide +kernel
theorem d_T_become_12 : decode b_T_become 12 = .ok (.iload_n 2, 1) := by decide +kernel
theorem d_T_become_13 : decode b_T_become 13 = .ok (.aload_n 1, 1) := by decide +kernel
theorem d_T_become_14 : decode b_T_become 14 = .ok (.getfield 11, 3) := by decide +kernel
theorem d_T_become_17 : decode b_T_become 17 = .ok (.iload_n 2, 1) := by decide +kernel
theorem d_T_become_18 : decode b_T_become 18 = .ok (.aaload, 1) := by decide +kernel
theorem d_T_become_19 : decode b_T_become 19 = .ok (.aastore, 1) := by decide +kernel
theorem d_T_become_20 : decode b_T_become 20 = .ok (.iinc 2 1, 3) := by decide +kernel
theorem d_T_become_23 : decode b_T_become 23 = .ok (.goto (-21), 3) := by decide +kernel
theorem d_T_become_26 : decode b_T_become 26 = .ok (.aload_n 0, 1) := by decide +kernel
theorem d_T_become_27 : decode b_T_become 27 = .ok (.aload_n 1, 1) := by decide +kernel
theorem d_T_become_28 : decode b_T_become 28 = .ok (.getfield 17, 3) := by decide +kernel
theorem d_T_become_31 : decode b_T_become 31 = .ok (.putfield 17, 3) := by decide +kernel
theorem d_T_become_34 : decode b_T_become 34 = .ok (.return_, 1) := by decide +kernel
theorem d_K_keepNow_0 : decode b_K_keepNow 0 = .ok (.aload_n 0, 1) := by decide +kernel
theorem d_K_keepNow_1 : decode b_K_keepNow 1 = .ok (.getfield 30, 3) := by decide +kernel
theorem d_K_keepNow_4 : decode b_K_keepNow 4 = .ok (.bipush 8, 2) := by decide +kernel
theorem d_K_keepNow_6 : decode b_K_keepNow 6 = .ok (.if_icmp .ne 15, 3) := by decide +kernel
theorem d_K_keepNow_9 : decode b_K_keepNow 9 = .ok (.aload_n 0, 1) := by decide +kernel
theorem d_K_keepNow_10 : decode b_K_keepNow 10 = .ok (.aload_n 0, 1) := by decide +kernel
theorem d_K_keepNow_11 : decode b_K_keepNow 11 = .ok (.iconst 1, 1) := by decide +kernel
theorem d_K_keepNow_12 : decode b_K_keepNow 12 = .ok (.invokevirtual 116, 3) := by decide +kernel
theorem d_K_keepNow_15 : decode b_K_keepNow 15 = .ok (.putfield 26, 3) := by decide +kernel
theorem d_K_keepNow_18 : decode b_K_keepNow 18 = .ok (.goto 13, 3) := by decide +kernel
theorem d_K_keepNow_21 : decode b_K_keepNow 21 = .ok (.aload_n 0, 1) := by decide +kernel
theorem d_K_keepNow_22 : decode b_K_keepNow 22 = .ok (.dup, 1) := by decide +kernel
theorem d_K_keepNow_23 : decode b_K_keepNow 23 = .ok (.getfield 30, 3) := by decide +kernel
theorem d_K_keepNow_26 : decode b_K_keepNow 26 = .ok (.iconst 1, 1) := by decide +kernel
theorem d_K_keepNow_27 : decode b_K_keepNow 27 = .ok (.iadd, 1) := by decide +kernel
theorem d_K_keepNow_28 : decode b_K_keepNow 28 = .ok (.putfield 30, 3) := by decide +kernel
theorem d_K_keepNow_31 : decode b_K_keepNow 31 = .ok (.aload_n 0, 1) := by decide +kernel
theorem d_K_keepNow_32 : decode b_K_keepNow 32 = .ok (.aload_n 0, 1) := by decide +kernel
theorem d_K_keepNow_33 : decode b_K_keepNow 33 = .ok (.getfield 30, 3) := by decide +kernel
theorem d_K_keepNow_36 : decode b_K_keepNow 36 = .ok (.invokevirtual 116, 3) := by decide +kernel
theorem d_K_keepNow_39 : decode b_K_keepNow 39 = .ok (.istore_n 2, 1) := by decide +kernel
theorem d_K_keepNow_40 : decode b_K_keepNow 40 = .ok (.aload_n 0, 1) := by decide +kernel
theorem d_K_keepNow_41 : decode b_K_keepNow 41 = .ok (.getfield 11, 3) := by decide +kernel
theorem d_K_keepNow_44 : decode b_K_keepNow 44 = .ok (.iload_n 2, 1) := by decide +kernel
theorem d_K_keepNow_45 : decode b_K_keepNow 45 = .ok (.aaload, 1) := by decide +kernel
theorem d_K_keepNow_46 : decode b_K_keepNow 46 = .ok (.aload_n 0, 1) := by decide +kernel
theorem d_K_keepNow_47 : decode b_K_keepNow 47 = .ok (.getfield 44, 3) := by decide +kernel
theorem d_K_keepNow_50 : decode b_K_keepNow 50 = .ok (.invokevirtual 108, 3) := by decide +kernel
theorem d_K_keepNow_53 : decode b_K_keepNow 53 = .ok (.aload_n 0, 1) := by decide +kernel
theorem d_K_keepNow_54 : decode b_K_keepNow 54 = .ok (.getfield 15, 3) := by decide +kernel
theorem d_K_keepNow_57 : decode b_K_keepNow 57 = .ok (.iload_n 2, 1) := by decide +kernel
theorem d_K_keepNow_58 : decode b_K_keepNow 58 = .ok (.iload_n 1, 1) := by decide +kernel
theorem d_K_keepNow_59 : decode b_K_keepNow 59 = .ok (.iastore, 1) := by decide +kernel
theorem d_K_keepNow_60 : decode b_K_keepNow 60 = .ok (.aload_n 0, 1) := by decide +kernel
theorem d_K_keepNow_61 : decode b_K_keepNow 61 = .ok (.dup, 1) := by decide +kernel
theorem d_K_keepNow_62 : decode b_K_keepNow 62 = .ok (.getfield 33, 3) := by decide +kernel
theorem d_K_keepNow_65 : decode b_K_keepNow 65 = .ok (.iload_n 1, 1) := by decide +kernel
theorem d_K_keepNow_66 : decode b_K_keepNow 66 = .ok (.iadd, 1) := by decide +kernel
theorem d_K_keepNow_67 : decode b_K_keepNow 67 = .ok (.putfield 33, 3) := by decide +kernel
theorem d_K_keepNow_70 : decode b_K_keepNow 70 = .ok (.return_, 1) := by decide +kernel
theorem d_K_commit_0 : decode b_K_commit 0 = .ok (.bipush 8, 2) := by decide +kernel
theorem d_K_commit_2 : decode b_K_commit 2 = .ok (.aload_n 0, 1) := by decide +kernel
theorem d_K_commit_3 : decode b_K_commit 3 = .ok (.invokevirtual 96, 3) := by decide +kernel
theorem d_K_commit_6 : decode b_K_commit 6 = .ok (.iadd, 1) := by decide +kernel
theorem d_K_commit_7 : decode b_K_commit 7 = .ok (.istore_n 1, 1) := by decide +kernel
theorem d_K_commit_8 : decode b_K_commit 8 = .ok (.aload_n 0, 1) := by decide +kernel
theorem d_K_commit_9 : decode b_K_commit 9 = .ok (.iload_n 1, 1) := by decide +kernel
theorem d_K_commit_10 : decode b_K_commit 10 = .ok (.invokevirtual 100, 3) := by decide +kernel
theorem d_K_commit_13 : decode b_K_commit 13 = .ok (.iload_n 1, 1) := by decide +kernel
theorem d_K_commit_14 : decode b_K_commit 14 = .ok (.ireturn, 1) := by decide +kernel
theorem d_N_isSame_0 : decode b_N_isSame 0 = .ok (.aload_n 0, 1) := by decide +kernel
theorem d_N_isSame_1 : decode b_N_isSame 1 = .ok (.getfield 9, 3) := by decide +kernel
theorem d_N_isSame_4 : decode b_N_isSame 4 = .ok (.iload_n 1, 1) := by decide +kernel
theorem d_N_isSame_5 : decode b_N_isSame 5 = .ok (.iaload, 1) := by decide +kernel
theorem d_N_isSame_6 : decode b_N_isSame 6 = .ok (.aload_n 2, 1) := by decide +kernel
theorem d_N_isSame_7 : decode b_N_isSame 7 = .ok (.getfield 9, 3) := by decide +kernel
theorem d_N_isSame_10 : decode b_N_isSame 10 = .ok (.iload_n 1, 1) := by decide +kernel
theorem d_N_isSame_11 : decode b_N_isSame 11 = .ok (.iaload, 1) := by decide +kernel
theorem d_N_isSame_12 : decode b_N_isSame 12 = .ok (.if_icmp .ne 18, 3) := by decide +kernel
theorem d_N_isSame_15 : decode b_N_isSame 15 = .ok (.aload_n 0, 1) := by decide +kernel
theorem d_N_isSame_16 : decode b_N_isSame 16 = .ok (.getfield 15, 3) := by decide +kernel
theorem d_N_isSame_19 : decode b_N_isSame 19 = .ok (.iload_n 1, 1) := by decide +kernel
theorem d_N_isSame_20 : decode b_N_isSame 20 = .ok (.iaload, 1) := by decide +kernel
theorem d_N_isSame_21 : decode b_N_isSame 21 = .ok (.aload_n 2, 1) := by decide +kernel
theorem d_N_isSame_22 : decode b_N_isSame 22 = .ok (.getfield 15, 3) := by decide +kernel
theorem d_N_isSame_25 : decode b_N_isSame 25 = .ok (.iload_n 1, 1) := by decide +kernel
theorem d_N_isSame_26 : decode b_N_isSame 26 = .ok (.iaload, 1) := by decide +kernel
theorem d_N_isSame_27 : decode b_N_isSame 27 = .ok (.if_icmp .eq 5, 3) := by decide +kernel
theorem d_N_isSame_30 : decode b_N_isSame 30 = .ok (.iconst 0, 1) := by decide +kernel
theorem d_N_isSame_31 : decode b_N_isSame 31 = .ok (.ireturn, 1) := by decide +kernel
theorem d_N_isSame_32 : decode b_N_isSame 32 = .ok (.iconst 0, 1) := by decide +kernel
theorem d_N_isSame_33 : decode b_N_isSame 33 = .ok (.istore_n 3, 1) := by decide +kernel
theorem d_N_isSame_34 : decode b_N_isSame 34 = .ok (.iload_n 3, 1) := by decide +kernel
theorem d_N_isSame_35 : decode b_N_isSame 35 = .ok (.aload_n 0, 1) := by decide +kernel
theorem d_N_isSame_36 : decode b_N_isSame 36 = .ok (.getfield 15, 3) := by decide +kernel
theorem d_N_isSame_39 : decode b_N_isSame 39 = .ok (.iload_n 1, 1) := by decide +kernel
theorem d_N_isSame_40 : decode b_N_isSame 40 = .ok (.iaload, 1) := by decide +kernel
theorem d_N_isSame_41 : decode b_N_isSame 41 = .ok (.if_icmp .ge 72, 3) := by decide +kernel
theorem d_N_isSame_44 : decode b_N_isSame 44 = .ok (.aload_n 0, 1) := by decide +kernel
theorem d_N_isSame_45 : decode b_N_isSame 45 = .ok (.getfield 24, 3) := by decide +kernel
theorem d_N_isSame_48 : decode b_N_isSame 48 = .ok (.bipush 20, 2) := by decide +kernel
theorem d_N_isSame_50 : decode b_N_isSame 50 = .ok (.iload_n 1, 1) := by decide +kernel
theorem d_N_isSame_51 : decode b_N_isSame 51 = .ok (.imul, 1) := by decide +kernel
theorem d_N_isSame_52 : decode b_N_isSame 52 = .ok (.iload_n 3, 1) := by decide +kernel
theorem d_N_isSame_53 : decode b_N_isSame 53 = .ok (.iadd, 1) := by decide +kernel
theorem d_N_isSame_54 : decode b_N_isSame 54 = .ok (.laload, 1) := by decide +kernel
theorem d_N_isSame_55 : decode b_N_isSame 55 = .ok (.aload_n 2, 1) := by decide +kernel
theorem d_N_isSame_56 : decode b_N_isSame 56 = .ok (.getfield 24, 3) := by decide +kernel
theorem d_N_isSame_59 : decode b_N_isSame 59 = .ok (.bipush 20, 2) := by decide +kernel
theorem d_N_isSame_61 : decode b_N_isSame 61 = .ok (.iload_n 1, 1) := by decide +kernel
theorem d_N_isSame_62 : decode b_N_isSame 62 = .ok (.imul, 1) := by decide +kernel
theorem d_N_isSame_63 : decode b_N_isSame 63 = .ok (.iload_n 3, 1) := by decide +kernel
theorem d_N_isSame_64 : decode b_N_isSame 64 = .ok (.iadd, 1) := by decide +kernel
theorem d_N_isSame_65 : decode b_N_isSame 65 = .ok (.laload, 1) := by decide +kernel
theorem d_N_isSame_66 : decode b_N_isSame 66 = .ok (.lcmp, 1) := by decide +kernel
theorem d_N_isSame_67 : decode b_N_isSame 67 = .ok (.ifCond .ne 38, 3) := by decide +kernel
theorem d_N_isSame_70 : decode b_N_isSame 70 = .ok (.aload_n 0, 1) := by decide +kernel
theorem d_N_isSame_71 : decode b_N_isSame 71 = .ok (.getfield 9, 3) := by decide +kernel
theorem d_N_isSame_74 : decode b_N_isSame 74 = .ok (.iload_n 1, 1) := by decide +kernel
theorem d_N_isSame_75 : decode b_N_isSame 75 = .ok (.iaload, 1) := by decide +kernel
theorem d_N_isSame_76 : decode b_N_isSame 76 = .ok (.iconst 1, 1) := by decide +kernel
theorem d_N_isSame_77 : decode b_N_isSame 77 = .ok (.if_icmp .ne 30, 3) := by decide +kernel
theorem d_N_isSame_80 : decode b_N_isSame 80 = .ok (.aload_n 0, 1) := by decide +kernel
theorem d_N_isSame_81 : decode b_N_isSame 81 = .ok (.getfield 18, 3) := by decide +kernel
theorem d_N_isSame_84 : decode b_N_isSame 84 = .ok (.bipush 8, 2) := by decide +kernel
theorem d_N_isSame_86 : decode b_N_isSame 86 = .ok (.iload_n 1, 1) := by decide +kernel
theorem d_N_isSame_87 : decode b_N_isSame 87 = .ok (.imul, 1) := by decide +kernel
theorem d_N_isSame_88 : decode b_N_isSame 88 = .ok (.iload_n 3, 1) := by decide +kernel
theorem d_N_isSame_89 : decode b_N_isSame 89 = .ok (.iadd, 1) := by decide +kernel
theorem d_N_isSame_90 : decode b_N_isSame 90 = .ok (.iaload, 1) := by decide +kernel
theorem d_N_isSame_91 : decode b_N_isSame 91 = .ok (.aload_n 2, 1) := by decide +kernel
theorem d_N_isSame_92 : decode b_N_isSame 92 = .ok (.getfield 18, 3) := by decide +kernel
theorem d_N_isSame_95 : decode b_N_isSame 95 = .ok (.bipush 8, 2) := by decide +kernel
theorem d_N_isSame_97 : decode b_N_isSame 97 = .ok (.iload_n 1, 1) := by decide +kernel
theorem d_N_isSame_98 : decode b_N_isSame 98 = .ok (.imul, 1) := by decide +kernel
theorem d_N_isSame_99 : decode b_N_isSame 99 = .ok (.iload_n 3, 1) := by decide +kernel
theorem d_N_isSame_100 : decode b_N_isSame 100 = .ok (.iadd, 1) := by decide +kernel
theorem d_N_isSame_101 : decode b_N_isSame 101 = .ok (.iaload, 1) := by decide +kernel
theorem d_N_isSame_102 : decode b_N_isSame 102 = .ok (.if_icmp .eq 5, 3) := by decide +kernel
theorem d_N_isSame_105 : decode b_N_isSame 105 = .ok (.iconst 0, 1) := by decide +kernel
theorem d_N_isSame_106 : decode b_N_isSame 106 = .ok (.ireturn, 1) := by decide +kernel
theorem d_N_isSame_107 : decode b_N_isSame 107 = .ok (.iinc 3 1, 3) := by decide +kernel
theorem d_N_isSame_110 : decode b_N_isSame 110 = .ok (.goto (-76), 3) := by decide +kernel
theorem d_N_isSame_113 : decode b_N_isSame 113 = .ok (.iconst 1, 1) := by decide +kernel
theorem d_N_isSame_114 : decode b_N_isSame 114 = .ok (.ireturn, 1) := by decide +kernel
end
section
theorem d_N_bytesBehind_0 : decode b_N_bytesBehind 0 = .ok (.iconst 0, 1) := by decide +kernel
theorem d_N_bytesBehind_1 : decode b_N_bytesBehind 1 = .ok (.istore_n 2, 1) := by decide +kernel
theorem d_N_bytesBehind_2 : decode b_N_bytesBehind 2 = .ok (.iconst 0, 1) := by decide +kernel
theorem d_N_bytesBehind_3 : decode b_N_bytesBehind 3 = .ok (.istore_n 3, 1) := by decide +kernel
theorem d_N_bytesBehind_4 : decode b_N_bytesBehind 4 = .ok (.iload_n 3, 1) := by decide +kernel
theorem d_N_bytesBehind_5 : decode b_N_bytesBehind 5 = .ok (.bipush 100, 2) := by decide +kernel
theorem d_N_bytesBehind_7 : decode b_N_bytesBehind 7 = .ok (.if_icmp .ge 30, 3) := by decide +kernel
theorem d_N_bytesBehind_10 : decode b_N_bytesBehind 10 = .ok (.aload_n 0, 1) := by decide +kernel
theorem d_N_bytesBehind_11 : decode b_N_bytesBehind 11 = .ok (.getfield 9, 3) := by decide +kernel
theorem d_N_bytesBehind_14 : decode b_N_bytesBehind 14 = .ok (.iload_n 3, 1) := by decide +kernel
theorem d_N_bytesBehind_15 : decode b_N_bytesBehind 15 = .ok (.iaload, 1) := by decide +kernel
theorem d_N_bytesBehind_16 : decode b_N_bytesBehind 16 = .ok (.ifCond .eq 15, 3) := by decide +kernel
theorem d_N_bytesBehind_19 : decode b_N_bytesBehind 19 = .ok (.aload_n 0, 1) := by decide +kernel
theorem d_N_bytesBehind_20 : decode b_N_bytesBehind 20 = .ok (.iload_n 3, 1) := by decide +kernel
theorem d_N_bytesBehind_21 : decode b_N_bytesBehind 21 = .ok (.aload_n 1, 1) := by decide +kernel
theorem d_N_bytesBehind_22 : decode b_N_bytesBehind 22 = .ok (.invokevirtual 41, 3) := by decide +kernel
theorem d_N_bytesBehind_25 : decode b_N_bytesBehind 25 = .ok (.ifCond .ne 6, 3) := by decide +kernel
theorem d_N_bytesBehind_28 : decode b_N_bytesBehind 28 = .ok (.iinc 2 16, 3) := by decide +kernel
theorem d_N_bytesBehind_31 : decode b_N_bytesBehind 31 = .ok (.iinc 3 1, 3) := by decide +kernel
theorem d_N_bytesBehind_34 : decode b_N_bytesBehind 34 = .ok (.goto (-30), 3) := by decide +kernel
theorem d_N_bytesBehind_37 : decode b_N_bytesBehind 37 = .ok (.iconst 0, 1) := by decide +kernel
theorem d_N_bytesBehind_38 : decode b_N_bytesBehind 38 = .ok (.istore_n 3, 1) := by decide +kernel
theorem d_N_bytesBehind_39 : decode b_N_bytesBehind 39 = .ok (.iload_n 3, 1) := by decide +kernel
theorem d_N_bytesBehind_40 : decode b_N_bytesBehind 40 = .ok (.aload_n 0, 1) := by decide +kernel
theorem d_N_bytesBehind_41 : decode b_N_bytesBehind 41 = .ok (.getfield 37, 3) := by decide +kernel
theorem d_N_bytesBehind_44 : decode b_N_bytesBehind 44 = .ok (.if_icmp .ge 46, 3) := by decide +kernel
theorem d_N_bytesBehind_47 : decode b_N_bytesBehind 47 = .ok (.aload_n 1, 1) := by decide +kernel
theorem d_N_bytesBehind_48 : decode b_N_bytesBehind 48 = .ok (.aload_n 0, 1) := by decide +kernel
theorem d_N_bytesBehind_49 : decode b_N_bytesBehind 49 = .ok (.getfield 21, 3) := by decide +kernel
theorem d_N_bytesBehind_52 : decode b_N_bytesBehind 52 = .ok (.iload_n 3, 1) := by decide +kernel
theorem d_N_bytesBehind_53 : decode b_N_bytesBehind 53 = .ok (.iaload, 1) := by decide +kernel
theorem d_N_bytesBehind_54 : decode b_N_bytesBehind 54 = .ok (.invokevirtual 45, 3) := by decide +kernel
theorem d_N_bytesBehind_57 : decode b_N_bytesBehind 57 = .ok (.istore 4, 2) := by decide +kernel
theorem d_N_bytesBehind_59 : decode b_N_bytesBehind 59 = .ok (.iload 4, 2) := by decide +kernel
theorem d_N_bytesBehind_61 : decode b_N_bytesBehind 61 = .ok (.ifCond .lt 20, 3) := by decide +kernel
theorem d_N_bytesBehind_64 : decode b_N_bytesBehind 64 = .ok (.aload_n 1, 1) := by decide +kernel
theorem d_N_bytesBehind_65 : decode b_N_bytesBehind 65 = .ok (.getfield 28, 3) := by decide +kernel
theorem d_N_bytesBehind_68 : decode b_N_bytesBehind 68 = .ok (.iload 4, 2) := by decide +kernel
theorem d_N_bytesBehind_70 : decode b_N_bytesBehind 70 = .ok (.laload, 1) := by decide +kernel
theorem d_N_bytesBehind_71 : decode b_N_bytesBehind 71 = .ok (.aload_n 0, 1) := by decide +kernel
theorem d_N_bytesBehind_72 : decode b_N_bytesBehind 72 = .ok (.getfield 28, 3) := by decide +kernel
theorem d_N_bytesBehind_75 : decode b_N_bytesBehind 75 = .ok (.iload_n 3, 1) := by decide +kernel
theorem d_N_bytesBehind_76 : decode b_N_bytesBehind 76 = .ok (.laload, 1) := by decide +kernel
theorem d_N_bytesBehind_77 : decode b_N_bytesBehind 77 = .ok (.lcmp, 1) := by decide +kernel
theorem d_N_bytesBehind_78 : decode b_N_bytesBehind 78 = .ok (.ifCond .eq 6, 3) := by decide +kernel
theorem d_N_bytesBehind_81 : decode b_N_bytesBehind 81 = .ok (.iinc 2 6, 3) := by decide +kernel
theorem d_N_bytesBehind_84 : decode b_N_bytesBehind 84 = .ok (.iinc 3 1, 3) := by decide +kernel
theorem d_N_bytesBehind_87 : decode b_N_bytesBehind 87 = .ok (.goto (-48), 3) := by decide +kernel
theorem d_N_bytesBehind_90 : decode b_N_bytesBehind 90 = .ok (.iconst 0, 1) := by decide +kernel
theorem d_N_bytesBehind_91 : decode b_N_bytesBehind 91 = .ok (.istore_n 3, 1) := by decide +kernel
theorem d_N_bytesBehind_92 : decode b_N_bytesBehind 92 = .ok (.iload_n 3, 1) := by decide +kernel
theorem d_N_bytesBehind_93 : decode b_N_bytesBehind 93 = .ok (.aload_n 1, 1) := by decide +kernel
theorem d_N_bytesBehind_94 : decode b_N_bytesBehind 94 = .ok (.getfield 37, 3) := by decide +kernel
theorem d_N_bytesBehind_97 : decode b_N_bytesBehind 97 = .ok (.if_icmp .ge 25, 3) := by decide +kernel
theorem d_N_bytesBehind_100 : decode b_N_bytesBehind 100 = .ok (.aload_n 0, 1) := by decide +kernel
theorem d_N_bytesBehind_101 : decode b_N_bytesBehind 101 = .ok (.aload_n 1, 1) := by decide +kernel
theorem d_N_bytesBehind_102 : decode b_N_bytesBehind 102 = .ok (.getfield 21, 3) := by decide +kernel
theorem d_N_bytesBehind_105 : decode b_N_bytesBehind 105 = .ok (.iload_n 3, 1) := by decide +kernel
theorem d_N_bytesBehind_106 : decode b_N_bytesBehind 106 = .ok (.iaload, 1) := by decide +kernel
theorem d_N_bytesBehind_107 : decode b_N_bytesBehind 107 = .ok (.invokevirtual 45, 3) := by decide +kernel
theorem d_N_bytesBehind_110 : decode b_N_bytesBehind 110 = .ok (.ifCond .ge 6, 3) := by decide +kernel
theorem d_N_bytesBehind_113 : decode b_N_bytesBehind 113 = .ok (.iinc 2 6, 3) := by decide +kernel
theorem d_N_bytesBehind_116 : decode b_N_bytesBehind 116 = .ok (.iinc 3 1, 3) := by decide +kernel
theorem d_N_bytesBehind_119 : decode b_N_bytesBehind 119 = .ok (.goto (-27), 3) := by decide +kernel
theorem d_N_bytesBehind_122 : decode b_N_bytesBehind 122 = .ok (.iload_n 2, 1) := by decide +kernel
theorem d_N_bytesBehind_123 : decode b_N_bytesBehind 123 = .ok (.ireturn, 1) := by decide +kernel
theorem d_N_copy_0 : decode b_N_copy 0 = .ok (.aload_n 1, 1) := by decide +kernel
theorem d_N_copy_1 : decode b_N_copy 1 = .ok (.getfield 9, 3) := by decide +kernel
theorem d_N_copy_4 : decode b_N_copy 4 = .ok (.iconst 0, 1) := by decide +kernel
theorem d_N_copy_5 : decode b_N_copy 5 = .ok (.aload_n 0, 1) := by decide +kernel
theorem d_N_copy_6 : decode b_N_copy 6 = .ok (.getfield 9, 3) := by decide +kernel
theorem d_N_copy_9 : decode b_N_copy 9 = .ok (.iconst 0, 1) := by decide +kernel
theorem d_N_copy_10 : decode b_N_copy 10 = .ok (.bipush 100, 2) := by decide +kernel
theorem d_N_copy_12 : decode b_N_copy 12 = .ok (.invokestatic 31, 3) := by decide +kernel
theorem d_N_copy_15 : decode b_N_copy 15 = .ok (.aload_n 1, 1) := by decide +kernel
theorem d_N_copy_16 : decode b_N_copy 16 = .ok (.getfield 15, 3) := by decide +kernel
theorem d_N_copy_19 : decode b_N_copy 19 = .ok (.iconst 0, 1) := by decide +kernel
theorem d_N_copy_20 : decode b_N_copy 20 = .ok (.aload_n 0, 1) := by decide +kernel
theorem d_N_copy_21 : decode b_N_copy 21 = .ok (.getfield 15, 3) := by decide +kernel
theorem d_N_copy_24 : decode b_N_copy 24 = .ok (.iconst 0, 1) := by decide +kernel
theorem d_N_copy_25 : decode b_N_copy 25 = .ok (.bipush 100, 2) := by decide +kernel
theorem d_N_copy_27 : decode b_N_copy 27 = .ok (.invokestatic 31, 3) := by decide +kernel
theorem d_N_copy_30 : decode b_N_copy 30 = .ok (.aload_n 1, 1) := by decide +kernel
theorem d_N_copy_31 : decode b_N_copy 31 = .ok (.getfield 18, 3) := by decide +kernel
theorem d_N_copy_34 : decode b_N_copy 34 = .ok (.iconst 0, 1) := by decide +kernel
theorem d_N_copy_35 : decode b_N_copy 35 = .ok (.aload_n 0, 1) := by decide +kernel
theorem d_N_copy_36 : decode b_N_copy 36 = .ok (.getfield 18, 3) := by decide +kernel
theorem d_N_copy_39 : decode b_N_copy 39 = .ok (.iconst 0, 1) := by decide +kernel
theorem d_N_copy_40 : decode b_N_copy 40 = .ok (.sipush 800, 3) := by decide +kernel
theorem d_N_copy_43 : decode b_N_copy 43 = .ok (.invokestatic 31, 3) := by decide +kernel
theorem d_N_copy_46 : decode b_N_copy 46 = .ok (.aload_n 1, 1) := by decide +kernel
theorem d_N_copy_47 : decode b_N_copy 47 = .ok (.getfield 24, 3) := by decide +kernel
theorem d_N_copy_50 : decode b_N_copy 50 = .ok (.iconst 0, 1) := by decide +kernel
theorem d_N_copy_51 : decode b_N_copy 51 = .ok (.aload_n 0, 1) := by decide +kernel
theorem d_N_copy_52 : decode b_N_copy 52 = .ok (.getfield 24, 3) := by decide +kernel
theorem d_N_copy_55 : decode b_N_copy 55 = .ok (.iconst 0, 1) := by decide +kernel
theorem d_N_copy_56 : decode b_N_copy 56 = .ok (.sipush 2000, 3) := by decide +kernel
theorem d_N_copy_59 : decode b_N_copy 59 = .ok (.invokestatic 31, 3) := by decide +kernel
theorem d_N_copy_62 : decode b_N_copy 62 = .ok (.aload_n 1, 1) := by decide +kernel
theorem d_N_copy_63 : decode b_N_copy 63 = .ok (.getfield 21, 3) := by decide +kernel
theorem d_N_copy_66 : decode b_N_copy 66 = .ok (.iconst 0, 1) := by decide +kernel
theorem d_N_copy_67 : decode b_N_copy 67 = .ok (.aload_n 0, 1) := by decide +kernel
theorem d_N_copy_68 : decode b_N_copy 68 = .ok (.getfield 21, 3) := by decide +kernel
theorem d_N_copy_71 : decode b_N_copy 71 = .ok (.iconst 0, 1) := by decide +kernel
theorem d_N_copy_72 : decode b_N_copy 72 = .ok (.bipush 12, 2) := by decide +kernel
theorem d_N_copy_74 : decode b_N_copy 74 = .ok (.invokestatic 31, 3) := by decide +kernel
theorem d_N_copy_77 : decode b_N_copy 77 = .ok (.aload_n 1, 1) := by decide +kernel
theorem d_N_copy_78 : decode b_N_copy 78 = .ok (.getfield 28, 3) := by decide +kernel
theorem d_N_copy_81 : decode b_N_copy 81 = .ok (.iconst 0, 1) := by decide +kernel
theorem d_N_copy_82 : decode b_N_copy 82 = .ok (.aload_n 0, 1) := by decide +kernel
theorem d_N_copy_83 : decode b_N_copy 83 = .ok (.getfield 28, 3) := by decide +kernel
theorem d_N_copy_86 : decode b_N_copy 86 = .ok (.iconst 0, 1) := by decide +kernel
theorem d_N_copy_87 : decode b_N_copy 87 = .ok (.bipush 12, 2) := by decide +kernel
theorem d_N_copy_89 : decode b_N_copy 89 = .ok (.invokestatic 31, 3) := by decide +kernel
theorem d_N_copy_92 : decode b_N_copy 92 = .ok (.aload_n 0, 1) := by decide +kernel
theorem d_N_copy_93 : decode b_N_copy 93 = .ok (.aload_n 1, 1) := by decide +kernel
theorem d_N_copy_94 : decode b_N_copy 94 = .ok (.getfield 37, 3) := by decide +kernel
theorem d_N_copy_97 : decode b_N_copy 97 = .ok (.putfield 37, 3) := by decide +kernel
theorem d_N_copy_100 : decode b_N_copy 100 = .ok (.return_, 1) := by decide +kernel
theorem d_M_keep_0 : decode b_M_keep 0 = .ok (.aload_n 0, 1) := by decide +kernel
theorem d_M_keep_1 : decode b_M_keep 1 = .ok (.getfield 16, 3) := by decide +kernel
theorem d_M_keep_4 : decode b_M_keep 4 = .ok (.aload_n 0, 1) := by decide +kernel
theorem d_M_keep_5 : decode b_M_keep 5 = .ok (.getfield 10, 3) := by decide +kernel
theorem d_M_keep_8 : decode b_M_keep 8 = .ok (.invokevirtual 91, 3) := by decide +kernel
theorem d_M_keep_11 : decode b_M_keep 11 = .ok (.aload_n 0, 1) := by decide +kernel
theorem d_M_keep_12 : decode b_M_keep 12 = .ok (.dup, 1) := by decide +kernel
theorem d_M_keep_13 : decode b_M_keep 13 = .ok (.getfield 95, 3) := by decide +kernel
theorem d_M_keep_16 : decode b_M_keep 16 = .ok (.iload_n 1, 1) := by decide +kernel
theorem d_M_keep_17 : decode b_M_keep 17 = .ok (.iadd, 1) := by decide +kernel
theorem d_M_keep_18 : decode b_M_keep 18 = .ok (.putfield 95, 3) := by decide +kernel
theorem d_M_keep_21 : decode b_M_keep 21 = .ok (.aload_n 0, 1) := by decide +kernel
theorem d_M_keep_22 : decode b_M_keep 22 = .ok (.getfield 98, 3) := by decide +kernel
theorem d_M_keep_25 : decode b_M_keep 25 = .ok (.bipush 8, 2) := by decide +kernel
theorem d_M_keep_27 : decode b_M_keep 27 = .ok (.if_icmp .ne 64, 3) := by decide +kernel
theorem d_M_keep_30 : decode b_M_keep 30 = .ok (.aload_n 0, 1) := by decide +kernel
theorem d_M_keep_31 : decode b_M_keep 31 = .ok (.getfield 22, 3) := by decide +kernel
theorem d_M_keep_34 : decode b_M_keep 34 = .ok (.iconst 0, 1) := by decide +kernel
theorem d_M_keep_35 : decode b_M_keep 35 = .ok (.aaload, 1) := by decide +kernel
theorem d_M_keep_36 : decode b_M_keep 36 = .ok (.astore_n 2, 1) := by decide +kernel
theorem d_M_keep_37 : decode b_M_keep 37 = .ok (.aload_n 0, 1) := by decide +kernel
theorem d_M_keep_38 : decode b_M_keep 38 = .ok (.getfield 19, 3) := by decide +kernel
theorem d_M_keep_41 : decode b_M_keep 41 = .ok (.aload_n 2, 1) := by decide +kernel
theorem d_M_keep_42 : decode b_M_keep 42 = .ok (.invokevirtual 91, 3) := by decide +kernel
theorem d_M_keep_45 : decode b_M_keep 45 = .ok (.iconst 1, 1) := by decide +kernel
theorem d_M_keep_46 : decode b_M_keep 46 = .ok (.istore_n 3, 1) := by decide +kernel
theorem d_M_keep_47 : decode b_M_keep 47 = .ok (.iload_n 3, 1) := by decide +kernel
theorem d_M_keep_48 : decode b_M_keep 48 = .ok (.bipush 8, 2) := by decide +kernel
theorem d_M_keep_50 : decode b_M_keep 50 = .ok (.if_icmp .ge 23, 3) := by decide +kernel
theorem d_M_keep_53 : decode b_M_keep 53 = .ok (.aload_n 0, 1) := by decide +kernel
theorem d_M_keep_54 : decode b_M_keep 54 = .ok (.getfield 22, 3) := by decide +kernel
theorem d_M_keep_57 : decode b_M_keep 57 = .ok (.iload_n 3, 1) := by decide +kernel
theorem d_M_keep_58 : decode b_M_keep 58 = .ok (.iconst 1, 1) := by decide +kernel
theorem d_M_keep_59 : decode b_M_keep 59 = .ok (.isub, 1) := by decide +kernel
theorem d_M_keep_60 : decode b_M_keep 60 = .ok (.aload_n 0, 1) := by decide +kernel
theorem d_M_keep_61 : decode b_M_keep 61 = .ok (.getfield 22, 3) := by decide +kernel
theorem d_M_keep_64 : decode b_M_keep 64 = .ok (.iload_n 3, 1) := by decide +kernel
theorem d_M_keep_65 : decode b_M_keep 65 = .ok (.aaload, 1) := by decide +kernel
theorem d_M_keep_66 : decode b_M_keep 66 = .ok (.aastore, 1) := by decide +kernel
theorem d_M_keep_67 : decode b_M_keep 67 = .ok (.iinc 3 1, 3) := by decide +kernel
theorem d_M_keep_70 : decode b_M_keep 70 = .ok (.goto (-23), 3) := by decide +kernel
theorem d_M_keep_73 : decode b_M_keep 73 = .ok (.aload_n 0, 1) := by decide +kernel
theorem d_M_keep_74 : decode b_M_keep 74 = .ok (.getfield 22, 3) := by decide +kernel
theorem d_M_keep_77 : decode b_M_keep 77 = .ok (.bipush 7, 2) := by decide +kernel
theorem d_M_keep_79 : decode b_M_keep 79 = .ok (.aload_n 2, 1) := by decide +kernel
theorem d_M_keep_80 : decode b_M_keep 80 = .ok (.aastore, 1) := by decide +kernel
theorem d_M_keep_81 : decode b_M_keep 81 = .ok (.aload_n 0, 1) := by decide +kernel
theorem d_M_keep_82 : decode b_M_keep 82 = .ok (.dup, 1) := by decide +kernel
theorem d_M_keep_83 : decode b_M_keep 83 = .ok (.getfield 98, 3) := by decide +kernel
theorem d_M_keep_86 : decode b_M_keep 86 = .ok (.iconst 1, 1) := by decide +kernel
theorem d_M_keep_87 : decode b_M_keep 87 = .ok (.isub, 1) := by decide +kernel
theorem d_M_keep_88 : decode b_M_keep 88 = .ok (.putfield 98, 3) := by decide +kernel
theorem d_M_keep_91 : decode b_M_keep 91 = .ok (.aload_n 0, 1) := by decide +kernel
theorem d_M_keep_92 : decode b_M_keep 92 = .ok (.getfield 22, 3) := by decide +kernel
theorem d_M_keep_95 : decode b_M_keep 95 = .ok (.aload_n 0, 1) := by decide +kernel
theorem d_M_keep_96 : decode b_M_keep 96 = .ok (.getfield 98, 3) := by decide +kernel
theorem d_M_keep_99 : decode b_M_keep 99 = .ok (.aaload, 1) := by decide +kernel
theorem d_M_keep_100 : decode b_M_keep 100 = .ok (.aload_n 0, 1) := by decide +kernel
theorem d_M_keep_101 : decode b_M_keep 101 = .ok (.getfield 10, 3) := by decide +kernel
theorem d_M_keep_104 : decode b_M_keep 104 = .ok (.invokevirtual 91, 3) := by decide +kernel
theorem d_M_keep_107 : decode b_M_keep 107 = .ok (.aload_n 0, 1) := by decide +kernel
theorem d_M_keep_108 : decode b_M_keep 108 = .ok (.getfield 22, 3) := by decide +kernel
theorem d_M_keep_111 : decode b_M_keep 111 = .ok (.aload_n 0, 1) := by decide +kernel
theorem d_M_keep_112 : decode b_M_keep 112 = .ok (.getfield 98, 3) := by decide +kernel
theorem d_M_keep_115 : decode b_M_keep 115 = .ok (.aaload, 1) := by decide +kernel
theorem d_M_keep_116 : decode b_M_keep 116 = .ok (.iload_n 1, 1) := by decide +kernel
theorem d_M_keep_117 : decode b_M_keep 117 = .ok (.putfield 101, 3) := by decide +kernel
theorem d_M_keep_120 : decode b_M_keep 120 = .ok (.aload_n 0, 1) := by decide +kernel
theorem d_M_keep_121 : decode b_M_keep 121 = .ok (.dup, 1) := by decide +kernel
theorem d_M_keep_122 : decode b_M_keep 122 = .ok (.getfield 98, 3) := by decide +kernel
theorem d_M_keep_125 : decode b_M_keep 125 = .ok (.iconst 1, 1) := by decide +kernel
theorem d_M_keep_126 : decode b_M_keep 126 = .ok (.iadd, 1) := by decide +kernel
theorem d_M_keep_127 : decode b_M_keep 127 = .ok (.putfield 98, 3) := by decide +kernel
theorem d_M_keep_130 : decode b_M_keep 130 = .ok (.return_, 1) := by decide +kernel
theorem d_M_commit_0 : decode b_M_commit 0 = .ok (.bipush 8, 2) := by decide +kernel
theorem d_M_commit_2 : decode b_M_commit 2 = .ok (.aload_n 0, 1) := by decide +kernel
theorem d_M_commit_3 : decode b_M_commit 3 = .ok (.getfield 10, 3) := by decide +kernel
theorem d_M_commit_6 : decode b_M_commit 6 = .ok (.aload_n 0, 1) := by decide +kernel
theorem d_M_commit_7 : decode b_M_commit 7 = .ok (.getfield 16, 3) := by decide +kernel
theorem d_M_commit_10 : decode b_M_commit 10 = .ok (.invokevirtual 104, 3) := by decide +kernel
theorem d_M_commit_13 : decode b_M_commit 13 = .ok (.iadd, 1) := by decide +kernel
theorem d_M_commit_14 : decode b_M_commit 14 = .ok (.istore_n 1, 1) := by decide +kernel
theorem d_M_commit_15 : decode b_M_commit 15 = .ok (.aload_n 0, 1) := by decide +kernel
theorem d_M_commit_16 : decode b_M_commit 16 = .ok (.iload_n 1, 1) := by decide +kernel
theorem d_M_commit_17 : decode b_M_commit 17 = .ok (.invokevirtual 108, 3) := by decide +kernel
theorem d_M_commit_20 : decode b_M_commit 20 = .ok (.iload_n 1, 1) := by decide +kernel
theorem d_M_commit_21 : decode b_M_commit 21 = .ok (.ireturn, 1) := by decide +kernel
theorem d_K_undo_0 : decode b_K_undo 0 = .ok (.aload_n 0, 1) := by decide +kernel
theorem d_K_undo_1 : decode b_K_undo 1 = .ok (.invokevirtual 96, 3) := by decide +kernel
theorem d_K_undo_4 : decode b_K_undo 4 = .ok (.istore_n 1, 1) := by decide +kernel
theorem d_K_undo_5 : decode b_K_undo 5 = .ok (.aload_n 0, 1) := by decide +kernel
theorem d_K_undo_6 : decode b_K_undo 6 = .ok (.getfield 44, 3) := by decide +kernel
theorem d_K_undo_9 : decode b_K_undo 9 = .ok (.aload_n 0, 1) := by decide +kernel
theorem d_K_undo_10 : decode b_K_undo 10 = .ok (.invokevirtual 104, 3) := by decide +kernel
theorem d_K_undo_13 : decode b_K_undo 13 = .ok (.invokevirtual 108, 3) := by decide +kernel
theorem d_K_undo_16 : decode b_K_undo 16 = .ok (.iload_n 1, 1) := by decide +kernel
theorem d_K_undo_17 : decode b_K_undo 17 = .ok (.ireturn, 1) := by decide +kernel
theorem d_M_undo_0 : decode b_M_undo 0 = .ok (.aload_n 0, 1) := by decide +kernel
theorem d_M_undo_1 : decode b_M_undo 1 = .ok (.getfield 10, 3) := by decide +kernel
theorem d_M_undo_4 : decode b_M_undo 4 = .ok (.aload_n 0, 1) := by decide +kernel
theorem d_M_undo_5 : decode b_M_undo 5 = .ok (.getfield 16, 3) := by decide +kernel
theorem d_M_undo_8 : decode b_M_undo 8 = .ok (.invokevirtual 104, 3) := by decide +kernel
theorem d_M_undo_11 : decode b_M_undo 11 = .ok (.istore_n 1, 1) := by decide +kernel
theorem d_M_undo_12 : decode b_M_undo 12 = .ok (.aload_n 0, 1) := by decide +kernel
theorem d_M_undo_13 : decode b_M_undo 13 = .ok (.getfield 10, 3) := by decide +kernel
theorem d_M_undo_16 : decode b_M_undo 16 = .ok (.aload_n 0, 1) := by decide +kernel
theorem d_M_undo_17 : decode b_M_undo 17 = .ok (.getfield 16, 3) := by decide +kernel
theorem d_M_undo_20 : decode b_M_undo 20 = .ok (.invokevirtual 91, 3) := by decide +kernel
theorem d_M_undo_23 : decode b_M_undo 23 = .ok (.iload_n 1, 1) := by decide +kernel
theorem d_M_undo_24 : decode b_M_undo 24 = .ok (.ireturn, 1) := by decide +kernel
theorem d_R_enqueue_0 : decode b_R_enqueue 0 = .ok (.aload_n 0, 1) := by decide +kernel
theorem d_R_enqueue_1 : decode b_R_enqueue 1 = .ok (.getfield 9, 3) := by decide +kernel
theorem d_R_enqueue_4 : decode b_R_enqueue 4 = .ok (.iload_n 1, 1) := by decide +kernel
theorem d_R_enqueue_5 : decode b_R_enqueue 5 = .ok (.baload, 1) := by decide +kernel
theorem d_R_enqueue_6 : decode b_R_enqueue 6 = .ok (.ifCond .ne 30, 3) := by decide +kernel
theorem d_R_enqueue_9 : decode b_R_enqueue 9 = .ok (.aload_n 0, 1) := by decide +kernel
theorem d_R_enqueue_10 : decode b_R_enqueue 10 = .ok (.getfield 9, 3) := by decide +kernel
theorem d_R_enqueue_13 : decode b_R_enqueue 13 = .ok (.iload_n 1, 1) := by decide +kernel
theorem d_R_enqueue_14 : decode b_R_enqueue 14 = .ok (.iconst 1, 1) := by decide +kernel
theorem d_R_enqueue_15 : decode b_R_enqueue 15 = .ok (.bastore, 1) := by decide +kernel
theorem d_R_enqueue_16 : decode b_R_enqueue 16 = .ok (.aload_n 0, 1) := by decide +kernel
theorem d_R_enqueue_17 : decode b_R_enqueue 17 = .ok (.getfield 15, 3) := by decide +kernel
theorem d_R_enqueue_20 : decode b_R_enqueue 20 = .ok (.aload_n 0, 1) := by decide +kernel
theorem d_R_enqueue_21 : decode b_R_enqueue 21 = .ok (.getfield 19, 3) := by decide +kernel
theorem d_R_enqueue_24 : decode b_R_enqueue 24 = .ok (.iload_n 1, 1) := by decide +kernel
theorem d_R_enqueue_25 : decode b_R_enqueue 25 = .ok (.iastore, 1) := by decide +kernel
theorem d_R_enqueue_26 : decode b_R_enqueue 26 = .ok (.aload_n 0, 1) := by decide +kernel
theorem d_R_enqueue_27 : decode b_R_enqueue 27 = .ok (.dup, 1) := by decide +kernel
theorem d_R_enqueue_28 : decode b_R_enqueue 28 = .ok (.getfield 19, 3) := by decide +kernel
theorem d_R_enqueue_31 : decode b_R_enqueue 31 = .ok (.iconst 1, 1) := by decide +kernel
theorem d_R_enqueue_32 : decode b_R_enqueue 32 = .ok (.iadd, 1) := by decide +kernel
theorem d_R_enqueue_33 : decode b_R_enqueue 33 = .ok (.putfield 19, 3) := by decide +kernel
theorem d_R_enqueue_36 : decode b_R_enqueue 36 = .ok (.return_, 1) := by decide +kernel
theorem d_R_enqueueAll_0 : decode b_R_enqueueAll 0 = .ok (.aload_n 1, 1) := by decide +kernel
theorem d_R_enqueueAll_1 : decode b_R_enqueueAll 1 = .ok (.ifnonnull 4, 3) := by decide +kernel
theorem d_R_enqueueAll_4 : decode b_R_enqueueAll 4 = .ok (.return_, 1) := by decide +kernel
theorem d_R_enqueueAll_5 : decode b_R_enqueueAll 5 = .ok (.iconst 0, 1) := by decide +kernel
theorem d_R_enqueueAll_6 : decode b_R_enqueueAll 6 = .ok (.istore_n 2, 1) := by decide +kernel
theorem d_R_enqueueAll_7 : decode b_R_enqueueAll 7 = .ok (.iload_n 2, 1) := by decide +kernel
theorem d_R_enqueueAll_8 : decode b_R_enqueueAll 8 = .ok (.aload_n 1, 1) := by decide +kernel
theorem d_R_enqueueAll_9 : decode b_R_enqueueAll 9 = .ok (.getfield 41, 3) := by decide +kernel
theorem d_R_enqueueAll_12 : decode b_R_enqueueAll 12 = .ok (.if_icmp .ge 40, 3) := by decide +kernel
theorem d_R_enqueueAll_15 : decode b_R_enqueueAll 15 = .ok (.aload_n 1, 1) := by decide +kernel
theorem d_R_enqueueAll_16 : decode b_R_enqueueAll 16 = .ok (.getfield 46, 3) := by decide +kernel
theorem d_R_enqueueAll_19 : decode b_R_enqueueAll 19 = .ok (.iload_n 2, 1) := by decide +kernel
theorem d_R_enqueueAll_20 : decode b_R_enqueueAll 20 = .ok (.laload, 1) := by decide +kernel
theorem d_R_enqueueAll_21 : decode b_R_enqueueAll 21 = .ok (.ldc2_w 50, 3) := by decide +kernel
theorem d_R_enqueueAll_24 : decode b_R_enqueueAll 24 = .ok (.lsub, 1) := by decide +kernel
theorem d_R_enqueueAll_25 : decode b_R_enqueueAll 25 = .ok (.lstore_n 3, 1) := by decide +kernel
theorem d_R_enqueueAll_26 : decode b_R_enqueueAll 26 = .ok (.lload_n 3, 1) := by decide +kernel
theorem d_R_enqueueAll_27 : decode b_R_enqueueAll 27 = .ok (.lconst 0, 1) := by decide +kernel
theorem d_R_enqueueAll_28 : decode b_R_enqueueAll 28 = .ok (.lcmp, 1) := by decide +kernel
theorem d_R_enqueueAll_29 : decode b_R_enqueueAll 29 = .ok (.ifCond .lt 17, 3) := by decide +kernel
theorem d_R_enqueueAll_32 : decode b_R_enqueueAll 32 = .ok (.lload_n 3, 1) := by decide +kernel
theorem d_R_enqueueAll_33 : decode b_R_enqueueAll 33 = .ok (.ldc2_w 52, 3) := by decide +kernel
theorem d_R_enqueueAll_36 : decode b_R_enqueueAll 36 = .ok (.lcmp, 1) := by decide +kernel
theorem d_R_enqueueAll_37 : decode b_R_enqueueAll 37 = .ok (.ifCond .ge 9, 3) := by decide +kernel
theorem d_R_enqueueAll_40 : decode b_R_enqueueAll 40 = .ok (.aload_n 0, 1) := by decide +kernel
theorem d_R_enqueueAll_41 : decode b_R_enqueueAll 41 = .ok (.lload_n 3, 1) := by decide +kernel
theorem d_R_enqueueAll_42 : decode b_R_enqueueAll 42 = .ok (.l2i, 1) := by decide +kernel
theorem d_R_enqueueAll_43 : decode b_R_enqueueAll 43 = .ok (.invokevirtual 54, 3) := by decide +kernel
theorem d_R_enqueueAll_46 : decode b_R_enqueueAll 46 = .ok (.iinc 2 1, 3) := by decide +kernel
theorem d_R_enqueueAll_49 : decode b_R_enqueueAll 49 = .ok (.goto (-42), 3) := by decide +kernel
theorem d_R_enqueueAll_52 : decode b_R_enqueueAll 52 = .ok (.return_, 1) := by decide +kernel
theorem d_R_walk_0 : decode b_R_walk 0 = .ok (.aload_n 0, 1) := by decide +kernel
theorem d_R_walk_1 : decode b_R_walk 1 = .ok (.iconst 0, 1) := by decide +kernel
theorem d_R_walk_2 : decode b_R_walk 2 = .ok (.putfield 19, 3) := by decide +kernel
theorem d_R_walk_5 : decode b_R_walk 5 = .ok (.iconst 0, 1) := by decide +kernel
theorem d_R_walk_6 : decode b_R_walk 6 = .ok (.istore_n 2, 1) := by decide +kernel
theorem d_R_walk_7 : decode b_R_walk 7 = .ok (.iload_n 2, 1) := by decide +kernel
theorem d_R_walk_8 : decode b_R_walk 8 = .ok (.bipush 100, 2) := by decide +kernel
theorem d_R_walk_10 : decode b_R_walk 10 = .ok (.if_icmp .ge 16, 3) := by decide +kernel
theorem d_R_walk_13 : decode b_R_walk 13 = .ok (.aload_n 0, 1) := by decide +kernel
theorem d_R_walk_14 : decode b_R_walk 14 = .ok (.getfield 9, 3) := by decide +kernel
theorem d_R_walk_17 : decode b_R_walk 17 = .ok (.iload_n 2, 1) := by decide +kernel
theorem d_R_walk_18 : decode b_R_walk 18 = .ok (.iconst 0, 1) := by decide +kernel
theorem d_R_walk_19 : decode b_R_walk 19 = .ok (.bastore, 1) := by decide +kernel
theorem d_R_walk_20 : decode b_R_walk 20 = .ok (.iinc 2 1, 3) := by decide +kernel
theorem d_R_walk_23 : decode b_R_walk 23 = .ok (.goto (-16), 3) := by decide +kernel
theorem d_R_walk_26 : decode b_R_walk 26 = .ok (.aload_n 0, 1) := by decide +kernel
theorem d_R_walk_27 : decode b_R_walk 27 = .ok (.aload_n 1, 1) := by decide +kernel
theorem d_R_walk_28 : decode b_R_walk 28 = .ok (.getfield 33, 3) := by decide +kernel
theorem d_R_walk_31 : decode b_R_walk 31 = .ok (.invokevirtual 37, 3) := by decide +kernel
theorem d_R_walk_34 : decode b_R_walk 34 = .ok (.iconst 0, 1) := by decide +kernel
theorem d_R_walk_35 : decode b_R_walk 35 = .ok (.istore_n 2, 1) := by decide +kernel
theorem d_R_walk_36 : decode b_R_walk 36 = .ok (.iload_n 2, 1) := by decide +kernel
theorem d_R_walk_37 : decode b_R_walk 37 = .ok (.aload_n 0, 1) := by decide +kernel
theorem d_R_walk_38 : decode b_R_walk 38 = .ok (.getfield 19, 3) := by decide +kernel
theorem d_R_walk_41 : decode b_R_walk 41 = .ok (.if_icmp .ge 30, 3) := by decide +kernel
theorem d_R_walk_44 : decode b_R_walk 44 = .ok (.iload_n 2, 1) := by decide +kernel
theorem d_R_walk_45 : decode b_R_walk 45 = .ok (.bipush 100, 2) := by decide +kernel
theorem d_R_walk_47 : decode b_R_walk 47 = .ok (.if_icmp .ge 24, 3) := by decide +kernel
theorem d_R_walk_50 : decode b_R_walk 50 = .ok (.aload_n 0, 1) := by decide +kernel
theorem d_R_walk_51 : decode b_R_walk 51 = .ok (.aload_n 1, 1) := by decide +kernel
theorem d_R_walk_52 : decode b_R_walk 52 = .ok (.getfield 27, 3) := by decide +kernel
theorem d_R_walk_55 : decode b_R_walk 55 = .ok (.aload_n 0, 1) := by decide +kernel
theorem d_R_walk_56 : decode b_R_walk 56 = .ok (.getfield 15, 3) := by decide +kernel
theorem d_R_walk_59 : decode b_R_walk 59 = .ok (.iload_n 2, 1) := by decide +kernel
theorem d_R_walk_60 : decode b_R_walk 60 = .ok (.iaload, 1) := by decide +kernel
theorem d_R_walk_61 : decode b_R_walk 61 = .ok (.aaload, 1) := by decide +kernel
theorem d_R_walk_62 : decode b_R_walk 62 = .ok (.invokevirtual 37, 3) := by decide +kernel
theorem d_R_walk_65 : decode b_R_walk 65 = .ok (.iinc 2 1, 3) := by decide +kernel
theorem d_R_walk_68 : decode b_R_walk 68 = .ok (.goto (-32), 3) := by decide +kernel
theorem d_R_walk_71 : decode b_R_walk 71 = .ok (.return_, 1) := by decide +kernel
theorem d_R_dropUnreached_0 : decode b_R_dropUnreached 0 = .ok (.aload_n 0, 1) := by decide +kernel
theorem d_R_dropUnreached_1 : decode b_R_dropUnreached 1 = .ok (.aload_n 1, 1) := by decide +kernel
theorem d_R_dropUnreached_2 : decode b_R_dropUnreached 2 = .ok (.invokevirtual 23, 3) := by decide +kernel
theorem d_R_dropUnreached_5 : decode b_R_dropUnreached 5 = .ok (.iconst 0, 1) := by decide +kernel
theorem d_R_dropUnreached_6 : decode b_R_dropUnreached 6 = .ok (.istore_n 2, 1) := by decide +kernel
theorem d_R_dropUnreached_7 : decode b_R_dropUnreached 7 = .ok (.iconst 0, 1) := by decide +kernel
theorem d_R_dropUnreached_8 : decode b_R_dropUnreached 8 = .ok (.istore_n 3, 1) := by decide +kernel
theorem d_R_dropUnreached_9 : decode b_R_dropUnreached 9 = .ok (.iload_n 3, 1) := by decide +kernel
theorem d_R_dropUnreached_10 : decode b_R_dropUnreached 10 = .ok (.bipush 100, 2) := by decide +kernel
theorem d_R_dropUnreached_12 : decode b_R_dropUnreached 12 = .ok (.if_icmp .ge 37, 3) := by decide +kernel
theorem d_R_dropUnreached_15 : decode b_R_dropUnreached 15 = .ok (.aload_n 1, 1) := by decide +kernel
theorem d_R_dropUnreached_16 : decode b_R_dropUnreached 16 = .ok (.getfield 27, 3) := by decide +kernel
theorem d_R_dropUnreached_19 : decode b_R_dropUnreached 19 = .ok (.iload_n 3, 1) := by decide +kernel
theorem d_R_dropUnreached_20 : decode b_R_dropUnreached 20 = .ok (.aaload, 1) := by decide +kernel
theorem d_R_dropUnreached_21 : decode b_R_dropUnreached 21 = .ok (.ifnull 22, 3) := by decide +kernel
theorem d_R_dropUnreached_24 : decode b_R_dropUnreached 24 = .ok (.aload_n 0, 1) := by decide +kernel
theorem d_R_dropUnreached_25 : decode b_R_dropUnreached 25 = .ok (.getfield 9, 3) := by decide +kernel
theorem d_R_dropUnreached_28 : decode b_R_dropUnreached 28 = .ok (.iload_n 3, 1) := by decide +kernel
theorem d_R_dropUnreached_29 : decode b_R_dropUnreached 29 = .ok (.baload, 1) := by decide +kernel
theorem d_R_dropUnreached_30 : decode b_R_dropUnreached 30 = .ok (.ifCond .ne 13, 3) := by decide +kernel
theorem d_R_dropUnreached_33 : decode b_R_dropUnreached 33 = .ok (.aload_n 1, 1) := by decide +kernel
theorem d_R_dropUnreached_34 : decode b_R_dropUnreached 34 = .ok (.getfield 27, 3) := by decide +kernel
theorem d_R_dropUnreached_37 : decode b_R_dropUnreached 37 = .ok (.iload_n 3, 1) := by decide +kernel
theorem d_R_dropUnreached_38 : decode b_R_dropUnreached 38 = .ok (.aconst_null, 1) := by decide +kernel
theorem d_R_dropUnreached_39 : decode b_R_dropUnreached 39 = .ok (.aastore, 1) := by decide +kernel
theorem d_R_dropUnreached_40 : decode b_R_dropUnreached 40 = .ok (.iinc 2 1, 3) := by decide +kernel
theorem d_R_dropUnreached_43 : decode b_R_dropUnreached 43 = .ok (.iinc 3 1, 3) := by decide +kernel
theorem d_R_dropUnreached_46 : decode b_R_dropUnreached 46 = .ok (.goto (-37), 3) := by decide +kernel
theorem d_R_dropUnreached_49 : decode b_R_dropUnreached 49 = .ok (.iload_n 2, 1) := by decide +kernel
theorem d_R_dropUnreached_50 : decode b_R_dropUnreached 50 = .ok (.ireturn, 1) := by decide +kernel
theorem d_K_sweep_0 : decode b_K_sweep 0 = .ok (.aload_n 0, 1) := by decide +kernel
theorem d_K_sweep_1 : decode b_K_sweep 1 = .ok (.getfield 44, 3) := by decide +kernel
theorem d_K_sweep_4 : decode b_K_sweep 4 = .ok (.aload_n 0, 1) := by decide +kernel
theorem d_K_sweep_5 : decode b_K_sweep 5 = .ok (.invokevirtual 104, 3) := by decide +kernel
theorem d_K_sweep_8 : decode b_K_sweep 8 = .ok (.invokevirtual 108, 3) := by decide +kernel
theorem d_K_sweep_11 : decode b_K_sweep 11 = .ok (.aload_n 0, 1) := by decide +kernel
theorem d_K_sweep_12 : decode b_K_sweep 12 = .ok (.getfield 22, 3) := by decide +kernel
theorem d_K_sweep_15 : decode b_K_sweep 15 = .ok (.aload_n 0, 1) := by decide +kernel
theorem d_K_sweep_16 : decode b_K_sweep 16 = .ok (.getfield 44, 3) := by decide +kernel
theorem d_K_sweep_19 : decode b_K_sweep 19 = .ok (.invokevirtual 112, 3) := by decide +kernel
theorem d_K_sweep_22 : decode b_K_sweep 22 = .ok (.istore_n 1, 1) := by decide +kernel
theorem d_K_sweep_23 : decode b_K_sweep 23 = .ok (.iload_n 1, 1) := by decide +kernel
theorem d_K_sweep_24 : decode b_K_sweep 24 = .ok (.ifCond .le 9, 3) := by decide +kernel
theorem d_K_sweep_27 : decode b_K_sweep 27 = .ok (.aload_n 0, 1) := by decide +kernel
theorem d_K_sweep_28 : decode b_K_sweep 28 = .ok (.bipush 8, 2) := by decide +kernel
theorem d_K_sweep_30 : decode b_K_sweep 30 = .ok (.invokevirtual 100, 3) := by decide +kernel
theorem d_K_sweep_33 : decode b_K_sweep 33 = .ok (.iload_n 1, 1) := by decide +kernel
theorem d_K_sweep_34 : decode b_K_sweep 34 = .ok (.ireturn, 1) := by decide +kernel
theorem d_M_reach_0 : decode b_M_reach 0 = .ok (.lload_n 1, 1) := by decide +kernel
theorem d_M_reach_1 : decode b_M_reach 1 = .ok (.ldc2_w 47, 3) := by decide +kernel
theorem d_M_reach_4 : decode b_M_reach 4 = .ok (.lcmp, 1) := by decide +kernel
theorem d_M_reach_5 : decode b_M_reach 5 = .ok (.ifCond .le 19, 3) := by decide +kernel
theorem d_M_reach_8 : decode b_M_reach 8 = .ok (.aload_n 0, 1) := by decide +kernel
theorem d_M_reach_9 : decode b_M_reach 9 = .ok (.getfield 26, 3) := by decide +kernel
theorem d_M_reach_12 : decode b_M_reach 12 = .ok (.lload_n 1, 1) := by decide +kernel
theorem d_M_reach_13 : decode b_M_reach 13 = .ok (.ldc2_w 47, 3) := by decide +kernel
theorem d_M_reach_16 : decode b_M_reach 16 = .ok (.lsub, 1) := by decide +kernel
theorem d_M_reach_17 : decode b_M_reach 17 = .ok (.lconst 1, 1) := by decide +kernel
theorem d_M_reach_18 : decode b_M_reach 18 = .ok (.lsub, 1) := by decide +kernel
theorem d_M_reach_19 : decode b_M_reach 19 = .ok (.l2i, 1) := by decide +kernel
theorem d_M_reach_20 : decode b_M_reach 20 = .ok (.baload, 1) := by decide +kernel
theorem d_M_reach_21 : decode b_M_reach 21 = .ok (.ifCond .eq 5, 3) := by decide +kernel
theorem d_M_reach_24 : decode b_M_reach 24 = .ok (.iload_n 3, 1) := by decide +kernel
theorem d_M_reach_25 : decode b_M_reach 25 = .ok (.ireturn, 1) := by decide +kernel
theorem d_M_reach_26 : decode b_M_reach 26 = .ok (.aload_n 0, 1) := by decide +kernel
theorem d_M_reach_27 : decode b_M_reach 27 = .ok (.getfield 26, 3) := by decide +kernel
theorem d_M_reach_30 : decode b_M_reach 30 = .ok (.lload_n 1, 1) := by decide +kernel
theorem d_M_reach_31 : decode b_M_reach 31 = .ok (.ldc2_w 47, 3) := by decide +kernel
theorem d_M_reach_34 : decode b_M_reach 34 = .ok (.lsub, 1) := by decide +kernel
theorem d_M_reach_35 : decode b_M_reach 35 = .ok (.lconst 1, 1) := by decide +kernel
theorem d_M_reach_36 : decode b_M_reach 36 = .ok (.lsub, 1) := by decide +kernel
theorem d_M_reach_37 : decode b_M_reach 37 = .ok (.l2i, 1) := by decide +kernel
theorem d_M_reach_38 : decode b_M_reach 38 = .ok (.iconst 1, 1) := by decide +kernel
theorem d_M_reach_39 : decode b_M_reach 39 = .ok (.bastore, 1) := by decide +kernel
theorem d_M_reach_40 : decode b_M_reach 40 = .ok (.aload_n 0, 1) := by decide +kernel
theorem d_M_reach_41 : decode b_M_reach 41 = .ok (.getfield 30, 3) := by decide +kernel
theorem d_M_reach_44 : decode b_M_reach 44 = .ok (.iload_n 3, 1) := by decide +kernel
theorem d_M_reach_45 : decode b_M_reach 45 = .ok (.lload_n 1, 1) := by decide +kernel
theorem d_M_reach_46 : decode b_M_reach 46 = .ok (.ldc2_w 47, 3) := by decide +kernel
theorem d_M_reach_49 : decode b_M_reach 49 = .ok (.lsub, 1) := by decide +kernel
theorem d_M_reach_50 : decode b_M_reach 50 = .ok (.lconst 1, 1) := by decide +kernel
theorem d_M_reach_51 : decode b_M_reach 51 = .ok (.lsub, 1) := by decide +kernel
theorem d_M_reach_52 : decode b_M_reach 52 = .ok (.l2i, 1) := by decide +kernel
theorem d_M_reach_53 : decode b_M_reach 53 = .ok (.iastore, 1) := by decide +kernel
theorem d_M_reach_54 : decode b_M_reach 54 = .ok (.iload_n 3, 1) := by decide +kernel
theorem d_M_reach_55 : decode b_M_reach 55 = .ok (.iconst 1, 1) := by decide +kernel
theorem d_M_reach_56 : decode b_M_reach 56 = .ok (.iadd, 1) := by decide +kernel
theorem d_M_reach_57 : decode b_M_reach 57 = .ok (.ireturn, 1) := by decide +kernel
end
section
theorem d_M_sweep_0 : decode b_M_sweep 0 = .ok (.aload_n 0, 1) := by decide +kernel
theorem d_M_sweep_1 : decode b_M_sweep 1 = .ok (.getfield 10, 3) := by decide +kernel
theorem d_M_sweep_4 : decode b_M_sweep 4 = .ok (.aload_n 0, 1) := by decide +kernel
theorem d_M_sweep_5 : decode b_M_sweep 5 = .ok (.getfield 16, 3) := by decide +kernel
theorem d_M_sweep_8 : decode b_M_sweep 8 = .ok (.invokevirtual 91, 3) := by decide +kernel
theorem d_M_sweep_11 : decode b_M_sweep 11 = .ok (.aload_n 0, 1) := by decide +kernel
theorem d_M_sweep_12 : decode b_M_sweep 12 = .ok (.getfield 26, 3) := by decide +kernel
theorem d_M_sweep_15 : decode b_M_sweep 15 = .ok (.astore_n 1, 1) := by decide +kernel
theorem d_M_sweep_16 : decode b_M_sweep 16 = .ok (.aload_n 0, 1) := by decide +kernel
theorem d_M_sweep_17 : decode b_M_sweep 17 = .ok (.getfield 30, 3) := by decide +kernel
theorem d_M_sweep_20 : decode b_M_sweep 20 = .ok (.astore_n 2, 1) := by decide +kernel
theorem d_M_sweep_21 : decode b_M_sweep 21 = .ok (.iconst 0, 1) := by decide +kernel
theorem d_M_sweep_22 : decode b_M_sweep 22 = .ok (.istore_n 3, 1) := by decide +kernel
theorem d_M_sweep_23 : decode b_M_sweep 23 = .ok (.iconst 0, 1) := by decide +kernel
theorem d_M_sweep_24 : decode b_M_sweep 24 = .ok (.istore 4, 2) := by decide +kernel
theorem d_M_sweep_26 : decode b_M_sweep 26 = .ok (.iconst 0, 1) := by decide +kernel
theorem d_M_sweep_27 : decode b_M_sweep 27 = .ok (.istore 5, 2) := by decide +kernel
theorem d_M_sweep_29 : decode b_M_sweep 29 = .ok (.iload 5, 2) := by decide +kernel
theorem d_M_sweep_31 : decode b_M_sweep 31 = .ok (.bipush 100, 2) := by decide +kernel
theorem d_M_sweep_33 : decode b_M_sweep 33 = .ok (.if_icmp .ge 14, 3) := by decide +kernel
theorem d_M_sweep_36 : decode b_M_sweep 36 = .ok (.aload_n 1, 1) := by decide +kernel
theorem d_M_sweep_37 : decode b_M_sweep 37 = .ok (.iload 5, 2) := by decide +kernel
theorem d_M_sweep_39 : decode b_M_sweep 39 = .ok (.iconst 0, 1) := by decide +kernel
theorem d_M_sweep_40 : decode b_M_sweep 40 = .ok (.bastore, 1) := by decide +kernel
theorem d_M_sweep_41 : decode b_M_sweep 41 = .ok (.iinc 5 1, 3) := by decide +kernel
theorem d_M_sweep_44 : decode b_M_sweep 44 = .ok (.goto (-15), 3) := by decide +kernel
theorem d_M_sweep_47 : decode b_M_sweep 47 = .ok (.iconst 0, 1) := by decide +kernel
theorem d_M_sweep_48 : decode b_M_sweep 48 = .ok (.istore 5, 2) := by decide +kernel
theorem d_M_sweep_50 : decode b_M_sweep 50 = .ok (.iload 5, 2) := by decide +kernel
theorem d_M_sweep_52 : decode b_M_sweep 52 = .ok (.aload_n 0, 1) := by decide +kernel
theorem d_M_sweep_53 : decode b_M_sweep 53 = .ok (.getfield 10, 3) := by decide +kernel
theorem d_M_sweep_56 : decode b_M_sweep 56 = .ok (.getfield 82, 3) := by decide +kernel
theorem d_M_sweep_59 : decode b_M_sweep 59 = .ok (.if_icmp .ge 25, 3) := by decide +kernel
theorem d_M_sweep_62 : decode b_M_sweep 62 = .ok (.aload_n 0, 1) := by decide +kernel
theorem d_M_sweep_63 : decode b_M_sweep 63 = .ok (.aload_n 0, 1) := by decide +kernel
theorem d_M_sweep_64 : decode b_M_sweep 64 = .ok (.getfield 10, 3) := by decide +kernel
theorem d_M_sweep_67 : decode b_M_sweep 67 = .ok (.getfield 89, 3) := by decide +kernel
theorem d_M_sweep_70 : decode b_M_sweep 70 = .ok (.iload 5, 2) := by decide +kernel
theorem d_M_sweep_72 : decode b_M_sweep 72 = .ok (.laload, 1) := by decide +kernel
theorem d_M_sweep_73 : decode b_M_sweep 73 = .ok (.iload_n 3, 1) := by decide +kernel
theorem d_M_sweep_74 : decode b_M_sweep 74 = .ok (.invokevirtual 112, 3) := by decide +kernel
theorem d_M_sweep_77 : decode b_M_sweep 77 = .ok (.istore_n 3, 1) := by decide +kernel
theorem d_M_sweep_78 : decode b_M_sweep 78 = .ok (.iinc 5 1, 3) := by decide +kernel
theorem d_M_sweep_81 : decode b_M_sweep 81 = .ok (.goto (-31), 3) := by decide +kernel
theorem d_M_sweep_84 : decode b_M_sweep 84 = .ok (.iconst 0, 1) := by decide +kernel
theorem d_M_sweep_85 : decode b_M_sweep 85 = .ok (.istore 5, 2) := by decide +kernel
theorem d_M_sweep_87 : decode b_M_sweep 87 = .ok (.iload 5, 2) := by decide +kernel
theorem d_M_sweep_89 : decode b_M_sweep 89 = .ok (.iload_n 3, 1) := by decide +kernel
theorem d_M_sweep_90 : decode b_M_sweep 90 = .ok (.if_icmp .ge 59, 3) := by decide +kernel
theorem d_M_sweep_93 : decode b_M_sweep 93 = .ok (.iconst 0, 1) := by decide +kernel
theorem d_M_sweep_94 : decode b_M_sweep 94 = .ok (.istore 6, 2) := by decide +kernel
theorem d_M_sweep_96 : decode b_M_sweep 96 = .ok (.iload 6, 2) := by decide +kernel
theorem d_M_sweep_98 : decode b_M_sweep 98 = .ok (.aload_n 0, 1) := by decide +kernel
theorem d_M_sweep_99 : decode b_M_sweep 99 = .ok (.getfield 10, 3) := by decide +kernel
theorem d_M_sweep_102 : decode b_M_sweep 102 = .ok (.getfield 51, 3) := by decide +kernel
theorem d_M_sweep_105 : decode b_M_sweep 105 = .ok (.aload_n 2, 1) := by decide +kernel
theorem d_M_sweep_106 : decode b_M_sweep 106 = .ok (.iload 5, 2) := by decide +kernel
theorem d_M_sweep_108 : decode b_M_sweep 108 = .ok (.iaload, 1) := by decide +kernel
theorem d_M_sweep_109 : decode b_M_sweep 109 = .ok (.iaload, 1) := by decide +kernel
theorem d_M_sweep_110 : decode b_M_sweep 110 = .ok (.if_icmp .ge 33, 3) := by decide +kernel
theorem d_M_sweep_113 : decode b_M_sweep 113 = .ok (.aload_n 0, 1) := by decide +kernel
theorem d_M_sweep_114 : decode b_M_sweep 114 = .ok (.aload_n 0, 1) := by decide +kernel
theorem d_M_sweep_115 : decode b_M_sweep 115 = .ok (.getfield 10, 3) := by decide +kernel
theorem d_M_sweep_118 : decode b_M_sweep 118 = .ok (.getfield 68, 3) := by decide +kernel
theorem d_M_sweep_121 : decode b_M_sweep 121 = .ok (.bipush 20, 2) := by decide +kernel
theorem d_M_sweep_123 : decode b_M_sweep 123 = .ok (.aload_n 2, 1) := by decide +kernel
theorem d_M_sweep_124 : decode b_M_sweep 124 = .ok (.iload 5, 2) := by decide +kernel
theorem d_M_sweep_126 : decode b_M_sweep 126 = .ok (.iaload, 1) := by decide +kernel
theorem d_M_sweep_127 : decode b_M_sweep 127 = .ok (.imul, 1) := by decide +kernel
theorem d_M_sweep_128 : decode b_M_sweep 128 = .ok (.iload 6, 2) := by decide +kernel
theorem d_M_sweep_130 : decode b_M_sweep 130 = .ok (.iadd, 1) := by decide +kernel
theorem d_M_sweep_131 : decode b_M_sweep 131 = .ok (.laload, 1) := by decide +kernel
theorem d_M_sweep_132 : decode b_M_sweep 132 = .ok (.iload_n 3, 1) := by decide +kernel
theorem d_M_sweep_133 : decode b_M_sweep 133 = .ok (.invokevirtual 112, 3) := by decide +kernel
theorem d_M_sweep_136 : decode b_M_sweep 136 = .ok (.istore_n 3, 1) := by decide +kernel
theorem d_M_sweep_137 : decode b_M_sweep 137 = .ok (.iinc 6 1, 3) := by decide +kernel
theorem d_M_sweep_140 : decode b_M_sweep 140 = .ok (.goto (-44), 3) := by decide +kernel
theorem d_M_sweep_143 : decode b_M_sweep 143 = .ok (.iinc 5 1, 3) := by decide +kernel
theorem d_M_sweep_146 : decode b_M_sweep 146 = .ok (.goto (-59), 3) := by decide +kernel
theorem d_M_sweep_149 : decode b_M_sweep 149 = .ok (.iconst 0, 1) := by decide +kernel
theorem d_M_sweep_150 : decode b_M_sweep 150 = .ok (.istore 5, 2) := by decide +kernel
theorem d_M_sweep_152 : decode b_M_sweep 152 = .ok (.iload 5, 2) := by decide +kernel
theorem d_M_sweep_154 : decode b_M_sweep 154 = .ok (.bipush 100, 2) := by decide +kernel
theorem d_M_sweep_156 : decode b_M_sweep 156 = .ok (.if_icmp .ge 46, 3) := by decide +kernel
theorem d_M_sweep_159 : decode b_M_sweep 159 = .ok (.aload_n 0, 1) := by decide +kernel
theorem d_M_sweep_160 : decode b_M_sweep 160 = .ok (.getfield 10, 3) := by decide +kernel
theorem d_M_sweep_163 : decode b_M_sweep 163 = .ok (.getfield 40, 3) := by decide +kernel
theorem d_M_sweep_166 : decode b_M_sweep 166 = .ok (.iload 5, 2) := by decide +kernel
theorem d_M_sweep_168 : decode b_M_sweep 168 = .ok (.iaload, 1) := by decide +kernel
theorem d_M_sweep_169 : decode b_M_sweep 169 = .ok (.ifCond .eq 27, 3) := by decide +kernel
theorem d_M_sweep_172 : decode b_M_sweep 172 = .ok (.aload_n 1, 1) := by decide +kernel
theorem d_M_sweep_173 : decode b_M_sweep 173 = .ok (.iload 5, 2) := by decide +kernel
theorem d_M_sweep_175 : decode b_M_sweep 175 = .ok (.baload, 1) := by decide +kernel
theorem d_M_sweep_176 : decode b_M_sweep 176 = .ok (.ifCond .eq 6, 3) := by decide +kernel
theorem d_M_sweep_179 : decode b_M_sweep 179 = .ok (.goto 17, 3) := by decide +kernel
theorem d_M_sweep_182 : decode b_M_sweep 182 = .ok (.aload_n 0, 1) := by decide +kernel
theorem d_M_sweep_183 : decode b_M_sweep 183 = .ok (.getfield 10, 3) := by decide +kernel
theorem d_M_sweep_186 : decode b_M_sweep 186 = .ok (.getfield 40, 3) := by decide +kernel
theorem d_M_sweep_189 : decode b_M_sweep 189 = .ok (.iload 5, 2) := by decide +kernel
theorem d_M_sweep_191 : decode b_M_sweep 191 = .ok (.iconst 0, 1) := by decide +kernel
theorem d_M_sweep_192 : decode b_M_sweep 192 = .ok (.iastore, 1) := by decide +kernel
theorem d_M_sweep_193 : decode b_M_sweep 193 = .ok (.iinc 4 1, 3) := by decide +kernel
theorem d_M_sweep_196 : decode b_M_sweep 196 = .ok (.iinc 5 1, 3) := by decide +kernel
theorem d_M_sweep_199 : decode b_M_sweep 199 = .ok (.goto (-47), 3) := by decide +kernel
theorem d_M_sweep_202 : decode b_M_sweep 202 = .ok (.iload 4, 2) := by decide +kernel
theorem d_M_sweep_204 : decode b_M_sweep 204 = .ok (.ifCond .le 9, 3) := by decide +kernel
theorem d_M_sweep_207 : decode b_M_sweep 207 = .ok (.aload_n 0, 1) := by decide +kernel
theorem d_M_sweep_208 : decode b_M_sweep 208 = .ok (.bipush 8, 2) := by decide +kernel
theorem d_M_sweep_210 : decode b_M_sweep 210 = .ok (.invokevirtual 108, 3) := by decide +kernel
theorem d_M_sweep_213 : decode b_M_sweep 213 = .ok (.iload 4, 2) := by decide +kernel
theorem d_M_sweep_215 : decode b_M_sweep 215 = .ok (.ireturn, 1) := by decide +kernel
theorem d_K_sync_0 : decode b_K_sync 0 = .ok (.aload_n 0, 1) := by decide +kernel
theorem d_K_sync_1 : decode b_K_sync 1 = .ok (.getfield 30, 3) := by decide +kernel
theorem d_K_sync_4 : decode b_K_sync 4 = .ok (.istore_n 1, 1) := by decide +kernel
theorem d_K_sync_5 : decode b_K_sync 5 = .ok (.aload_n 0, 1) := by decide +kernel
theorem d_K_sync_6 : decode b_K_sync 6 = .ok (.aload_n 0, 1) := by decide +kernel
theorem d_K_sync_7 : decode b_K_sync 7 = .ok (.iload_n 1, 1) := by decide +kernel
theorem d_K_sync_8 : decode b_K_sync 8 = .ok (.invokevirtual 116, 3) := by decide +kernel
theorem d_K_sync_11 : decode b_K_sync 11 = .ok (.putfield 26, 3) := by decide +kernel
theorem d_K_sync_14 : decode b_K_sync 14 = .ok (.aload_n 0, 1) := by decide +kernel
theorem d_K_sync_15 : decode b_K_sync 15 = .ok (.iconst 0, 1) := by decide +kernel
theorem d_K_sync_16 : decode b_K_sync 16 = .ok (.putfield 30, 3) := by decide +kernel
theorem d_K_sync_19 : decode b_K_sync 19 = .ok (.iload_n 1, 1) := by decide +kernel
theorem d_K_sync_20 : decode b_K_sync 20 = .ok (.ireturn, 1) := by decide +kernel
theorem d_M_sync_0 : decode b_M_sync 0 = .ok (.aload_n 0, 1) := by decide +kernel
theorem d_M_sync_1 : decode b_M_sync 1 = .ok (.getfield 98, 3) := by decide +kernel
theorem d_M_sync_4 : decode b_M_sync 4 = .ok (.istore_n 1, 1) := by decide +kernel
theorem d_M_sync_5 : decode b_M_sync 5 = .ok (.aload_n 0, 1) := by decide +kernel
theorem d_M_sync_6 : decode b_M_sync 6 = .ok (.getfield 19, 3) := by decide +kernel
theorem d_M_sync_9 : decode b_M_sync 9 = .ok (.aload_n 0, 1) := by decide +kernel
theorem d_M_sync_10 : decode b_M_sync 10 = .ok (.getfield 16, 3) := by decide +kernel
theorem d_M_sync_13 : decode b_M_sync 13 = .ok (.invokevirtual 91, 3) := by decide +kernel
theorem d_M_sync_16 : decode b_M_sync 16 = .ok (.aload_n 0, 1) := by decide +kernel
theorem d_M_sync_17 : decode b_M_sync 17 = .ok (.iconst 0, 1) := by decide +kernel
theorem d_M_sync_18 : decode b_M_sync 18 = .ok (.putfield 98, 3) := by decide +kernel
theorem d_M_sync_21 : decode b_M_sync 21 = .ok (.iload_n 1, 1) := by decide +kernel
theorem d_M_sync_22 : decode b_M_sync 22 = .ok (.ireturn, 1) := by decide +kernel
theorem d_K_entriesWithin_0 : decode b_K_entriesWithin 0 = .ok (.iload_n 1, 1) := by decide +kernel
theorem d_K_entriesWithin_1 : decode b_K_entriesWithin 1 = .ok (.istore_n 2, 1) := by decide +kernel
theorem d_K_entriesWithin_2 : decode b_K_entriesWithin 2 = .ok (.iconst 1, 1) := by decide +kernel
theorem d_K_entriesWithin_3 : decode b_K_entriesWithin 3 = .ok (.istore_n 3, 1) := by decide +kernel
theorem d_K_entriesWithin_4 : decode b_K_entriesWithin 4 = .ok (.iload_n 3, 1) := by decide +kernel
theorem d_K_entriesWithin_5 : decode b_K_entriesWithin 5 = .ok (.aload_n 0, 1) := by decide +kernel
theorem d_K_entriesWithin_6 : decode b_K_entriesWithin 6 = .ok (.getfield 30, 3) := by decide +kernel
theorem d_K_entriesWithin_9 : decode b_K_entriesWithin 9 = .ok (.if_icmp .gt 36, 3) := by decide +kernel
theorem d_K_entriesWithin_12 : decode b_K_entriesWithin 12 = .ok (.aload_n 0, 1) := by decide +kernel
theorem d_K_entriesWithin_13 : decode b_K_entriesWithin 13 = .ok (.getfield 15, 3) := by decide +kernel
theorem d_K_entriesWithin_16 : decode b_K_entriesWithin 16 = .ok (.aload_n 0, 1) := by decide +kernel
theorem d_K_entriesWithin_17 : decode b_K_entriesWithin 17 = .ok (.iload_n 3, 1) := by decide +kernel
theorem d_K_entriesWithin_18 : decode b_K_entriesWithin 18 = .ok (.invokevirtual 116, 3) := by decide +kernel
theorem d_K_entriesWithin_21 : decode b_K_entriesWithin 21 = .ok (.iaload, 1) := by decide +kernel
theorem d_K_entriesWithin_22 : decode b_K_entriesWithin 22 = .ok (.istore 4, 2) := by decide +kernel
theorem d_K_entriesWithin_24 : decode b_K_entriesWithin 24 = .ok (.iload 4, 2) := by decide +kernel
theorem d_K_entriesWithin_26 : decode b_K_entriesWithin 26 = .ok (.iload_n 2, 1) := by decide +kernel
theorem d_K_entriesWithin_27 : decode b_K_entriesWithin 27 = .ok (.if_icmp .le 7, 3) := by decide +kernel
theorem d_K_entriesWithin_30 : decode b_K_entriesWithin 30 = .ok (.iload_n 3, 1) := by decide +kernel
theorem d_K_entriesWithin_31 : decode b_K_entriesWithin 31 = .ok (.iconst 1, 1) := by decide +kernel
theorem d_K_entriesWithin_32 : decode b_K_entriesWithin 32 = .ok (.isub, 1) := by decide +kernel
theorem d_K_entriesWithin_33 : decode b_K_entriesWithin 33 = .ok (.ireturn, 1) := by decide +kernel
theorem d_K_entriesWithin_34 : decode b_K_entriesWithin 34 = .ok (.iload_n 2, 1) := by decide +kernel
theorem d_K_entriesWithin_35 : decode b_K_entriesWithin 35 = .ok (.iload 4, 2) := by decide +kernel
theorem d_K_entriesWithin_37 : decode b_K_entriesWithin 37 = .ok (.isub, 1) := by decide +kernel
theorem d_K_entriesWithin_38 : decode b_K_entriesWithin 38 = .ok (.istore_n 2, 1) := by decide +kernel
theorem d_K_entriesWithin_39 : decode b_K_entriesWithin 39 = .ok (.iinc 3 1, 3) := by decide +kernel
theorem d_K_entriesWithin_42 : decode b_K_entriesWithin 42 = .ok (.goto (-38), 3) := by decide +kernel
theorem d_K_entriesWithin_45 : decode b_K_entriesWithin 45 = .ok (.aload_n 0, 1) := by decide +kernel
theorem d_K_entriesWithin_46 : decode b_K_entriesWithin 46 = .ok (.getfield 30, 3) := by decide +kernel
theorem d_K_entriesWithin_49 : decode b_K_entriesWithin 49 = .ok (.ireturn, 1) := by decide +kernel
theorem d_K_crash_0 : decode b_K_crash 0 = .ok (.iload_n 1, 1) := by decide +kernel
theorem d_K_crash_1 : decode b_K_crash 1 = .ok (.ifCond .ge 5, 3) := by decide +kernel
theorem d_K_crash_4 : decode b_K_crash 4 = .ok (.iconst (-1), 1) := by decide +kernel
theorem d_K_crash_5 : decode b_K_crash 5 = .ok (.ireturn, 1) := by decide +kernel
theorem d_K_crash_6 : decode b_K_crash 6 = .ok (.aload_n 0, 1) := by decide +kernel
theorem d_K_crash_7 : decode b_K_crash 7 = .ok (.iload_n 1, 1) := by decide +kernel
theorem d_K_crash_8 : decode b_K_crash 8 = .ok (.invokevirtual 120, 3) := by decide +kernel
theorem d_K_crash_11 : decode b_K_crash 11 = .ok (.istore_n 2, 1) := by decide +kernel
theorem d_K_crash_12 : decode b_K_crash 12 = .ok (.iload_n 2, 1) := by decide +kernel
theorem d_K_crash_13 : decode b_K_crash 13 = .ok (.iconst 1, 1) := by decide +kernel
theorem d_K_crash_14 : decode b_K_crash 14 = .ok (.iadd, 1) := by decide +kernel
theorem d_K_crash_15 : decode b_K_crash 15 = .ok (.istore_n 3, 1) := by decide +kernel
theorem d_K_crash_16 : decode b_K_crash 16 = .ok (.iload_n 3, 1) := by decide +kernel
theorem d_K_crash_17 : decode b_K_crash 17 = .ok (.aload_n 0, 1) := by decide +kernel
theorem d_K_crash_18 : decode b_K_crash 18 = .ok (.getfield 30, 3) := by decide +kernel
theorem d_K_crash_21 : decode b_K_crash 21 = .ok (.if_icmp .gt 28, 3) := by decide +kernel
theorem d_K_crash_24 : decode b_K_crash 24 = .ok (.aload_n 0, 1) := by decide +kernel
theorem d_K_crash_25 : decode b_K_crash 25 = .ok (.dup, 1) := by decide +kernel
theorem d_K_crash_26 : decode b_K_crash 26 = .ok (.getfield 33, 3) := by decide +kernel
theorem d_K_crash_29 : decode b_K_crash 29 = .ok (.aload_n 0, 1) := by decide +kernel
theorem d_K_crash_30 : decode b_K_crash 30 = .ok (.getfield 15, 3) := by decide +kernel
theorem d_K_crash_33 : decode b_K_crash 33 = .ok (.aload_n 0, 1) := by decide +kernel
theorem d_K_crash_34 : decode b_K_crash 34 = .ok (.iload_n 3, 1) := by decide +kernel
theorem d_K_crash_35 : decode b_K_crash 35 = .ok (.invokevirtual 116, 3) := by decide +kernel
theorem d_K_crash_38 : decode b_K_crash 38 = .ok (.iaload, 1) := by decide +kernel
theorem d_K_crash_39 : decode b_K_crash 39 = .ok (.isub, 1) := by decide +kernel
theorem d_K_crash_40 : decode b_K_crash 40 = .ok (.putfield 33, 3) := by decide +kernel
theorem d_K_crash_43 : decode b_K_crash 43 = .ok (.iinc 3 1, 3) := by decide +kernel
theorem d_K_crash_46 : decode b_K_crash 46 = .ok (.goto (-30), 3) := by decide +kernel
theorem d_K_crash_49 : decode b_K_crash 49 = .ok (.aload_n 0, 1) := by decide +kernel
theorem d_K_crash_50 : decode b_K_crash 50 = .ok (.aload_n 0, 1) := by decide +kernel
theorem d_K_crash_51 : decode b_K_crash 51 = .ok (.iload_n 2, 1) := by decide +kernel
theorem d_K_crash_52 : decode b_K_crash 52 = .ok (.invokevirtual 116, 3) := by decide +kernel
theorem d_K_crash_55 : decode b_K_crash 55 = .ok (.putfield 26, 3) := by decide +kernel
theorem d_K_crash_58 : decode b_K_crash 58 = .ok (.aload_n 0, 1) := by decide +kernel
theorem d_K_crash_59 : decode b_K_crash 59 = .ok (.iconst 0, 1) := by decide +kernel
theorem d_K_crash_60 : decode b_K_crash 60 = .ok (.putfield 30, 3) := by decide +kernel
theorem d_K_crash_63 : decode b_K_crash 63 = .ok (.aload_n 0, 1) := by decide +kernel
theorem d_K_crash_64 : decode b_K_crash 64 = .ok (.getfield 44, 3) := by decide +kernel
theorem d_K_crash_67 : decode b_K_crash 67 = .ok (.aload_n 0, 1) := by decide +kernel
theorem d_K_crash_68 : decode b_K_crash 68 = .ok (.invokevirtual 104, 3) := by decide +kernel
theorem d_K_crash_71 : decode b_K_crash 71 = .ok (.invokevirtual 108, 3) := by decide +kernel
theorem d_K_crash_74 : decode b_K_crash 74 = .ok (.iload_n 2, 1) := by decide +kernel
theorem d_K_crash_75 : decode b_K_crash 75 = .ok (.ireturn, 1) := by decide +kernel
theorem d_M_crash_0 : decode b_M_crash 0 = .ok (.iload_n 1, 1) := by decide +kernel
theorem d_M_crash_1 : decode b_M_crash 1 = .ok (.ifCond .ge 5, 3) := by decide +kernel
theorem d_M_crash_4 : decode b_M_crash 4 = .ok (.iconst (-1), 1) := by decide +kernel
theorem d_M_crash_5 : decode b_M_crash 5 = .ok (.ireturn, 1) := by decide +kernel
theorem d_M_crash_6 : decode b_M_crash 6 = .ok (.iconst 0, 1) := by decide +kernel
theorem d_M_crash_7 : decode b_M_crash 7 = .ok (.istore_n 2, 1) := by decide +kernel
theorem d_M_crash_8 : decode b_M_crash 8 = .ok (.lconst 0, 1) := by decide +kernel
theorem d_M_crash_9 : decode b_M_crash 9 = .ok (.lstore_n 3, 1) := by decide +kernel
theorem d_M_crash_10 : decode b_M_crash 10 = .ok (.iload_n 2, 1) := by decide +kernel
theorem d_M_crash_11 : decode b_M_crash 11 = .ok (.aload_n 0, 1) := by decide +kernel
theorem d_M_crash_12 : decode b_M_crash 12 = .ok (.getfield 98, 3) := by decide +kernel
theorem d_M_crash_15 : decode b_M_crash 15 = .ok (.if_icmp .ge 40, 3) := by decide +kernel
theorem d_M_crash_18 : decode b_M_crash 18 = .ok (.lload_n 3, 1) := by decide +kernel
theorem d_M_crash_19 : decode b_M_crash 19 = .ok (.aload_n 0, 1) := by decide +kernel
theorem d_M_crash_20 : decode b_M_crash 20 = .ok (.getfield 22, 3) := by decide +kernel
theorem d_M_crash_23 : decode b_M_crash 23 = .ok (.iload_n 2, 1) := by decide +kernel
theorem d_M_crash_24 : decode b_M_crash 24 = .ok (.aaload, 1) := by decide +kernel
theorem d_M_crash_25 : decode b_M_crash 25 = .ok (.getfield 101, 3) := by decide +kernel
theorem d_M_crash_28 : decode b_M_crash 28 = .ok (.i2l, 1) := by decide +kernel
theorem d_M_crash_29 : decode b_M_crash 29 = .ok (.ladd, 1) := by decide +kernel
theorem d_M_crash_30 : decode b_M_crash 30 = .ok (.iload_n 1, 1) := by decide +kernel
theorem d_M_crash_31 : decode b_M_crash 31 = .ok (.i2l, 1) := by decide +kernel
theorem d_M_crash_32 : decode b_M_crash 32 = .ok (.lcmp, 1) := by decide +kernel
theorem d_M_crash_33 : decode b_M_crash 33 = .ok (.ifCond .gt 22, 3) := by decide +kernel
theorem d_M_crash_36 : decode b_M_crash 36 = .ok (.lload_n 3, 1) := by decide +kernel
theorem d_M_crash_37 : decode b_M_crash 37 = .ok (.aload_n 0, 1) := by decide +kernel
theorem d_M_crash_38 : decode b_M_crash 38 = .ok (.getfield 22, 3) := by decide +kernel
theorem d_M_crash_41 : decode b_M_crash 41 = .ok (.iload_n 2, 1) := by decide +kernel
theorem d_M_crash_42 : decode b_M_crash 42 = .ok (.aaload, 1) := by decide +kernel
theorem d_M_crash_43 : decode b_M_crash 43 = .ok (.getfield 101, 3) := by decide +kernel
theorem d_M_crash_46 : decode b_M_crash 46 = .ok (.i2l, 1) := by decide +kernel
theorem d_M_crash_47 : decode b_M_crash 47 = .ok (.ladd, 1) := by decide +kernel
theorem d_M_crash_48 : decode b_M_crash 48 = .ok (.lstore_n 3, 1) := by decide +kernel
theorem d_M_crash_49 : decode b_M_crash 49 = .ok (.iinc 2 1, 3) := by decide +kernel
theorem d_M_crash_52 : decode b_M_crash 52 = .ok (.goto (-42), 3) := by decide +kernel
theorem d_M_crash_55 : decode b_M_crash 55 = .ok (.iload_n 2, 1) := by decide +kernel
theorem d_M_crash_56 : decode b_M_crash 56 = .ok (.istore 5, 2) := by decide +kernel
theorem d_M_crash_58 : decode b_M_crash 58 = .ok (.iload 5, 2) := by decide +kernel
theorem d_M_crash_60 : decode b_M_crash 60 = .ok (.aload_n 0, 1) := by decide +kernel
theorem d_M_crash_61 : decode b_M_crash 61 = .ok (.getfield 98, 3) := by decide +kernel
theorem d_M_crash_64 : decode b_M_crash 64 = .ok (.if_icmp .ge 28, 3) := by decide +kernel
theorem d_M_crash_67 : decode b_M_crash 67 = .ok (.aload_n 0, 1) := by decide +kernel
theorem d_M_crash_68 : decode b_M_crash 68 = .ok (.dup, 1) := by decide +kernel
theorem d_M_crash_69 : decode b_M_crash 69 = .ok (.getfield 95, 3) := by decide +kernel
theorem d_M_crash_72 : decode b_M_crash 72 = .ok (.aload_n 0, 1) := by decide +kernel
theorem d_M_crash_73 : decode b_M_crash 73 = .ok (.getfield 22, 3) := by decide +kernel
theorem d_M_crash_76 : decode b_M_crash 76 = .ok (.iload 5, 2) := by decide +kernel
theorem d_M_crash_78 : decode b_M_crash 78 = .ok (.aaload, 1) := by decide +kernel
theorem d_M_crash_79 : decode b_M_crash 79 = .ok (.getfield 101, 3) := by decide +kernel
theorem d_M_crash_82 : decode b_M_crash 82 = .ok (.isub, 1) := by decide +kernel
theorem d_M_crash_83 : decode b_M_crash 83 = .ok (.putfield 95, 3) := by decide +kernel
theorem d_M_crash_86 : decode b_M_crash 86 = .ok (.iinc 5 1, 3) := by decide +kernel
theorem d_M_crash_89 : decode b_M_crash 89 = .ok (.goto (-31), 3) := by decide +kernel
theorem d_M_crash_92 : decode b_M_crash 92 = .ok (.iload_n 2, 1) := by decide +kernel
theorem d_M_crash_93 : decode b_M_crash 93 = .ok (.ifCond .le 18, 3) := by decide +kernel
theorem d_M_crash_96 : decode b_M_crash 96 = .ok (.aload_n 0, 1) := by decide +kernel
theorem d_M_crash_97 : decode b_M_crash 97 = .ok (.getfield 19, 3) := by decide +kernel
theorem d_M_crash_100 : decode b_M_crash 100 = .ok (.aload_n 0, 1) := by decide +kernel
theorem d_M_crash_101 : decode b_M_crash 101 = .ok (.getfield 22, 3) := by decide +kernel
theorem d_M_crash_104 : decode b_M_crash 104 = .ok (.iload_n 2, 1) := by decide +kernel
theorem d_M_crash_105 : decode b_M_crash 105 = .ok (.iconst 1, 1) := by decide +kernel
theorem d_M_crash_106 : decode b_M_crash 106 = .ok (.isub, 1) := by decide +kernel
theorem d_M_crash_107 : decode b_M_crash 107 = .ok (.aaload, 1) := by decide +kernel
theorem d_M_crash_108 : decode b_M_crash 108 = .ok (.invokevirtual 91, 3) := by decide +kernel
theorem d_M_crash_111 : decode b_M_crash 111 = .ok (.aload_n 0, 1) := by decide +kernel
theorem d_M_crash_112 : decode b_M_crash 112 = .ok (.getfield 10, 3) := by decide +kernel
theorem d_M_crash_115 : decode b_M_crash 115 = .ok (.aload_n 0, 1) := by decide +kernel
theorem d_M_crash_116 : decode b_M_crash 116 = .ok (.getfield 19, 3) := by decide +kernel
theorem d_M_crash_119 : decode b_M_crash 119 = .ok (.invokevirtual 91, 3) := by decide +kernel
theorem d_M_crash_122 : decode b_M_crash 122 = .ok (.aload_n 0, 1) := by decide +kernel
theorem d_M_crash_123 : decode b_M_crash 123 = .ok (.getfield 16, 3) := by decide +kernel
theorem d_M_crash_126 : decode b_M_crash 126 = .ok (.aload_n 0, 1) := by decide +kernel
theorem d_M_crash_127 : decode b_M_crash 127 = .ok (.getfield 19, 3) := by decide +kernel
theorem d_M_crash_130 : decode b_M_crash 130 = .ok (.invokevirtual 91, 3) := by decide +kernel
theorem d_M_crash_133 : decode b_M_crash 133 = .ok (.aload_n 0, 1) := by decide +kernel
theorem d_M_crash_134 : decode b_M_crash 134 = .ok (.iconst 0, 1) := by decide +kernel
theorem d_M_crash_135 : decode b_M_crash 135 = .ok (.putfield 98, 3) := by decide +kernel
theorem d_M_crash_138 : decode b_M_crash 138 = .ok (.iload_n 2, 1) := by decide +kernel
theorem d_M_crash_139 : decode b_M_crash 139 = .ok (.ireturn, 1) := by decide +kernel
theorem d_K_kind_0 : decode b_K_kind 0 = .ok (.iload_n 1, 1) := by decide +kernel
theorem d_K_kind_1 : decode b_K_kind 1 = .ok (.ifCond .lt 9, 3) := by decide +kernel
theorem d_K_kind_4 : decode b_K_kind 4 = .ok (.iload_n 1, 1) := by decide +kernel
theorem d_K_kind_5 : decode b_K_kind 5 = .ok (.bipush 100, 2) := by decide +kernel
theorem d_K_kind_7 : decode b_K_kind 7 = .ok (.if_icmp .lt 5, 3) := by decide +kernel
theorem d_K_kind_10 : decode b_K_kind 10 = .ok (.iconst (-1), 1) := by decide +kernel
theorem d_K_kind_11 : decode b_K_kind 11 = .ok (.ireturn, 1) := by decide +kernel
theorem d_K_kind_12 : decode b_K_kind 12 = .ok (.aload_n 0, 1) := by decide +kernel
theorem d_K_kind_13 : decode b_K_kind 13 = .ok (.getfield 44, 3) := by decide +kernel
theorem d_K_kind_16 : decode b_K_kind 16 = .ok (.getfield 48, 3) := by decide +kernel
theorem d_K_kind_19 : decode b_K_kind 19 = .ok (.iload_n 1, 1) := by decide +kernel
theorem d_K_kind_20 : decode b_K_kind 20 = .ok (.aaload, 1) := by decide +kernel
theorem d_K_kind_21 : decode b_K_kind 21 = .ok (.astore_n 2, 1) := by decide +kernel
theorem d_K_kind_22 : decode b_K_kind 22 = .ok (.aload_n 2, 1) := by decide +kernel
theorem d_K_kind_23 : decode b_K_kind 23 = .ok (.ifnonnull 7, 3) := by decide +kernel
theorem d_K_kind_26 : decode b_K_kind 26 = .ok (.iconst 0, 1) := by decide +kernel
theorem d_K_kind_27 : decode b_K_kind 27 = .ok (.goto 7, 3) := by decide +kernel
theorem d_K_kind_30 : decode b_K_kind 30 = .ok (.aload_n 2, 1) := by decide +kernel
theorem d_K_kind_31 : decode b_K_kind 31 = .ok (.getfield 123, 3) := by decide +kernel
theorem d_K_kind_34 : decode b_K_kind 34 = .ok (.ireturn, 1) := by decide +kernel
theorem d_M_kind_0 : decode b_M_kind 0 = .ok (.iload_n 1, 1) := by decide +kernel
theorem d_M_kind_1 : decode b_M_kind 1 = .ok (.i2l, 1) := by decide +kernel
theorem d_M_kind_2 : decode b_M_kind 2 = .ok (.lconst 0, 1) := by decide +kernel
theorem d_M_kind_3 : decode b_M_kind 3 = .ok (.ldc2_w 34, 3) := by decide +kernel
theorem d_M_kind_6 : decode b_M_kind 6 = .ok (.invokestatic 36, 3) := by decide +kernel
theorem d_M_kind_9 : decode b_M_kind 9 = .ok (.ifCond .eq 15, 3) := by decide +kernel
theorem d_M_kind_12 : decode b_M_kind 12 = .ok (.aload_n 0, 1) := by decide +kernel
theorem d_M_kind_13 : decode b_M_kind 13 = .ok (.getfield 10, 3) := by decide +kernel
theorem d_M_kind_16 : decode b_M_kind 16 = .ok (.getfield 40, 3) := by decide +kernel
theorem d_M_kind_19 : decode b_M_kind 19 = .ok (.iload_n 1, 1) := by decide +kernel
theorem d_M_kind_20 : decode b_M_kind 20 = .ok (.iaload, 1) := by decide +kernel
theorem d_M_kind_21 : decode b_M_kind 21 = .ok (.goto 4, 3) := by decide +kernel
theorem d_M_kind_24 : decode b_M_kind 24 = .ok (.iconst (-1), 1) := by decide +kernel
theorem d_M_kind_25 : decode b_M_kind 25 = .ok (.ireturn, 1) := by decide +kernel
theorem d_K_size_0 : decode b_K_size 0 = .ok (.iload_n 1, 1) := by decide +kernel
theorem d_K_size_1 : decode b_K_size 1 = .ok (.ifCond .lt 9, 3) := by decide +kernel
theorem d_K_size_4 : decode b_K_size 4 = .ok (.iload_n 1, 1) := by decide +kernel
theorem d_K_size_5 : decode b_K_size 5 = .ok (.bipush 100, 2) := by decide +kernel
theorem d_K_size_7 : decode b_K_size 7 = .ok (.if_icmp .lt 5, 3) := by decide +kernel
theorem d_K_size_10 : decode b_K_size 10 = .ok (.iconst (-1), 1) := by decide +kernel
theorem d_K_size_11 : decode b_K_size 11 = .ok (.ireturn, 1) := by decide +kernel
theorem d_K_size_12 : decode b_K_size 12 = .ok (.aload_n 0, 1) := by decide +kernel
theorem d_K_size_13 : decode b_K_size 13 = .ok (.getfield 44, 3) := by decide +kernel
theorem d_K_size_16 : decode b_K_size 16 = .ok (.getfield 48, 3) := by decide +kernel
theorem d_K_size_19 : decode b_K_size 19 = .ok (.iload_n 1, 1) := by decide +kernel
theorem d_K_size_20 : decode b_K_size 20 = .ok (.aaload, 1) := by decide +kernel
theorem d_K_size_21 : decode b_K_size 21 = .ok (.astore_n 2, 1) := by decide +kernel
theorem d_K_size_22 : decode b_K_size 22 = .ok (.aload_n 2, 1) := by decide +kernel
theorem d_K_size_23 : decode b_K_size 23 = .ok (.ifnonnull 7, 3) := by decide +kernel
theorem d_K_size_26 : decode b_K_size 26 = .ok (.iconst (-1), 1) := by decide +kernel
theorem d_K_size_27 : decode b_K_size 27 = .ok (.goto 7, 3) := by decide +kernel
theorem d_K_size_30 : decode b_K_size 30 = .ok (.aload_n 2, 1) := by decide +kernel
theorem d_K_size_31 : decode b_K_size 31 = .ok (.getfield 126, 3) := by decide +kernel
theorem d_K_size_34 : decode b_K_size 34 = .ok (.ireturn, 1) := by decide +kernel
theorem d_M_size_0 : decode b_M_size 0 = .ok (.aload_n 0, 1) := by decide +kernel
theorem d_M_size_1 : decode b_M_size 1 = .ok (.iload_n 1, 1) := by decide +kernel
theorem d_M_size_2 : decode b_M_size 2 = .ok (.invokevirtual 43, 3) := by decide +kernel
theorem d_M_size_5 : decode b_M_size 5 = .ok (.ifCond .eq 15, 3) := by decide +kernel
theorem d_M_size_8 : decode b_M_size 8 = .ok (.aload_n 0, 1) := by decide +kernel
theorem d_M_size_9 : decode b_M_size 9 = .ok (.getfield 10, 3) := by decide +kernel
theorem d_M_size_12 : decode b_M_size 12 = .ok (.getfield 51, 3) := by decide +kernel
theorem d_M_size_15 : decode b_M_size 15 = .ok (.iload_n 1, 1) := by decide +kernel
theorem d_M_size_16 : decode b_M_size 16 = .ok (.iaload, 1) := by decide +kernel
theorem d_M_size_17 : decode b_M_size 17 = .ok (.goto 4, 3) := by decide +kernel
theorem d_M_size_20 : decode b_M_size 20 = .ok (.iconst (-1), 1) := by decide +kernel
theorem d_M_size_21 : decode b_M_size 21 = .ok (.ireturn, 1) := by decide +kernel
theorem d_T_objectsThere_0 : decode b_T_objectsThere 0 = .ok (.iconst 0, 1) := by decide +kernel
theorem d_T_objectsThere_1 : decode b_T_objectsThere 1 = .ok (.istore_n 1, 1) := by decide +kernel
theorem d_T_objectsThere_2 : decode b_T_objectsThere 2 = .ok (.iconst 0, 1) := by decide +kernel
theorem d_T_objectsThere_3 : decode b_T_objectsThere 3 = .ok (.istore_n 2, 1) := by decide +kernel
theorem d_T_objectsThere_4 : decode b_T_objectsThere 4 = .ok (.iload_n 2, 1) := by decide +kernel
theorem d_T_objectsThere_5 : decode b_T_objectsThere 5 = .ok (.bipush 100, 2) := by decide +kernel
theorem d_T_objectsThere_7 : decode b_T_objectsThere 7 = .ok (.if_icmp .ge 21, 3) := by decide +kernel
theorem d_T_objectsThere_10 : decode b_T_objectsThere 10 = .ok (.aload_n 0, 1) := by decide +kernel
theorem d_T_objectsThere_11 : decode b_T_objectsThere 11 = .ok (.getfield 11, 3) := by decide +kernel
theorem d_T_objectsThere_14 : decode b_T_objectsThere 14 = .ok (.iload_n 2, 1) := by decide +kernel
theorem d_T_objectsThere_15 : decode b_T_objectsThere 15 = .ok (.aaload, 1) := by decide +kernel
theorem d_T_objectsThere_16 : decode b_T_objectsThere 16 = .ok (.ifnull 6, 3) := by decide +kernel
theorem d_T_objectsThere_19 : decode b_T_objectsThere 19 = .ok (.iinc 1 1, 3) := by decide +kernel
theorem d_T_objectsThere_22 : decode b_T_objectsThere 22 = .ok (.iinc 2 1, 3) := by decide +kernel
theorem d_T_objectsThere_25 : decode b_T_objectsThere 25 = .ok (.goto (-21), 3) := by decide +kernel
theorem d_T_objectsThere_28 : decode b_T_objectsThere 28 = .ok (.iload_n 1, 1) := by decide +kernel
theorem d_T_objectsThere_29 : decode b_T_objectsThere 29 = .ok (.ireturn, 1) := by decide +kernel
theorem d_K_count_0 : decode b_K_count 0 = .ok (.iload_n 1, 1) := by decide +kernel
theorem d_K_count_1 : decode b_K_count 1 = .ok (.tableswitch 60 0 3 #[31, 39, 50, 55], 31) := by decide +kernel
theorem d_K_count_32 : decode b_K_count 32 = .ok (.aload_n 0, 1) := by decide +kernel
theorem d_K_count_33 : decode b_K_count 33 = .ok (.getfield 44, 3) := by decide +kernel
theorem d_K_count_36 : decode b_K_count 36 = .ok (.invokevirtual 129, 3) := by decide +kernel
theorem d_K_count_39 : decode b_K_count 39 = .ok (.ireturn, 1) := by decide +kernel
theorem d_K_count_40 : decode b_K_count 40 = .ok (.aload_n 0, 1) := by decide +kernel
theorem d_K_count_41 : decode b_K_count 41 = .ok (.getfield 44, 3) := by decide +kernel
theorem d_K_count_44 : decode b_K_count 44 = .ok (.getfield 92, 3) := by decide +kernel
theorem d_K_count_47 : decode b_K_count 47 = .ok (.getfield 126, 3) := by decide +kernel
theorem d_K_count_50 : decode b_K_count 50 = .ok (.ireturn, 1) := by decide +kernel
theorem d_K_count_51 : decode b_K_count 51 = .ok (.aload_n 0, 1) := by decide +kernel
theorem d_K_count_52 : decode b_K_count 52 = .ok (.getfield 30, 3) := by decide +kernel
theorem d_K_count_55 : decode b_K_count 55 = .ok (.ireturn, 1) := by decide +kernel
theorem d_K_count_56 : decode b_K_count 56 = .ok (.aload_n 0, 1) := by decide +kernel
theorem d_K_count_57 : decode b_K_count 57 = .ok (.getfield 33, 3) := by decide +kernel
theorem d_K_count_60 : decode b_K_count 60 = .ok (.ireturn, 1) := by decide +kernel
theorem d_K_count_61 : decode b_K_count 61 = .ok (.iconst (-1), 1) := by decide +kernel
theorem d_K_count_62 : decode b_K_count 62 = .ok (.ireturn, 1) := by decide +kernel
end
section
theorem d_M_count_0 : decode b_M_count 0 = .ok (.iconst 0, 1) := by decide +kernel
theorem d_M_count_1 : decode b_M_count 1 = .ok (.istore_n 2, 1) := by decide +kernel
theorem d_M_count_2 : decode b_M_count 2 = .ok (.iload_n 1, 1) := by decide +kernel
theorem d_M_count_3 : decode b_M_count 3 = .ok (.tableswitch 91 0 3 #[29, 73, 81, 86], 29) := by decide +kernel
theorem d_M_count_32 : decode b_M_count 32 = .ok (.aload_n 0, 1) := by decide +kernel
theorem d_M_count_33 : decode b_M_count 33 = .ok (.getfield 10, 3) := by decide +kernel
theorem d_M_count_36 : decode b_M_count 36 = .ok (.getfield 40, 3) := by decide +kernel
theorem d_M_count_39 : decode b_M_count 39 = .ok (.astore_n 3, 1) := by decide +kernel
theorem d_M_count_40 : decode b_M_count 40 = .ok (.aload_n 3, 1) := by decide +kernel
theorem d_M_count_41 : decode b_M_count 41 = .ok (.arraylength, 1) := by decide +kernel
theorem d_M_count_42 : decode b_M_count 42 = .ok (.istore 4, 2) := by decide +kernel
theorem d_M_count_44 : decode b_M_count 44 = .ok (.iconst 0, 1) := by decide +kernel
theorem d_M_count_45 : decode b_M_count 45 = .ok (.istore 5, 2) := by decide +kernel
theorem d_M_count_47 : decode b_M_count 47 = .ok (.iload 5, 2) := by decide +kernel
theorem d_M_count_49 : decode b_M_count 49 = .ok (.iload 4, 2) := by decide +kernel
theorem d_M_count_51 : decode b_M_count 51 = .ok (.if_icmp .ge 23, 3) := by decide +kernel
theorem d_M_count_54 : decode b_M_count 54 = .ok (.aload_n 3, 1) := by decide +kernel
theorem d_M_count_55 : decode b_M_count 55 = .ok (.iload 5, 2) := by decide +kernel
theorem d_M_count_57 : decode b_M_count 57 = .ok (.iaload, 1) := by decide +kernel
theorem d_M_count_58 : decode b_M_count 58 = .ok (.istore 6, 2) := by decide +kernel
theorem d_M_count_60 : decode b_M_count 60 = .ok (.iload 6, 2) := by decide +kernel
theorem d_M_count_62 : decode b_M_count 62 = .ok (.ifCond .eq 6, 3) := by decide +kernel
theorem d_M_count_65 : decode b_M_count 65 = .ok (.iinc 2 1, 3) := by decide +kernel
theorem d_M_count_68 : decode b_M_count 68 = .ok (.iinc 5 1, 3) := by decide +kernel
theorem d_M_count_71 : decode b_M_count 71 = .ok (.goto (-24), 3) := by decide +kernel
theorem d_M_count_74 : decode b_M_count 74 = .ok (.iload_n 2, 1) := by decide +kernel
theorem d_M_count_75 : decode b_M_count 75 = .ok (.ireturn, 1) := by decide +kernel
theorem d_M_count_76 : decode b_M_count 76 = .ok (.aload_n 0, 1) := by decide +kernel
theorem d_M_count_77 : decode b_M_count 77 = .ok (.getfield 10, 3) := by decide +kernel
theorem d_M_count_80 : decode b_M_count 80 = .ok (.getfield 82, 3) := by decide +kernel
theorem d_M_count_83 : decode b_M_count 83 = .ok (.ireturn, 1) := by decide +kernel
theorem d_M_count_84 : decode b_M_count 84 = .ok (.aload_n 0, 1) := by decide +kernel
theorem d_M_count_85 : decode b_M_count 85 = .ok (.getfield 98, 3) := by decide +kernel
theorem d_M_count_88 : decode b_M_count 88 = .ok (.ireturn, 1) := by decide +kernel
theorem d_M_count_89 : decode b_M_count 89 = .ok (.aload_n 0, 1) := by decide +kernel
theorem d_M_count_90 : decode b_M_count 90 = .ok (.getfield 95, 3) := by decide +kernel
theorem d_M_count_93 : decode b_M_count 93 = .ok (.ireturn, 1) := by decide +kernel
theorem d_M_count_94 : decode b_M_count 94 = .ok (.iconst (-1), 1) := by decide +kernel
theorem d_M_count_95 : decode b_M_count 95 = .ok (.ireturn, 1) := by decide +kernel
end
section
theorem d_L_law_0 : decode b_L_law 0 = .ok (.new 7, 3) := by decide +kernel
theorem d_L_law_3 : decode b_L_law 3 = .ok (.dup, 1) := by decide +kernel
theorem d_L_law_4 : decode b_L_law 4 = .ok (.invokespecial 9, 3) := by decide +kernel
theorem d_L_law_7 : decode b_L_law 7 = .ok (.astore_n 1, 1) := by decide +kernel
theorem d_L_law_8 : decode b_L_law 8 = .ok (.new 10, 3) := by decide +kernel
theorem d_L_law_11 : decode b_L_law 11 = .ok (.dup, 1) := by decide +kernel
theorem d_L_law_12 : decode b_L_law 12 = .ok (.invokespecial 12, 3) := by decide +kernel
theorem d_L_law_15 : decode b_L_law 15 = .ok (.astore_n 2, 1) := by decide +kernel
theorem d_L_law_16 : decode b_L_law 16 = .ok (.iconst 0, 1) := by decide +kernel
theorem d_L_law_17 : decode b_L_law 17 = .ok (.istore_n 3, 1) := by decide +kernel
theorem d_L_law_18 : decode b_L_law 18 = .ok (.iload_n 3, 1) := by decide +kernel
theorem d_L_law_19 : decode b_L_law 19 = .ok (.aload_n 0, 1) := by decide +kernel
theorem d_L_law_20 : decode b_L_law 20 = .ok (.arraylength, 1) := by decide +kernel
theorem d_L_law_21 : decode b_L_law 21 = .ok (.iconst 5, 1) := by decide +kernel
theorem d_L_law_22 : decode b_L_law 22 = .ok (.isub, 1) := by decide +kernel
theorem d_L_law_23 : decode b_L_law 23 = .ok (.if_icmp .gt 590, 3) := by decide +kernel
theorem d_L_law_26 : decode b_L_law 26 = .ok (.aload_n 0, 1) := by decide +kernel
theorem d_L_law_27 : decode b_L_law 27 = .ok (.iload_n 3, 1) := by decide +kernel
theorem d_L_law_28 : decode b_L_law 28 = .ok (.iaload, 1) := by decide +kernel
theorem d_L_law_29 : decode b_L_law 29 = .ok (.bipush 31, 2) := by decide +kernel
theorem d_L_law_31 : decode b_L_law 31 = .ok (.iand, 1) := by decide +kernel
theorem d_L_law_32 : decode b_L_law 32 = .ok (.tableswitch 575 0 16 #[84, 123, 176, 210, 253, 277, 330, 364, 407, 431, 444, 457, 470, 483, 506, 529, 552], 84) := by decide +kernel
theorem d_L_law_116 : decode b_L_law 116 = .ok (.aload_n 1, 1) := by decide +kernel
theorem d_L_law_117 : decode b_L_law 117 = .ok (.aload_n 0, 1) := by decide +kernel
theorem d_L_law_118 : decode b_L_law 118 = .ok (.iload_n 3, 1) := by decide +kernel
theorem d_L_law_119 : decode b_L_law 119 = .ok (.iconst 1, 1) := by decide +kernel
theorem d_L_law_120 : decode b_L_law 120 = .ok (.iadd, 1) := by decide +kernel
theorem d_L_law_121 : decode b_L_law 121 = .ok (.iaload, 1) := by decide +kernel
theorem d_L_law_122 : decode b_L_law 122 = .ok (.ifCond .eq 7, 3) := by decide +kernel
theorem d_L_law_125 : decode b_L_law 125 = .ok (.iconst 1, 1) := by decide +kernel
theorem d_L_law_126 : decode b_L_law 126 = .ok (.goto 4, 3) := by decide +kernel
theorem d_L_law_129 : decode b_L_law 129 = .ok (.iconst 0, 1) := by decide +kernel
theorem d_L_law_130 : decode b_L_law 130 = .ok (.invokevirtual 13, 3) := by decide +kernel
theorem d_L_law_133 : decode b_L_law 133 = .ok (.aload_n 2, 1) := by decide +kernel
theorem d_L_law_134 : decode b_L_law 134 = .ok (.aload_n 0, 1) := by decide +kernel
theorem d_L_law_135 : decode b_L_law 135 = .ok (.iload_n 3, 1) := by decide +kernel
theorem d_L_law_136 : decode b_L_law 136 = .ok (.iconst 1, 1) := by decide +kernel
theorem d_L_law_137 : decode b_L_law 137 = .ok (.iadd, 1) := by decide +kernel
theorem d_L_law_138 : decode b_L_law 138 = .ok (.iaload, 1) := by decide +kernel
theorem d_L_law_139 : decode b_L_law 139 = .ok (.ifCond .eq 7, 3) := by decide +kernel
theorem d_L_law_142 : decode b_L_law 142 = .ok (.iconst 1, 1) := by decide +kernel
theorem d_L_law_143 : decode b_L_law 143 = .ok (.goto 4, 3) := by decide +kernel
theorem d_L_law_146 : decode b_L_law 146 = .ok (.iconst 0, 1) := by decide +kernel
theorem d_L_law_147 : decode b_L_law 147 = .ok (.invokevirtual 17, 3) := by decide +kernel
theorem d_L_law_150 : decode b_L_law 150 = .ok (.if_icmp .eq 457, 3) := by decide +kernel
theorem d_L_law_153 : decode b_L_law 153 = .ok (.iconst 0, 1) := by decide +kernel
theorem d_L_law_154 : decode b_L_law 154 = .ok (.ireturn, 1) := by decide +kernel
theorem d_L_law_155 : decode b_L_law 155 = .ok (.aload_n 1, 1) := by decide +kernel
theorem d_L_law_156 : decode b_L_law 156 = .ok (.aload_n 0, 1) := by decide +kernel
theorem d_L_law_157 : decode b_L_law 157 = .ok (.iload_n 3, 1) := by decide +kernel
theorem d_L_law_158 : decode b_L_law 158 = .ok (.iconst 1, 1) := by decide +kernel
theorem d_L_law_159 : decode b_L_law 159 = .ok (.iadd, 1) := by decide +kernel
theorem d_L_law_160 : decode b_L_law 160 = .ok (.iaload, 1) := by decide +kernel
theorem d_L_law_161 : decode b_L_law 161 = .ok (.aload_n 0, 1) := by decide +kernel
theorem d_L_law_162 : decode b_L_law 162 = .ok (.iload_n 3, 1) := by decide +kernel
theorem d_L_law_163 : decode b_L_law 163 = .ok (.iconst 2, 1) := by decide +kernel
theorem d_L_law_164 : decode b_L_law 164 = .ok (.iadd, 1) := by decide +kernel
theorem d_L_law_165 : decode b_L_law 165 = .ok (.iaload, 1) := by decide +kernel
theorem d_L_law_166 : decode b_L_law 166 = .ok (.aload_n 0, 1) := by decide +kernel
theorem d_L_law_167 : decode b_L_law 167 = .ok (.iload_n 3, 1) := by decide +kernel
theorem d_L_law_168 : decode b_L_law 168 = .ok (.iconst 3, 1) := by decide +kernel
theorem d_L_law_169 : decode b_L_law 169 = .ok (.iadd, 1) := by decide +kernel
theorem d_L_law_170 : decode b_L_law 170 = .ok (.iaload, 1) := by decide +kernel
theorem d_L_law_171 : decode b_L_law 171 = .ok (.aload_n 0, 1) := by decide +kernel
theorem d_L_law_172 : decode b_L_law 172 = .ok (.iload_n 3, 1) := by decide +kernel
theorem d_L_law_173 : decode b_L_law 173 = .ok (.iconst 4, 1) := by decide +kernel
theorem d_L_law_174 : decode b_L_law 174 = .ok (.iadd, 1) := by decide +kernel
theorem d_L_law_175 : decode b_L_law 175 = .ok (.iaload, 1) := by decide +kernel
theorem d_L_law_176 : decode b_L_law 176 = .ok (.invokevirtual 18, 3) := by decide +kernel
theorem d_L_law_179 : decode b_L_law 179 = .ok (.aload_n 2, 1) := by decide +kernel
theorem d_L_law_180 : decode b_L_law 180 = .ok (.aload_n 0, 1) := by decide +kernel
theorem d_L_law_181 : decode b_L_law 181 = .ok (.iload_n 3, 1) := by decide +kernel
theorem d_L_law_182 : decode b_L_law 182 = .ok (.iconst 1, 1) := by decide +kernel
theorem d_L_law_183 : decode b_L_law 183 = .ok (.iadd, 1) := by decide +kernel
theorem d_L_law_184 : decode b_L_law 184 = .ok (.iaload, 1) := by decide +kernel
theorem d_L_law_185 : decode b_L_law 185 = .ok (.aload_n 0, 1) := by decide +kernel
theorem d_L_law_186 : decode b_L_law 186 = .ok (.iload_n 3, 1) := by decide +kernel
theorem d_L_law_187 : decode b_L_law 187 = .ok (.iconst 2, 1) := by decide +kernel
theorem d_L_law_188 : decode b_L_law 188 = .ok (.iadd, 1) := by decide +kernel
theorem d_L_law_189 : decode b_L_law 189 = .ok (.iaload, 1) := by decide +kernel
theorem d_L_law_190 : decode b_L_law 190 = .ok (.aload_n 0, 1) := by decide +kernel
theorem d_L_law_191 : decode b_L_law 191 = .ok (.iload_n 3, 1) := by decide +kernel
theorem d_L_law_192 : decode b_L_law 192 = .ok (.iconst 3, 1) := by decide +kernel
theorem d_L_law_193 : decode b_L_law 193 = .ok (.iadd, 1) := by decide +kernel
theorem d_L_law_194 : decode b_L_law 194 = .ok (.iaload, 1) := by decide +kernel
theorem d_L_law_195 : decode b_L_law 195 = .ok (.aload_n 0, 1) := by decide +kernel
theorem d_L_law_196 : decode b_L_law 196 = .ok (.iload_n 3, 1) := by decide +kernel
theorem d_L_law_197 : decode b_L_law 197 = .ok (.iconst 4, 1) := by decide +kernel
theorem d_L_law_198 : decode b_L_law 198 = .ok (.iadd, 1) := by decide +kernel
theorem d_L_law_199 : decode b_L_law 199 = .ok (.iaload, 1) := by decide +kernel
theorem d_L_law_200 : decode b_L_law 200 = .ok (.invokevirtual 22, 3) := by decide +kernel
theorem d_L_law_203 : decode b_L_law 203 = .ok (.if_icmp .eq 404, 3) := by decide +kernel
theorem d_L_law_206 : decode b_L_law 206 = .ok (.iconst 0, 1) := by decide +kernel
theorem d_L_law_207 : decode b_L_law 207 = .ok (.ireturn, 1) := by decide +kernel
theorem d_L_law_208 : decode b_L_law 208 = .ok (.aload_n 1, 1) := by decide +kernel
theorem d_L_law_209 : decode b_L_law 209 = .ok (.aload_n 0, 1) := by decide +kernel
theorem d_L_law_210 : decode b_L_law 210 = .ok (.iload_n 3, 1) := by decide +kernel
theorem d_L_law_211 : decode b_L_law 211 = .ok (.iconst 1, 1) := by decide +kernel
theorem d_L_law_212 : decode b_L_law 212 = .ok (.iadd, 1) := by decide +kernel
theorem d_L_law_213 : decode b_L_law 213 = .ok (.iaload, 1) := by decide +kernel
theorem d_L_law_214 : decode b_L_law 214 = .ok (.aload_n 0, 1) := by decide +kernel
theorem d_L_law_215 : decode b_L_law 215 = .ok (.iload_n 3, 1) := by decide +kernel
theorem d_L_law_216 : decode b_L_law 216 = .ok (.iconst 2, 1) := by decide +kernel
theorem d_L_law_217 : decode b_L_law 217 = .ok (.iadd, 1) := by decide +kernel
theorem d_L_law_218 : decode b_L_law 218 = .ok (.iaload, 1) := by decide +kernel
theorem d_L_law_219 : decode b_L_law 219 = .ok (.invokevirtual 23, 3) := by decide +kernel
theorem d_L_law_222 : decode b_L_law 222 = .ok (.aload_n 2, 1) := by decide +kernel
theorem d_L_law_223 : decode b_L_law 223 = .ok (.aload_n 0, 1) := by decide +kernel
theorem d_L_law_224 : decode b_L_law 224 = .ok (.iload_n 3, 1) := by decide +kernel
theorem d_L_law_225 : decode b_L_law 225 = .ok (.iconst 1, 1) := by decide +kernel
theorem d_L_law_226 : decode b_L_law 226 = .ok (.iadd, 1) := by decide +kernel
theorem d_L_law_227 : decode b_L_law 227 = .ok (.iaload, 1) := by decide +kernel
theorem d_L_law_228 : decode b_L_law 228 = .ok (.aload_n 0, 1) := by decide +kernel
theorem d_L_law_229 : decode b_L_law 229 = .ok (.iload_n 3, 1) := by decide +kernel
theorem d_L_law_230 : decode b_L_law 230 = .ok (.iconst 2, 1) := by decide +kernel
theorem d_L_law_231 : decode b_L_law 231 = .ok (.iadd, 1) := by decide +kernel
theorem d_L_law_232 : decode b_L_law 232 = .ok (.iaload, 1) := by decide +kernel
theorem d_L_law_233 : decode b_L_law 233 = .ok (.invokevirtual 27, 3) := by decide +kernel
theorem d_L_law_236 : decode b_L_law 236 = .ok (.lcmp, 1) := by decide +kernel
theorem d_L_law_237 : decode b_L_law 237 = .ok (.ifCond .eq 370, 3) := by decide +kernel
theorem d_L_law_240 : decode b_L_law 240 = .ok (.iconst 0, 1) := by decide +kernel
theorem d_L_law_241 : decode b_L_law 241 = .ok (.ireturn, 1) := by decide +kernel
theorem d_L_law_242 : decode b_L_law 242 = .ok (.aload_n 1, 1) := by decide +kernel
theorem d_L_law_243 : decode b_L_law 243 = .ok (.aload_n 0, 1) := by decide +kernel
theorem d_L_law_244 : decode b_L_law 244 = .ok (.iload_n 3, 1) := by decide +kernel
theorem d_L_law_245 : decode b_L_law 245 = .ok (.iconst 1, 1) := by decide +kernel
theorem d_L_law_246 : decode b_L_law 246 = .ok (.iadd, 1) := by decide +kernel
theorem d_L_law_247 : decode b_L_law 247 = .ok (.iaload, 1) := by decide +kernel
theorem d_L_law_248 : decode b_L_law 248 = .ok (.aload_n 0, 1) := by decide +kernel
theorem d_L_law_249 : decode b_L_law 249 = .ok (.iload_n 3, 1) := by decide +kernel
theorem d_L_law_250 : decode b_L_law 250 = .ok (.iconst 2, 1) := by decide +kernel
theorem d_L_law_251 : decode b_L_law 251 = .ok (.iadd, 1) := by decide +kernel
theorem d_L_law_252 : decode b_L_law 252 = .ok (.iaload, 1) := by decide +kernel
theorem d_L_law_253 : decode b_L_law 253 = .ok (.aload_n 0, 1) := by decide +kernel
theorem d_L_law_254 : decode b_L_law 254 = .ok (.iload_n 3, 1) := by decide +kernel
theorem d_L_law_255 : decode b_L_law 255 = .ok (.iconst 3, 1) := by decide +kernel
theorem d_L_law_256 : decode b_L_law 256 = .ok (.iadd, 1) := by decide +kernel
theorem d_L_law_257 : decode b_L_law 257 = .ok (.iaload, 1) := by decide +kernel
theorem d_L_law_258 : decode b_L_law 258 = .ok (.invokevirtual 28, 3) := by decide +kernel
theorem d_L_law_261 : decode b_L_law 261 = .ok (.aload_n 2, 1) := by decide +kernel
theorem d_L_law_262 : decode b_L_law 262 = .ok (.aload_n 0, 1) := by decide +kernel
theorem d_L_law_263 : decode b_L_law 263 = .ok (.iload_n 3, 1) := by decide +kernel
theorem d_L_law_264 : decode b_L_law 264 = .ok (.iconst 1, 1) := by decide +kernel
theorem d_L_law_265 : decode b_L_law 265 = .ok (.iadd, 1) := by decide +kernel
theorem d_L_law_266 : decode b_L_law 266 = .ok (.iaload, 1) := by decide +kernel
theorem d_L_law_267 : decode b_L_law 267 = .ok (.aload_n 0, 1) := by decide +kernel
theorem d_L_law_268 : decode b_L_law 268 = .ok (.iload_n 3, 1) := by decide +kernel
theorem d_L_law_269 : decode b_L_law 269 = .ok (.iconst 2, 1) := by decide +kernel
theorem d_L_law_270 : decode b_L_law 270 = .ok (.iadd, 1) := by decide +kernel
theorem d_L_law_271 : decode b_L_law 271 = .ok (.iaload, 1) := by decide +kernel
theorem d_L_law_272 : decode b_L_law 272 = .ok (.aload_n 0, 1) := by decide +kernel
theorem d_L_law_273 : decode b_L_law 273 = .ok (.iload_n 3, 1) := by decide +kernel
theorem d_L_law_274 : decode b_L_law 274 = .ok (.iconst 3, 1) := by decide +kernel
theorem d_L_law_275 : decode b_L_law 275 = .ok (.iadd, 1) := by decide +kernel
theorem d_L_law_276 : decode b_L_law 276 = .ok (.iaload, 1) := by decide +kernel
theorem d_L_law_277 : decode b_L_law 277 = .ok (.invokevirtual 32, 3) := by decide +kernel
theorem d_L_law_280 : decode b_L_law 280 = .ok (.if_icmp .eq 327, 3) := by decide +kernel
theorem d_L_law_283 : decode b_L_law 283 = .ok (.iconst 0, 1) := by decide +kernel
theorem d_L_law_284 : decode b_L_law 284 = .ok (.ireturn, 1) := by decide +kernel
theorem d_L_law_285 : decode b_L_law 285 = .ok (.aload_n 1, 1) := by decide +kernel
theorem d_L_law_286 : decode b_L_law 286 = .ok (.aload_n 0, 1) := by decide +kernel
theorem d_L_law_287 : decode b_L_law 287 = .ok (.iload_n 3, 1) := by decide +kernel
theorem d_L_law_288 : decode b_L_law 288 = .ok (.iconst 1, 1) := by decide +kernel
theorem d_L_law_289 : decode b_L_law 289 = .ok (.iadd, 1) := by decide +kernel
theorem d_L_law_290 : decode b_L_law 290 = .ok (.iaload, 1) := by decide +kernel
theorem d_L_law_291 : decode b_L_law 291 = .ok (.invokevirtual 33, 3) := by decide +kernel
theorem d_L_law_294 : decode b_L_law 294 = .ok (.aload_n 2, 1) := by decide +kernel
theorem d_L_law_295 : decode b_L_law 295 = .ok (.aload_n 0, 1) := by decide +kernel
theorem d_L_law_296 : decode b_L_law 296 = .ok (.iload_n 3, 1) := by decide +kernel
theorem d_L_law_297 : decode b_L_law 297 = .ok (.iconst 1, 1) := by decide +kernel
theorem d_L_law_298 : decode b_L_law 298 = .ok (.iadd, 1) := by decide +kernel
theorem d_L_law_299 : decode b_L_law 299 = .ok (.iaload, 1) := by decide +kernel
theorem d_L_law_300 : decode b_L_law 300 = .ok (.invokevirtual 37, 3) := by decide +kernel
theorem d_L_law_303 : decode b_L_law 303 = .ok (.lcmp, 1) := by decide +kernel
theorem d_L_law_304 : decode b_L_law 304 = .ok (.ifCond .eq 303, 3) := by decide +kernel
theorem d_L_law_307 : decode b_L_law 307 = .ok (.iconst 0, 1) := by decide +kernel
theorem d_L_law_308 : decode b_L_law 308 = .ok (.ireturn, 1) := by decide +kernel
theorem d_L_law_309 : decode b_L_law 309 = .ok (.aload_n 1, 1) := by decide +kernel
theorem d_L_law_310 : decode b_L_law 310 = .ok (.aload_n 0, 1) := by decide +kernel
theorem d_L_law_311 : decode b_L_law 311 = .ok (.iload_n 3, 1) := by decide +kernel
theorem d_L_law_312 : decode b_L_law 312 = .ok (.iconst 1, 1) := by decide +kernel
theorem d_L_law_313 : decode b_L_law 313 = .ok (.iadd, 1) := by decide +kernel
theorem d_L_law_314 : decode b_L_law 314 = .ok (.iaload, 1) := by decide +kernel
theorem d_L_law_315 : decode b_L_law 315 = .ok (.aload_n 0, 1) := by decide +kernel
theorem d_L_law_316 : decode b_L_law 316 = .ok (.iload_n 3, 1) := by decide +kernel
theorem d_L_law_317 : decode b_L_law 317 = .ok (.iconst 2, 1) := by decide +kernel
theorem d_L_law_318 : decode b_L_law 318 = .ok (.iadd, 1) := by decide +kernel
theorem d_L_law_319 : decode b_L_law 319 = .ok (.iaload, 1) := by decide +kernel
theorem d_L_law_320 : decode b_L_law 320 = .ok (.aload_n 0, 1) := by decide +kernel
theorem d_L_law_321 : decode b_L_law 321 = .ok (.iload_n 3, 1) := by decide +kernel
theorem d_L_law_322 : decode b_L_law 322 = .ok (.iconst 3, 1) := by decide +kernel
theorem d_L_law_323 : decode b_L_law 323 = .ok (.iadd, 1) := by decide +kernel
theorem d_L_law_324 : decode b_L_law 324 = .ok (.iaload, 1) := by decide +kernel
theorem d_L_law_325 : decode b_L_law 325 = .ok (.aload_n 0, 1) := by decide +kernel
theorem d_L_law_326 : decode b_L_law 326 = .ok (.iload_n 3, 1) := by decide +kernel
theorem d_L_law_327 : decode b_L_law 327 = .ok (.iconst 4, 1) := by decide +kernel
theorem d_L_law_328 : decode b_L_law 328 = .ok (.iadd, 1) := by decide +kernel
theorem d_L_law_329 : decode b_L_law 329 = .ok (.iaload, 1) := by decide +kernel
theorem d_L_law_330 : decode b_L_law 330 = .ok (.invokevirtual 38, 3) := by decide +kernel
theorem d_L_law_333 : decode b_L_law 333 = .ok (.aload_n 2, 1) := by decide +kernel
theorem d_L_law_334 : decode b_L_law 334 = .ok (.aload_n 0, 1) := by decide +kernel
theorem d_L_law_335 : decode b_L_law 335 = .ok (.iload_n 3, 1) := by decide +kernel
theorem d_L_law_336 : decode b_L_law 336 = .ok (.iconst 1, 1) := by decide +kernel
theorem d_L_law_337 : decode b_L_law 337 = .ok (.iadd, 1) := by decide +kernel
theorem d_L_law_338 : decode b_L_law 338 = .ok (.iaload, 1) := by decide +kernel
theorem d_L_law_339 : decode b_L_law 339 = .ok (.aload_n 0, 1) := by decide +kernel
theorem d_L_law_340 : decode b_L_law 340 = .ok (.iload_n 3, 1) := by decide +kernel
theorem d_L_law_341 : decode b_L_law 341 = .ok (.iconst 2, 1) := by decide +kernel
theorem d_L_law_342 : decode b_L_law 342 = .ok (.iadd, 1) := by decide +kernel
theorem d_L_law_343 : decode b_L_law 343 = .ok (.iaload, 1) := by decide +kernel
theorem d_L_law_344 : decode b_L_law 344 = .ok (.aload_n 0, 1) := by decide +kernel
theorem d_L_law_345 : decode b_L_law 345 = .ok (.iload_n 3, 1) := by decide +kernel
theorem d_L_law_346 : decode b_L_law 346 = .ok (.iconst 3, 1) := by decide +kernel
theorem d_L_law_347 : decode b_L_law 347 = .ok (.iadd, 1) := by decide +kernel
theorem d_L_law_348 : decode b_L_law 348 = .ok (.iaload, 1) := by decide +kernel
theorem d_L_law_349 : decode b_L_law 349 = .ok (.aload_n 0, 1) := by decide +kernel
theorem d_L_law_350 : decode b_L_law 350 = .ok (.iload_n 3, 1) := by decide +kernel
theorem d_L_law_351 : decode b_L_law 351 = .ok (.iconst 4, 1) := by decide +kernel
theorem d_L_law_352 : decode b_L_law 352 = .ok (.iadd, 1) := by decide +kernel
theorem d_L_law_353 : decode b_L_law 353 = .ok (.iaload, 1) := by decide +kernel
theorem d_L_law_354 : decode b_L_law 354 = .ok (.invokevirtual 41, 3) := by decide +kernel
theorem d_L_law_357 : decode b_L_law 357 = .ok (.if_icmp .eq 250, 3) := by decide +kernel
theorem d_L_law_360 : decode b_L_law 360 = .ok (.iconst 0, 1) := by decide +kernel
theorem d_L_law_361 : decode b_L_law 361 = .ok (.ireturn, 1) := by decide +kernel
theorem d_L_law_362 : decode b_L_law 362 = .ok (.aload_n 1, 1) := by decide +kernel
theorem d_L_law_363 : decode b_L_law 363 = .ok (.aload_n 0, 1) := by decide +kernel
theorem d_L_law_364 : decode b_L_law 364 = .ok (.iload_n 3, 1) := by decide +kernel
theorem d_L_law_365 : decode b_L_law 365 = .ok (.iconst 1, 1) := by decide +kernel
theorem d_L_law_366 : decode b_L_law 366 = .ok (.iadd, 1) := by decide +kernel
theorem d_L_law_367 : decode b_L_law 367 = .ok (.iaload, 1) := by decide +kernel
theorem d_L_law_368 : decode b_L_law 368 = .ok (.aload_n 0, 1) := by decide +kernel
theorem d_L_law_369 : decode b_L_law 369 = .ok (.iload_n 3, 1) := by decide +kernel
theorem d_L_law_370 : decode b_L_law 370 = .ok (.iconst 2, 1) := by decide +kernel
theorem d_L_law_371 : decode b_L_law 371 = .ok (.iadd, 1) := by decide +kernel
theorem d_L_law_372 : decode b_L_law 372 = .ok (.iaload, 1) := by decide +kernel
theorem d_L_law_373 : decode b_L_law 373 = .ok (.invokevirtual 42, 3) := by decide +kernel
theorem d_L_law_376 : decode b_L_law 376 = .ok (.aload_n 2, 1) := by decide +kernel
theorem d_L_law_377 : decode b_L_law 377 = .ok (.aload_n 0, 1) := by decide +kernel
theorem d_L_law_378 : decode b_L_law 378 = .ok (.iload_n 3, 1) := by decide +kernel
theorem d_L_law_379 : decode b_L_law 379 = .ok (.iconst 1, 1) := by decide +kernel
theorem d_L_law_380 : decode b_L_law 380 = .ok (.iadd, 1) := by decide +kernel
theorem d_L_law_381 : decode b_L_law 381 = .ok (.iaload, 1) := by decide +kernel
theorem d_L_law_382 : decode b_L_law 382 = .ok (.aload_n 0, 1) := by decide +kernel
theorem d_L_law_383 : decode b_L_law 383 = .ok (.iload_n 3, 1) := by decide +kernel
theorem d_L_law_384 : decode b_L_law 384 = .ok (.iconst 2, 1) := by decide +kernel
theorem d_L_law_385 : decode b_L_law 385 = .ok (.iadd, 1) := by decide +kernel
theorem d_L_law_386 : decode b_L_law 386 = .ok (.iaload, 1) := by decide +kernel
theorem d_L_law_387 : decode b_L_law 387 = .ok (.invokevirtual 45, 3) := by decide +kernel
theorem d_L_law_390 : decode b_L_law 390 = .ok (.lcmp, 1) := by decide +kernel
theorem d_L_law_391 : decode b_L_law 391 = .ok (.ifCond .eq 216, 3) := by decide +kernel
theorem d_L_law_394 : decode b_L_law 394 = .ok (.iconst 0, 1) := by decide +kernel
theorem d_L_law_395 : decode b_L_law 395 = .ok (.ireturn, 1) := by decide +kernel
theorem d_L_law_396 : decode b_L_law 396 = .ok (.aload_n 1, 1) := by decide +kernel
theorem d_L_law_397 : decode b_L_law 397 = .ok (.aload_n 0, 1) := by decide +kernel
theorem d_L_law_398 : decode b_L_law 398 = .ok (.iload_n 3, 1) := by decide +kernel
theorem d_L_law_399 : decode b_L_law 399 = .ok (.iconst 1, 1) := by decide +kernel
theorem d_L_law_400 : decode b_L_law 400 = .ok (.iadd, 1) := by decide +kernel
theorem d_L_law_401 : decode b_L_law 401 = .ok (.iaload, 1) := by decide +kernel
theorem d_L_law_402 : decode b_L_law 402 = .ok (.aload_n 0, 1) := by decide +kernel
theorem d_L_law_403 : decode b_L_law 403 = .ok (.iload_n 3, 1) := by decide +kernel
theorem d_L_law_404 : decode b_L_law 404 = .ok (.iconst 2, 1) := by decide +kernel
theorem d_L_law_405 : decode b_L_law 405 = .ok (.iadd, 1) := by decide +kernel
theorem d_L_law_406 : decode b_L_law 406 = .ok (.iaload, 1) := by decide +kernel
theorem d_L_law_407 : decode b_L_law 407 = .ok (.aload_n 0, 1) := by decide +kernel
theorem d_L_law_408 : decode b_L_law 408 = .ok (.iload_n 3, 1) := by decide +kernel
theorem d_L_law_409 : decode b_L_law 409 = .ok (.iconst 3, 1) := by decide +kernel
theorem d_L_law_410 : decode b_L_law 410 = .ok (.iadd, 1) := by decide +kernel
theorem d_L_law_411 : decode b_L_law 411 = .ok (.iaload, 1) := by decide +kernel
theorem d_L_law_412 : decode b_L_law 412 = .ok (.invokevirtual 46, 3) := by decide +kernel
theorem d_L_law_415 : decode b_L_law 415 = .ok (.aload_n 2, 1) := by decide +kernel
theorem d_L_law_416 : decode b_L_law 416 = .ok (.aload_n 0, 1) := by decide +kernel
theorem d_L_law_417 : decode b_L_law 417 = .ok (.iload_n 3, 1) := by decide +kernel
theorem d_L_law_418 : decode b_L_law 418 = .ok (.iconst 1, 1) := by decide +kernel
theorem d_L_law_419 : decode b_L_law 419 = .ok (.iadd, 1) := by decide +kernel
theorem d_L_law_420 : decode b_L_law 420 = .ok (.iaload, 1) := by decide +kernel
theorem d_L_law_421 : decode b_L_law 421 = .ok (.aload_n 0, 1) := by decide +kernel
theorem d_L_law_422 : decode b_L_law 422 = .ok (.iload_n 3, 1) := by decide +kernel
theorem d_L_law_423 : decode b_L_law 423 = .ok (.iconst 2, 1) := by decide +kernel
theorem d_L_law_424 : decode b_L_law 424 = .ok (.iadd, 1) := by decide +kernel
theorem d_L_law_425 : decode b_L_law 425 = .ok (.iaload, 1) := by decide +kernel
theorem d_L_law_426 : decode b_L_law 426 = .ok (.aload_n 0, 1) := by decide +kernel
theorem d_L_law_427 : decode b_L_law 427 = .ok (.iload_n 3, 1) := by decide +kernel
theorem d_L_law_428 : decode b_L_law 428 = .ok (.iconst 3, 1) := by decide +kernel
theorem d_L_law_429 : decode b_L_law 429 = .ok (.iadd, 1) := by decide +kernel
theorem d_L_law_430 : decode b_L_law 430 = .ok (.iaload, 1) := by decide +kernel
theorem d_L_law_431 : decode b_L_law 431 = .ok (.invokevirtual 49, 3) := by decide +kernel
theorem d_L_law_434 : decode b_L_law 434 = .ok (.if_icmp .eq 173, 3) := by decide +kernel
theorem d_L_law_437 : decode b_L_law 437 = .ok (.iconst 0, 1) := by decide +kernel
theorem d_L_law_438 : decode b_L_law 438 = .ok (.ireturn, 1) := by decide +kernel
theorem d_L_law_439 : decode b_L_law 439 = .ok (.aload_n 1, 1) := by decide +kernel
theorem d_L_law_440 : decode b_L_law 440 = .ok (.aload_n 0, 1) := by decide +kernel
theorem d_L_law_441 : decode b_L_law 441 = .ok (.iload_n 3, 1) := by decide +kernel
theorem d_L_law_442 : decode b_L_law 442 = .ok (.iconst 1, 1) := by decide +kernel
theorem d_L_law_443 : decode b_L_law 443 = .ok (.iadd, 1) := by decide +kernel
theorem d_L_law_444 : decode b_L_law 444 = .ok (.iaload, 1) := by decide +kernel
theorem d_L_law_445 : decode b_L_law 445 = .ok (.invokevirtual 50, 3) := by decide +kernel
theorem d_L_law_448 : decode b_L_law 448 = .ok (.aload_n 2, 1) := by decide +kernel
theorem d_L_law_449 : decode b_L_law 449 = .ok (.aload_n 0, 1) := by decide +kernel
theorem d_L_law_450 : decode b_L_law 450 = .ok (.iload_n 3, 1) := by decide +kernel
theorem d_L_law_451 : decode b_L_law 451 = .ok (.iconst 1, 1) := by decide +kernel
theorem d_L_law_452 : decode b_L_law 452 = .ok (.iadd, 1) := by decide +kernel
theorem d_L_law_453 : decode b_L_law 453 = .ok (.iaload, 1) := by decide +kernel
theorem d_L_law_454 : decode b_L_law 454 = .ok (.invokevirtual 53, 3) := by decide +kernel
theorem d_L_law_457 : decode b_L_law 457 = .ok (.lcmp, 1) := by decide +kernel
theorem d_L_law_458 : decode b_L_law 458 = .ok (.ifCond .eq 149, 3) := by decide +kernel
theorem d_L_law_461 : decode b_L_law 461 = .ok (.iconst 0, 1) := by decide +kernel
theorem d_L_law_462 : decode b_L_law 462 = .ok (.ireturn, 1) := by decide +kernel
theorem d_L_law_463 : decode b_L_law 463 = .ok (.aload_n 1, 1) := by decide +kernel
theorem d_L_law_464 : decode b_L_law 464 = .ok (.invokevirtual 54, 3) := by decide +kernel
theorem d_L_law_467 : decode b_L_law 467 = .ok (.aload_n 2, 1) := by decide +kernel
theorem d_L_law_468 : decode b_L_law 468 = .ok (.invokevirtual 58, 3) := by decide +kernel
theorem d_L_law_471 : decode b_L_law 471 = .ok (.if_icmp .eq 136, 3) := by decide +kernel
theorem d_L_law_474 : decode b_L_law 474 = .ok (.iconst 0, 1) := by decide +kernel
theorem d_L_law_475 : decode b_L_law 475 = .ok (.ireturn, 1) := by decide +kernel
theorem d_L_law_476 : decode b_L_law 476 = .ok (.aload_n 1, 1) := by decide +kernel
theorem d_L_law_477 : decode b_L_law 477 = .ok (.invokevirtual 59, 3) := by decide +kernel
theorem d_L_law_480 : decode b_L_law 480 = .ok (.aload_n 2, 1) := by decide +kernel
theorem d_L_law_481 : decode b_L_law 481 = .ok (.invokevirtual 62, 3) := by decide +kernel
theorem d_L_law_484 : decode b_L_law 484 = .ok (.if_icmp .eq 123, 3) := by decide +kernel
theorem d_L_law_487 : decode b_L_law 487 = .ok (.iconst 0, 1) := by decide +kernel
theorem d_L_law_488 : decode b_L_law 488 = .ok (.ireturn, 1) := by decide +kernel
theorem d_L_law_489 : decode b_L_law 489 = .ok (.aload_n 1, 1) := by decide +kernel
theorem d_L_law_490 : decode b_L_law 490 = .ok (.invokevirtual 63, 3) := by decide +kernel
theorem d_L_law_493 : decode b_L_law 493 = .ok (.aload_n 2, 1) := by decide +kernel
theorem d_L_law_494 : decode b_L_law 494 = .ok (.invokevirtual 66, 3) := by decide +kernel
theorem d_L_law_497 : decode b_L_law 497 = .ok (.if_icmp .eq 110, 3) := by decide +kernel
theorem d_L_law_500 : decode b_L_law 500 = .ok (.iconst 0, 1) := by decide +kernel
theorem d_L_law_501 : decode b_L_law 501 = .ok (.ireturn, 1) := by decide +kernel
theorem d_L_law_502 : decode b_L_law 502 = .ok (.aload_n 1, 1) := by decide +kernel
theorem d_L_law_503 : decode b_L_law 503 = .ok (.invokevirtual 67, 3) := by decide +kernel
theorem d_L_law_506 : decode b_L_law 506 = .ok (.aload_n 2, 1) := by decide +kernel
theorem d_L_law_507 : decode b_L_law 507 = .ok (.invokevirtual 70, 3) := by decide +kernel
theorem d_L_law_510 : decode b_L_law 510 = .ok (.if_icmp .eq 97, 3) := by decide +kernel
theorem d_L_law_513 : decode b_L_law 513 = .ok (.iconst 0, 1) := by decide +kernel
theorem d_L_law_514 : decode b_L_law 514 = .ok (.ireturn, 1) := by decide +kernel
theorem d_L_law_515 : decode b_L_law 515 = .ok (.aload_n 1, 1) := by decide +kernel
theorem d_L_law_516 : decode b_L_law 516 = .ok (.aload_n 0, 1) := by decide +kernel
theorem d_L_law_517 : decode b_L_law 517 = .ok (.iload_n 3, 1) := by decide +kernel
theorem d_L_law_518 : decode b_L_law 518 = .ok (.iconst 1, 1) := by decide +kernel
theorem d_L_law_519 : decode b_L_law 519 = .ok (.iadd, 1) := by decide +kernel
theorem d_L_law_520 : decode b_L_law 520 = .ok (.iaload, 1) := by decide +kernel
theorem d_L_law_521 : decode b_L_law 521 = .ok (.invokevirtual 71, 3) := by decide +kernel
theorem d_L_law_524 : decode b_L_law 524 = .ok (.aload_n 2, 1) := by decide +kernel
theorem d_L_law_525 : decode b_L_law 525 = .ok (.aload_n 0, 1) := by decide +kernel
theorem d_L_law_526 : decode b_L_law 526 = .ok (.iload_n 3, 1) := by decide +kernel
theorem d_L_law_527 : decode b_L_law 527 = .ok (.iconst 1, 1) := by decide +kernel
theorem d_L_law_528 : decode b_L_law 528 = .ok (.iadd, 1) := by decide +kernel
theorem d_L_law_529 : decode b_L_law 529 = .ok (.iaload, 1) := by decide +kernel
theorem d_L_law_530 : decode b_L_law 530 = .ok (.invokevirtual 75, 3) := by decide +kernel
theorem d_L_law_533 : decode b_L_law 533 = .ok (.if_icmp .eq 74, 3) := by decide +kernel
theorem d_L_law_536 : decode b_L_law 536 = .ok (.iconst 0, 1) := by decide +kernel
theorem d_L_law_537 : decode b_L_law 537 = .ok (.ireturn, 1) := by decide +kernel
theorem d_L_law_538 : decode b_L_law 538 = .ok (.aload_n 1, 1) := by decide +kernel
theorem d_L_law_539 : decode b_L_law 539 = .ok (.aload_n 0, 1) := by decide +kernel
theorem d_L_law_540 : decode b_L_law 540 = .ok (.iload_n 3, 1) := by decide +kernel
theorem d_L_law_541 : decode b_L_law 541 = .ok (.iconst 1, 1) := by decide +kernel
theorem d_L_law_542 : decode b_L_law 542 = .ok (.iadd, 1) := by decide +kernel
theorem d_L_law_543 : decode b_L_law 543 = .ok (.iaload, 1) := by decide +kernel
theorem d_L_law_544 : decode b_L_law 544 = .ok (.invokevirtual 76, 3) := by decide +kernel
theorem d_L_law_547 : decode b_L_law 547 = .ok (.aload_n 2, 1) := by decide +kernel
theorem d_L_law_548 : decode b_L_law 548 = .ok (.aload_n 0, 1) := by decide +kernel
theorem d_L_law_549 : decode b_L_law 549 = .ok (.iload_n 3, 1) := by decide +kernel
theorem d_L_law_550 : decode b_L_law 550 = .ok (.iconst 1, 1) := by decide +kernel
theorem d_L_law_551 : decode b_L_law 551 = .ok (.iadd, 1) := by decide +kernel
theorem d_L_law_552 : decode b_L_law 552 = .ok (.iaload, 1) := by decide +kernel
theorem d_L_law_553 : decode b_L_law 553 = .ok (.invokevirtual 79, 3) := by decide +kernel
theorem d_L_law_556 : decode b_L_law 556 = .ok (.if_icmp .eq 51, 3) := by decide +kernel
theorem d_L_law_559 : decode b_L_law 559 = .ok (.iconst 0, 1) := by decide +kernel
theorem d_L_law_560 : decode b_L_law 560 = .ok (.ireturn, 1) := by decide +kernel
theorem d_L_law_561 : decode b_L_law 561 = .ok (.aload_n 1, 1) := by decide +kernel
theorem d_L_law_562 : decode b_L_law 562 = .ok (.aload_n 0, 1) := by decide +kernel
theorem d_L_law_563 : decode b_L_law 563 = .ok (.iload_n 3, 1) := by decide +kernel
theorem d_L_law_564 : decode b_L_law 564 = .ok (.iconst 1, 1) := by decide +kernel
theorem d_L_law_565 : decode b_L_law 565 = .ok (.iadd, 1) := by decide +kernel
theorem d_L_law_566 : decode b_L_law 566 = .ok (.iaload, 1) := by decide +kernel
theorem d_L_law_567 : decode b_L_law 567 = .ok (.invokevirtual 80, 3) := by decide +kernel
theorem d_L_law_570 : decode b_L_law 570 = .ok (.aload_n 2, 1) := by decide +kernel
theorem d_L_law_571 : decode b_L_law 571 = .ok (.aload_n 0, 1) := by decide +kernel
theorem d_L_law_572 : decode b_L_law 572 = .ok (.iload_n 3, 1) := by decide +kernel
theorem d_L_law_573 : decode b_L_law 573 = .ok (.iconst 1, 1) := by decide +kernel
theorem d_L_law_574 : decode b_L_law 574 = .ok (.iadd, 1) := by decide +kernel
theorem d_L_law_575 : decode b_L_law 575 = .ok (.iaload, 1) := by decide +kernel
theorem d_L_law_576 : decode b_L_law 576 = .ok (.invokevirtual 83, 3) := by decide +kernel
theorem d_L_law_579 : decode b_L_law 579 = .ok (.if_icmp .eq 28, 3) := by decide +kernel
theorem d_L_law_582 : decode b_L_law 582 = .ok (.iconst 0, 1) := by decide +kernel
theorem d_L_law_583 : decode b_L_law 583 = .ok (.ireturn, 1) := by decide +kernel
theorem d_L_law_584 : decode b_L_law 584 = .ok (.aload_n 1, 1) := by decide +kernel
theorem d_L_law_585 : decode b_L_law 585 = .ok (.aload_n 0, 1) := by decide +kernel
theorem d_L_law_586 : decode b_L_law 586 = .ok (.iload_n 3, 1) := by decide +kernel
theorem d_L_law_587 : decode b_L_law 587 = .ok (.iconst 1, 1) := by decide +kernel
theorem d_L_law_588 : decode b_L_law 588 = .ok (.iadd, 1) := by decide +kernel
theorem d_L_law_589 : decode b_L_law 589 = .ok (.iaload, 1) := by decide +kernel
theorem d_L_law_590 : decode b_L_law 590 = .ok (.invokevirtual 84, 3) := by decide +kernel
theorem d_L_law_593 : decode b_L_law 593 = .ok (.aload_n 2, 1) := by decide +kernel
theorem d_L_law_594 : decode b_L_law 594 = .ok (.aload_n 0, 1) := by decide +kernel
theorem d_L_law_595 : decode b_L_law 595 = .ok (.iload_n 3, 1) := by decide +kernel
theorem d_L_law_596 : decode b_L_law 596 = .ok (.iconst 1, 1) := by decide +kernel
theorem d_L_law_597 : decode b_L_law 597 = .ok (.iadd, 1) := by decide +kernel
theorem d_L_law_598 : decode b_L_law 598 = .ok (.iaload, 1) := by decide +kernel
theorem d_L_law_599 : decode b_L_law 599 = .ok (.invokevirtual 87, 3) := by decide +kernel
theorem d_L_law_602 : decode b_L_law 602 = .ok (.if_icmp .eq 5, 3) := by decide +kernel
theorem d_L_law_605 : decode b_L_law 605 = .ok (.iconst 0, 1) := by decide +kernel
theorem d_L_law_606 : decode b_L_law 606 = .ok (.ireturn, 1) := by decide +kernel
theorem d_L_law_607 : decode b_L_law 607 = .ok (.iinc 3 5, 3) := by decide +kernel
theorem d_L_law_610 : decode b_L_law 610 = .ok (.goto (-592), 3) := by decide +kernel
theorem d_L_law_613 : decode b_L_law 613 = .ok (.iconst 1, 1) := by decide +kernel
theorem d_L_law_614 : decode b_L_law 614 = .ok (.ireturn, 1) := by decide +kernel
end
section
def f_R_init (b0 : Nat) (S : mc_S) : Option mc_S := (nwA 2 100 100 (.inl (fun _ => 0)) S).bind fun S1 => (wrV S1 (some b0) 3 0 (va_rf (some S.2))).bind fun S2 => (nwA 0 100 100 (.inl (fun _ => 0)) S2).bind fun S3 => (wrV S3 (some b0) 3 1 (va_rf (some S2.2))).bind fun S4 => (wrV S4 (some b0) 3 2 (.int 0)).bind fun S5 => some S5
def f_S_init (b0 : Nat) (a1 : Int32) (a2 : Int32) (S : mc_S) : Option mc_S := (wrV S (some b0) 1 3 (.int 0)).bind fun S1 => (wrV S1 (some b0) 1 0 (.int a1)).bind fun S2 => (nwA 0 20 a2 (.inl (fun _ => 0)) S2).bind fun S3 => (wrV S3 (some b0) 1 1 (va_rf (some S2.2))).bind fun S4 => (nwA 1 20 a2 (.inr (.inl (fun _ => 0))) S4).bind fun S5 => (wrV S5 (some b0) 1 2 (va_rf (some S4.2))).bind fun S6 => some S6
def f_T_init (b0 : Nat) (a1 : Option Nat) (S : mc_S) : Option mc_S := (nwA 3 100 100 (.inr (.inr (.inr (.inr (fun _ => none))))) S).bind fun S1 => (wrV S1 (some b0) 2 0 (va_rf (some S.2))).bind fun S2 => (wrV S2 (some b0) 2 1 (va_rf a1)).bind fun S3 => some S3
def q_K_init_0 (b0 : Nat) (self : Option Nat → Int32 → mc_S → Option mc_S) (r1 : Option Nat) (x2 : Int32) (S : mc_S) : Option mc_S := if 9 ≤ x2 then (some S) else ((rdR S (some b0) 0 1).bind fun v1 => (rcv (nwO 2 [.null, .null] S) (some S.2) 2).bind fun b2 => (f_T_init b2 r1 (nwO 2 [.null, .null] S)).bind fun S3 => (stR S3 v1 4 2 x2 (some S.2)).bind fun S4 => self r1 (x2 + 1) S4)
def g_K_init (b0 : Nat) : Nat → Option Nat → Int32 → mc_S → Option mc_S
  | 0 => fun _ _ _ => none
  | n + 1 => fun r1 x2 S => q_K_init_0 b0 (g_K_init b0 n) r1 x2 S
def f_K_init (b0 : Nat) (S : mc_S) : Option mc_S := (nwA 4 9 9 (.inr (.inr (.inr (.inr (fun _ => none))))) S).bind fun S1 => (wrV S1 (some b0) 0 1 (va_rf (some S.2))).bind fun S2 => (nwA 0 9 9 (.inl (fun _ => 0)) S2).bind fun S3 => (wrV S3 (some b0) 0 2 (va_rf (some S2.2))).bind fun S4 => (rcv (nwO 3 [.null, .null, .int 0] S4) (some S4.2) 3).bind fun b5 => (f_R_init b5 (nwO 3 [.null, .null, .int 0] S4)).bind fun S6 => (wrV S6 (some b0) 0 3 (va_rf (some S4.2))).bind fun S7 => (wrV S7 (some b0) 0 4 (.int 0)).bind fun S8 => (wrV S8 (some b0) 0 5 (.int 0)).bind fun S9 => (wrV S9 (some b0) 0 6 (.int 0)).bind fun S10 => (rcv (nwO 1 [.int 0, .null, .null, .int 0] S10) (some S10.2) 1).bind fun b11 => (f_S_init b11 1 12 (nwO 1 [.int 0, .null, .null, .int 0] S10)).bind fun S12 => (rcv (nwO 2 [.null, .null] S12) (some S12.2) 2).bind fun b13 => (f_T_init b13 (some S10.2) (nwO 2 [.null, .null] S12)).bind fun S14 => (wrV S14 (some b0) 0 0 (va_rf (some S12.2))).bind fun S15 => g_K_init b0 12 (some S10.2) 0 S15
def f_N_init (b0 : Nat) (S : mc_S) : Option mc_S := (nwA 0 100 100 (.inl (fun _ => 0)) S).bind fun S1 => (wrV S1 (some b0) 5 0 (va_rf (some S.2))).bind fun S2 => (nwA 0 100 100 (.inl (fun _ => 0)) S2).bind fun S3 => (wrV S3 (some b0) 5 1 (va_rf (some S2.2))).bind fun S4 => (nwA 0 800 800 (.inl (fun _ => 0)) S4).bind fun S5 => (wrV S5 (some b0) 5 2 (va_rf (some S4.2))).bind fun S6 => (nwA 0 12 12 (.inl (fun _ => 0)) S6).bind fun S7 => (wrV S7 (some b0) 5 3 (va_rf (some S6.2))).bind fun S8 => (nwA 1 2000 2000 (.inr (.inl (fun _ => 0))) S8).bind fun S9 => (wrV S9 (some b0) 5 4 (va_rf (some S8.2))).bind fun S10 => (nwA 1 12 12 (.inr (.inl (fun _ => 0))) S10).bind fun S11 => (wrV S11 (some b0) 5 5 (va_rf (some S10.2))).bind fun S12 => some S12
def q_M_init_0 (b0 : Nat) (self : Int32 → mc_S → Option mc_S) (x1 : Int32) (S : mc_S) : Option mc_S := if 8 ≤ x1 then (some S) else ((rdR S (some b0) 4 3).bind fun v1 => (rcv (nwO 5 [.null, .null, .null, .null, .null, .null, .int 0, .int 0] S) (some S.2) 5).bind fun b2 => (f_N_init b2 (nwO 5 [.null, .null, .null, .null, .null, .null, .int 0, .int 0] S)).bind fun S3 => (stR S3 v1 5 5 x1 (some S.2)).bind fun S4 => self (x1 + 1) S4)
def g_M_init (b0 : Nat) : Nat → Int32 → mc_S → Option mc_S
  | 0 => fun _ _ => none
  | n + 1 => fun x1 S => q_M_init_0 b0 (g_M_init b0 n) x1 S
def f_M_init (b0 : Nat) (S : mc_S) : Option mc_S := (rcv (nwO 5 [.null, .null, .null, .null, .null, .null, .int 0, .int 0] S) (some S.2) 5).bind fun b1 => (f_N_init b1 (nwO 5 [.null, .null, .null, .null, .null, .null, .int 0, .int 0] S)).bind fun S2 => (wrV S2 (some b0) 4 0 (va_rf (some S.2))).bind fun S3 => (rcv (nwO 5 [.null, .null, .null, .null, .null, .null, .int 0, .int 0] S3) (some S3.2) 5).bind fun b4 => (f_N_init b4 (nwO 5 [.null, .null, .null, .null, .null, .null, .int 0, .int 0] S3)).bind fun S5 => (wrV S5 (some b0) 4 1 (va_rf (some S3.2))).bind fun S6 => (rcv (nwO 5 [.null, .null, .null, .null, .null, .null, .int 0, .int 0] S6) (some S6.2) 5).bind fun b7 => (f_N_init b7 (nwO 5 [.null, .null, .null, .null, .null, .null, .int 0, .int 0] S6)).bind fun S8 => (wrV S8 (some b0) 4 2 (va_rf (some S6.2))).bind fun S9 => (nwA 5 8 8 (.inr (.inr (.inr (.inr (fun _ => none))))) S9).bind fun S10 => (wrV S10 (some b0) 4 3 (va_rf (some S9.2))).bind fun S11 => (nwA 2 100 100 (.inl (fun _ => 0)) S11).bind fun S12 => (wrV S12 (some b0) 4 6 (va_rf (some S11.2))).bind fun S13 => (nwA 0 100 100 (.inl (fun _ => 0)) S13).bind fun S14 => (wrV S14 (some b0) 4 7 (va_rf (some S13.2))).bind fun S15 => g_M_init b0 12 0 S15
def q_K_make_0 (b0 : Nat) (self : Int32 → Int32 → mc_S → Option (Int32 × mc_S)) (x1 : Int32) (x2 : Int32) (S : mc_S) : Option (Int32 × mc_S) := if 100 ≤ x2 then (some ((-3), S)) else ((rdR S (some b0) 0 0).bind fun v1 => (rdR S v1 2 0).bind fun v2 => (ldR S v2 3 x2).bind fun v3 => if v3 = none then ((rdR S (some b0) 0 0).bind fun v4 => (rdR S v4 2 0).bind fun v5 => if x1 = 0 then ((rcv (nwO 1 [.int 0, .null, .null, .int 0] S) (some S.2) 1).bind fun b6 => (f_S_init b6 1 8 (nwO 1 [.int 0, .null, .null, .int 0] S)).bind fun S7 => (stR S7 v5 3 1 x2 (some S.2)).bind fun S8 => some (x2, S8)) else ((rcv (nwO 1 [.int 0, .null, .null, .int 0] S) (some S.2) 1).bind fun b9 => (f_S_init b9 2 20 (nwO 1 [.int 0, .null, .null, .int 0] S)).bind fun S10 => (stR S10 v5 3 1 x2 (some S.2)).bind fun S11 => some (x2, S11))) else (self x1 (x2 + 1) S))
def g_K_make (b0 : Nat) : Nat → Int32 → Int32 → mc_S → Option (Int32 × mc_S)
  | 0 => fun _ _ _ => none
  | n + 1 => fun x1 x2 S => q_K_make_0 b0 (g_K_make b0 n) x1 x2 S
def f_K_make (b0 : Nat) (a1 : Int32) (S : mc_S) : Option (Int32 × mc_S) := g_K_make b0 5000 a1 0 S
def q_M_make_0 (b0 : Nat) (self : Int32 → Int32 → mc_S → Option (Int32 × mc_S)) (x1 : Int32) (x2 : Int32) (S : mc_S) : Option (Int32 × mc_S) := if 100 ≤ x2 then (some ((-3), S)) else ((rdR S (some b0) 4 0).bind fun v1 => (rdR S v1 5 0).bind fun v2 => (ldI S v2 0 x2).bind fun v3 => if v3 = 0 then ((rdR S (some b0) 4 0).bind fun v4 => (rdR S v4 5 0).bind fun v5 => if x1 = 0 then ((stI S v5 0 x2 1).bind fun S6 => (rdR S6 (some b0) 4 0).bind fun v7 => (rdR S6 v7 5 1).bind fun v8 => (stI S6 v8 0 x2 0).bind fun S9 => some (x2, S9)) else ((stI S v5 0 x2 2).bind fun S10 => (rdR S10 (some b0) 4 0).bind fun v11 => (rdR S10 v11 5 1).bind fun v12 => (stI S10 v12 0 x2 0).bind fun S13 => some (x2, S13))) else (self x1 (x2 + 1) S))
def g_M_make (b0 : Nat) : Nat → Int32 → Int32 → mc_S → Option (Int32 × mc_S)
  | 0 => fun _ _ _ => none
  | n + 1 => fun x1 x2 S => q_M_make_0 b0 (g_M_make b0 n) x1 x2 S
def f_M_make (b0 : Nat) (a1 : Int32) (S : mc_S) : Option (Int32 × mc_S) := g_M_make b0 5000 a1 0 S
def f_T_has (b0 : Nat) (a1 : Int32) (S : mc_S) : Option (Int32 × mc_S) := if a1 < 0 then (some (0, S)) else (if 100 ≤ a1 then (some (0, S)) else ((rdR S (some b0) 2 0).bind fun v1 => (ldR S v1 3 a1).bind fun v2 => if v2 = none then (some (0, S)) else (some (1, S))))
def f_K_valueOf (b0 : Nat) (a1 : Int32) (a2 : Int32) (S : mc_S) : Option (Int64 × mc_S) := if a1 = (0 : Int32) then (some (1099511627776, S)) else (if a1 = (1 : Int32) then (some ((a2).toInt64, S)) else (if a1 = (2 : Int32) then ((rdR S (some b0) 0 0).bind fun v1 => (rcv S v1 2).bind fun b2 => (f_T_has b2 a2 S).bind fun o3 => if o3.1 = 0 then (some ((-1099511627776), o3.2)) else (some ((1099511627777 + (a2).toInt64), o3.2))) else (some ((-1099511627776), S))))
def f_T_find (b0 : Nat) (a1 : Int32) (a2 : Int32) (S : mc_S) : Option (Option Nat × mc_S) := (rcv S (some b0) 2).bind fun b1 => (f_T_has b1 a1 S).bind fun o2 => if o2.1 = 0 then (some (none, o2.2)) else ((rdR o2.2 (some b0) 2 0).bind fun v3 => (ldR o2.2 v3 3 a1).bind fun v4 => (rdI o2.2 v4 1 0).bind fun v5 => if v5 = a2 then ((rdR o2.2 (some b0) 2 0).bind fun v6 => (ldR o2.2 v6 3 a1).bind fun v7 => some (v7, o2.2)) else (some (none, o2.2)))
def f_K_ringIndex (b0 : Nat) (a1 : Int32) (S : mc_S) : Option (Int32 × mc_S) := (rdI S (some b0) 0 4).bind fun v1 => some (((v1 + a1) - (v1 + a1) / 9 * 9), S)
def f_K_kept (b0 : Nat) (S : mc_S) : Option (Option Nat × mc_S) := (rdR S (some b0) 0 1).bind fun v1 => (rdI S (some b0) 0 5).bind fun v2 => (rcv S (some b0) 0).bind fun b3 => (f_K_ringIndex b3 v2 S).bind fun o4 => (ldR o4.2 v1 4 o4.1).bind fun v5 => some (v5, o4.2)
def f_S_twin (b0 : Nat) (S : mc_S) : Option (Option Nat × mc_S) := (rdI (nwO 1 [.int 0, .null, .null, .int 0] S) (some b0) 1 0).bind fun v1 => (rdR (nwO 1 [.int 0, .null, .null, .int 0] S) (some b0) 1 2).bind fun v2 => (alen (nwO 1 [.int 0, .null, .null, .int 0] S) v2 1).bind fun v3 => (rcv (nwO 1 [.int 0, .null, .null, .int 0] S) (some S.2) 1).bind fun b4 => (f_S_init b4 v1 v3 (nwO 1 [.int 0, .null, .null, .int 0] S)).bind fun S5 => (rdR S5 (some b0) 1 1).bind fun v6 => (rdR S5 (some S.2) 1 1).bind fun v7 => (rdI S5 (some b0) 1 3).bind fun v8 => (cpI S5 v6 0 v7 0 v8 0).bind fun S9 => (rdR S9 (some b0) 1 2).bind fun v10 => (rdR S9 (some S.2) 1 2).bind fun v11 => (rdI S9 (some b0) 1 3).bind fun v12 => (cpL S9 v10 0 v11 0 v12 1).bind fun S13 => (rdI S13 (some b0) 1 3).bind fun v14 => (wrV S13 (some S.2) 1 3 (.int v14)).bind fun S15 => some ((some S.2), S15)
def f_K_own (b0 : Nat) (a1 : Int32) (a2 : Int32) (S : mc_S) : Option (Option Nat × mc_S) := (rdR S (some b0) 0 0).bind fun v1 => (rcv S v1 2).bind fun b2 => (f_T_find b2 a1 a2 S).bind fun o3 => if o3.1 = none then (some (o3.1, o3.2)) else ((rcv o3.2 (some b0) 0).bind fun b4 => (f_K_kept b4 o3.2).bind fun o5 => (rdR o5.2 o5.1 2 0).bind fun v6 => (ldR o5.2 v6 3 a1).bind fun v7 => if o3.1 = v7 then ((rcv o5.2 o3.1 1).bind fun b8 => (f_S_twin b8 o5.2).bind fun o9 => (rdR o9.2 (some b0) 0 0).bind fun v10 => (rdR o9.2 v10 2 0).bind fun v11 => (stR o9.2 v11 3 1 a1 o9.1).bind fun S12 => some (o9.1, S12)) else (some (o3.1, o5.2)))
def q_S_placeOf_0 (b0 : Nat) (self : Int32 → Int32 → mc_S → Option (Int32 × mc_S)) (x1 : Int32) (x2 : Int32) (S : mc_S) : Option (Int32 × mc_S) := (rdI S (some b0) 1 3).bind fun v1 => if v1 ≤ x2 then (some (x2, S)) else ((rdR S (some b0) 1 1).bind fun v2 => (ldI S v2 0 x2).bind fun v3 => if v3 = x1 then (some (x2, S)) else (self x1 (x2 + 1) S))
def g_S_placeOf (b0 : Nat) : Nat → Int32 → Int32 → mc_S → Option (Int32 × mc_S)
  | 0 => fun _ _ _ => none
  | n + 1 => fun x1 x2 S => q_S_placeOf_0 b0 (g_S_placeOf b0 n) x1 x2 S
def f_S_placeOf (b0 : Nat) (a1 : Int32) (S : mc_S) : Option (Int32 × mc_S) := g_S_placeOf b0 5000 a1 0 S
def f_S_holds (b0 : Nat) (a1 : Int32) (S : mc_S) : Option (Int32 × mc_S) := if a1 < 0 then (some (0, S)) else ((rdI S (some b0) 1 3).bind fun v1 => if v1 ≤ a1 then (some (0, S)) else (some (1, S)))
def q_S_removeAt_0 (b0 : Nat) (self : Int32 → Int32 → mc_S → Option mc_S) (x1 : Int32) (x2 : Int32) (S : mc_S) : Option mc_S := (rdI S (some b0) 1 3).bind fun v1 => if v1 ≤ x2 then (some S) else ((rdR S (some b0) 1 1).bind fun v2 => (rdR S (some b0) 1 1).bind fun v3 => (ldI S v3 0 (x2 + 1)).bind fun v4 => (stI S v2 0 x2 v4).bind fun S5 => (rdR S5 (some b0) 1 2).bind fun v6 => (rdR S5 (some b0) 1 2).bind fun v7 => (ldL S5 v7 1 (x2 + 1)).bind fun v8 => (stL S5 v6 1 x2 v8).bind fun S9 => self x1 (x2 + 1) S9)
def g_S_removeAt (b0 : Nat) : Nat → Int32 → Int32 → mc_S → Option mc_S
  | 0 => fun _ _ _ => none
  | n + 1 => fun x1 x2 S => q_S_removeAt_0 b0 (g_S_removeAt b0 n) x1 x2 S
def f_S_removeAt (b0 : Nat) (a1 : Int32) (S : mc_S) : Option mc_S := (rcv S (some b0) 1).bind fun b1 => (f_S_holds b1 a1 S).bind fun o2 => if o2.1 = 0 then (some o2.2) else ((rdI o2.2 (some b0) 1 3).bind fun v3 => (wrV o2.2 (some b0) 1 3 (.int (v3 - 1))).bind fun S4 => g_S_removeAt b0 5000 a1 a1 S4)
def f_S_append (b0 : Nat) (a1 : Int32) (a2 : Int64) (S : mc_S) : Option (Int32 × mc_S) := (rdI S (some b0) 1 3).bind fun v1 => (rdR S (some b0) 1 2).bind fun v2 => (alen S v2 1).bind fun v3 => if v1 < v3 then ((rdR S (some b0) 1 1).bind fun v4 => (rdI S (some b0) 1 3).bind fun v5 => (stI S v4 0 v5 a1).bind fun S6 => (rdR S6 (some b0) 1 2).bind fun v7 => (rdI S6 (some b0) 1 3).bind fun v8 => (stL S6 v7 1 v8 a2).bind fun S9 => (rdI S9 (some b0) 1 3).bind fun v10 => (wrV S9 (some b0) 1 3 (.int (v10 + 1))).bind fun S11 => (rdI S11 (some b0) 1 3).bind fun v12 => some (v12, S11)) else (some ((-3), S))
def f_S_assign (b0 : Nat) (a1 : Int32) (a2 : Int64) (S : mc_S) : Option (Int32 × mc_S) := (rcv S (some b0) 1).bind fun b1 => (f_S_placeOf b1 a1 S).bind fun o2 => if (lg_cmp a2 1099511627776) = 0 then ((rcv o2.2 (some b0) 1).bind fun b9 => (f_S_removeAt b9 o2.1 o2.2).bind fun S10 => (rdI S10 (some b0) 1 3).bind fun v11 => some (v11, S10)) else ((rdI o2.2 (some b0) 1 3).bind fun v3 => if o2.1 = v3 then ((rcv o2.2 (some b0) 1).bind fun b7 => (f_S_append b7 a1 a2 o2.2).bind fun o8 => some (o8.1, o8.2)) else ((rdR o2.2 (some b0) 1 2).bind fun v4 => (stL o2.2 v4 1 o2.1 a2).bind fun S5 => (rdI S5 (some b0) 1 3).bind fun v6 => some (v6, S5)))
def f_K_set (b0 : Nat) (a1 : Int32) (a2 : Int32) (a3 : Int32) (a4 : Int32) (S : mc_S) : Option (Int32 × mc_S) := (rcv S (some b0) 0).bind fun b1 => (f_K_valueOf b1 a3 a4 S).bind fun o2 => (rcv o2.2 (some b0) 0).bind fun b3 => (f_K_own b3 a1 1 o2.2).bind fun o4 => if (lg_cmp o2.1 (-1099511627776)) = 0 then (some ((-1), o4.2)) else (if o4.1 = none then (some ((-1), o4.2)) else ((rcv o4.2 o4.1 1).bind fun b5 => (f_S_assign b5 a2 o2.1 o4.2).bind fun o6 => some (o6.1, o6.2)))
def f_M_in (a1 : Int64) (a2 : Int64) (a3 : Int64) (S : mc_S) : Option (Int32 × mc_S) := if (lg_cmp a1 a2) < 0 then (some (0, S)) else (if 0 < (lg_cmp a1 a3) then (some (0, S)) else (some (1, S)))
def f_M_is (b0 : Nat) (a1 : Int32) (a2 : Int32) (S : mc_S) : Option (Int32 × mc_S) := (f_M_in (a1).toInt64 0 99 S).bind fun o1 => if o1.1 = 0 then (some (0, o1.2)) else ((rdR o1.2 (some b0) 4 0).bind fun v2 => (rdR o1.2 v2 5 0).bind fun v3 => (ldI o1.2 v3 0 a1).bind fun v4 => if v4 = a2 then (some (1, o1.2)) else (some (0, o1.2)))
def f_M_isThere (b0 : Nat) (a1 : Int32) (S : mc_S) : Option (Int32 × mc_S) := (f_M_in (a1).toInt64 0 99 S).bind fun o1 => if o1.1 = 0 then (some (0, o1.2)) else ((rdR o1.2 (some b0) 4 0).bind fun v2 => (rdR o1.2 v2 5 0).bind fun v3 => (ldI o1.2 v3 0 a1).bind fun v4 => if v4 = 0 then (some (0, o1.2)) else (some (1, o1.2)))
def f_M_isValue (b0 : Nat) (a1 : Int32) (a2 : Int32) (S : mc_S) : Option (Int32 × mc_S) := if a1 = 0 then (some (1, S)) else (if a1 = 1 then (some (1, S)) else (if a1 = 2 then ((rcv S (some b0) 4).bind fun b1 => (f_M_isThere b1 a2 S).bind fun o2 => if o2.1 = 0 then (some (0, o2.2)) else (some (1, o2.2))) else (some (0, S))))
def q_N_findField_0 (b0 : Nat) (self : Int32 → Int32 → Int32 → mc_S → Option (Int32 × mc_S)) (x1 : Int32) (x2 : Int32) (x3 : Int32) (S : mc_S) : Option (Int32 × mc_S) := (rdR S (some b0) 5 1).bind fun v1 => (ldI S v1 0 x1).bind fun v2 => if v2 ≤ x3 then (some ((-1), S)) else ((rdR S (some b0) 5 2).bind fun v3 => (ldI S v3 0 ((8 * x1) + x3)).bind fun v4 => if v4 = x2 then (some (x3, S)) else (self x1 x2 (x3 + 1) S))
def g_N_findField (b0 : Nat) : Nat → Int32 → Int32 → Int32 → mc_S → Option (Int32 × mc_S)
  | 0 => fun _ _ _ _ => none
  | n + 1 => fun x1 x2 x3 S => q_N_findField_0 b0 (g_N_findField b0 n) x1 x2 x3 S
def f_N_findField (b0 : Nat) (a1 : Int32) (a2 : Int32) (S : mc_S) : Option (Int32 × mc_S) := g_N_findField b0 5000 a1 a2 0 S
def f_M_value (a1 : Int32) (a2 : Int32) (S : mc_S) : Option (Int64 × mc_S) := if a1 = 0 then (some (1099511627776, S)) else (if a1 = 1 then (some ((a2).toInt64, S)) else (some ((1099511627777 + (a2).toInt64), S)))
def q_M_set_0 (b0 : Nat) (self : Int32 → Int32 → Int32 → Int32 → Int32 → Int32 → Int32 → Int32 → mc_S → Option (Int32 × mc_S)) (x1 : Int32) (x2 : Int32) (x3 : Int32) (x4 : Int32) (x5 : Int32) (x6 : Int32) (x7 : Int32) (x8 : Int32) (S : mc_S) : Option (Int32 × mc_S) := (rdR S (some b0) 4 0).bind fun v1 => (rdR S v1 5 1).bind fun v2 => (ldI S v2 0 x1).bind fun v3 => if v3 ≤ x8 then ((rdR S (some b0) 4 0).bind fun v4 => (rdR S v4 5 1).bind fun v5 => (ldI S v5 0 x1).bind fun v6 => some (v6, S)) else ((rdR S (some b0) 4 0).bind fun v7 => (rdR S v7 5 2).bind fun v8 => (rdR S (some b0) 4 0).bind fun v9 => (rdR S v9 5 2).bind fun v10 => (ldI S v10 0 ((x6 + x8) + 1)).bind fun v11 => (stI S v8 0 (x6 + x8) v11).bind fun S12 => (rdR S12 (some b0) 4 0).bind fun v13 => (rdR S12 v13 5 4).bind fun v14 => (rdR S12 (some b0) 4 0).bind fun v15 => (rdR S12 v15 5 4).bind fun v16 => (ldL S12 v16 1 ((x7 + x8) + 1)).bind fun v17 => (stL S12 v14 1 (x7 + x8) v17).bind fun S18 => self x1 x2 x3 x4 x5 x6 x7 (x8 + 1) S18)
def g_M_set (b0 : Nat) : Nat → Int32 → Int32 → Int32 → Int32 → Int32 → Int32 → Int32 → Int32 → mc_S → Option (Int32 × mc_S)
  | 0 => fun _ _ _ _ _ _ _ _ _ => none
  | n + 1 => fun x1 x2 x3 x4 x5 x6 x7 x8 S => q_M_set_0 b0 (g_M_set b0 n) x1 x2 x3 x4 x5 x6 x7 x8 S
def f_M_set (b0 : Nat) (a1 : Int32) (a2 : Int32) (a3 : Int32) (a4 : Int32) (S : mc_S) : Option (Int32 × mc_S) := (rcv S (some b0) 4).bind fun b1 => (f_M_is b1 a1 1 S).bind fun o2 => if o2.1 = 0 then (some ((-1), o2.2)) else ((rcv o2.2 (some b0) 4).bind fun b3 => (f_M_isValue b3 a3 a4 o2.2).bind fun o4 => if o4.1 = 0 then (some ((-1), o4.2)) else ((rdR o4.2 (some b0) 4 0).bind fun v5 => (rcv o4.2 v5 5).bind fun b6 => (f_N_findField b6 a1 a2 o4.2).bind fun o7 => if a3 = 0 then (if 0 ≤ o7.1 then ((rdR o7.2 (some b0) 4 0).bind fun v35 => (rdR o7.2 v35 5 1).bind fun v36 => (ldI o7.2 v36 0 a1).bind fun v37 => (stI o7.2 v36 0 a1 (v37 - 1)).bind fun S38 => g_M_set b0 5000 a1 a2 a3 a4 o7.1 (8 * a1) (20 * a1) o7.1 S38) else ((rdR o7.2 (some b0) 4 0).bind fun v39 => (rdR o7.2 v39 5 1).bind fun v40 => (ldI o7.2 v40 0 a1).bind fun v41 => some (v41, o7.2))) else (if 0 ≤ o7.1 then ((rdR o7.2 (some b0) 4 0).bind fun v8 => (rdR o7.2 v8 5 4).bind fun v9 => (f_M_value a3 a4 o7.2).bind fun o10 => (stL o10.2 v9 1 ((20 * a1) + o7.1) o10.1).bind fun S11 => (rdR S11 (some b0) 4 0).bind fun v12 => (rdR S11 v12 5 1).bind fun v13 => (ldI S11 v13 0 a1).bind fun v14 => some (v14, S11)) else ((rdR o7.2 (some b0) 4 0).bind fun v15 => (rdR o7.2 v15 5 1).bind fun v16 => (ldI o7.2 v16 0 a1).bind fun v17 => if v17 = 8 then (some ((-3), o7.2)) else ((rdR o7.2 (some b0) 4 0).bind fun v18 => (rdR o7.2 v18 5 1).bind fun v19 => (ldI o7.2 v19 0 a1).bind fun v20 => (rdR o7.2 (some b0) 4 0).bind fun v21 => (rdR o7.2 v21 5 1).bind fun v22 => (ldI o7.2 v22 0 a1).bind fun v23 => (stI o7.2 v22 0 a1 (v23 + 1)).bind fun S24 => (rdR S24 (some b0) 4 0).bind fun v25 => (rdR S24 v25 5 2).bind fun v26 => (stI S24 v26 0 ((8 * a1) + v20) a2).bind fun S27 => (rdR S27 (some b0) 4 0).bind fun v28 => (rdR S27 v28 5 4).bind fun v29 => (f_M_value a3 a4 S27).bind fun o30 => (stL o30.2 v29 1 ((20 * a1) + v20) o30.1).bind fun S31 => (rdR S31 (some b0) 4 0).bind fun v32 => (rdR S31 v32 5 1).bind fun v33 => (ldI S31 v33 0 a1).bind fun v34 => some (v34, S31))))))
def f_S_named (b0 : Nat) (a1 : Int32) (S : mc_S) : Option (Int64 × mc_S) := (rcv S (some b0) 1).bind fun b1 => (f_S_placeOf b1 a1 S).bind fun o2 => (rdI o2.2 (some b0) 1 3).bind fun v3 => if v3 ≤ o2.1 then (some (1099511627776, o2.2)) else ((rdR o2.2 (some b0) 1 2).bind fun v4 => (ldL o2.2 v4 1 o2.1).bind fun v5 => some (v5, o2.2))
def f_K_get (b0 : Nat) (a1 : Int32) (a2 : Int32) (S : mc_S) : Option (Int64 × mc_S) := (rdR S (some b0) 0 0).bind fun v1 => (rcv S v1 2).bind fun b2 => (f_T_find b2 a1 1 S).bind fun o3 => if o3.1 = none then (some ((-1099511627776), o3.2)) else ((rcv o3.2 o3.1 1).bind fun b4 => (f_S_named b4 a2 o3.2).bind fun o5 => some (o5.1, o5.2))
def f_M_get (b0 : Nat) (a1 : Int32) (a2 : Int32) (S : mc_S) : Option (Int64 × mc_S) := (rcv S (some b0) 4).bind fun b1 => (f_M_is b1 a1 1 S).bind fun o2 => if o2.1 = 0 then (some ((-1099511627776), o2.2)) else ((rdR o2.2 (some b0) 4 0).bind fun v3 => (rcv o2.2 v3 5).bind fun b4 => (f_N_findField b4 a1 a2 o2.2).bind fun o5 => if 0 ≤ o5.1 then ((rdR o5.2 (some b0) 4 0).bind fun v6 => (rdR o5.2 v6 5 4).bind fun v7 => (ldL o5.2 v7 1 ((20 * a1) + o5.1)).bind fun v8 => some (v8, o5.2)) else (some (1099511627776, o5.2)))
def f_K_push (b0 : Nat) (a1 : Int32) (a2 : Int32) (a3 : Int32) (S : mc_S) : Option (Int32 × mc_S) := (rcv S (some b0) 0).bind fun b1 => (f_K_valueOf b1 a2 a3 S).bind fun o2 => (rcv o2.2 (some b0) 0).bind fun b3 => (f_K_own b3 a1 2 o2.2).bind fun o4 => if (lg_cmp o2.1 (-1099511627776)) = 0 then (some ((-1), o4.2)) else (if o4.1 = none then (some ((-1), o4.2)) else ((rcv o4.2 o4.1 1).bind fun b5 => (f_S_append b5 0 o2.1 o4.2).bind fun o6 => some (o6.1, o6.2)))
def f_M_push (b0 : Nat) (a1 : Int32) (a2 : Int32) (a3 : Int32) (S : mc_S) : Option (Int32 × mc_S) := (rcv S (some b0) 4).bind fun b1 => (f_M_is b1 a1 2 S).bind fun o2 => if o2.1 = 0 then (some ((-1), o2.2)) else ((rcv o2.2 (some b0) 4).bind fun b3 => (f_M_isValue b3 a2 a3 o2.2).bind fun o4 => if o4.1 = 0 then (some ((-1), o4.2)) else ((rdR o4.2 (some b0) 4 0).bind fun v5 => (rdR o4.2 v5 5 1).bind fun v6 => (ldI o4.2 v6 0 a1).bind fun v7 => if v7 = 20 then (some ((-3), o4.2)) else ((rdR o4.2 (some b0) 4 0).bind fun v8 => (rdR o4.2 v8 5 4).bind fun v9 => (rdR o4.2 (some b0) 4 0).bind fun v10 => (rdR o4.2 v10 5 1).bind fun v11 => (ldI o4.2 v11 0 a1).bind fun v12 => (f_M_value a2 a3 o4.2).bind fun o13 => (stL o13.2 v9 1 ((20 * a1) + v12) o13.1).bind fun S14 => (rdR S14 (some b0) 4 0).bind fun v15 => (rdR S14 v15 5 1).bind fun v16 => (ldI S14 v16 0 a1).bind fun v17 => (stI S14 v16 0 a1 (v17 + 1)).bind fun S18 => (rdR S18 (some b0) 4 0).bind fun v19 => (rdR S18 v19 5 1).bind fun v20 => (ldI S18 v20 0 a1).bind fun v21 => some (v21, S18))))
def f_S_takeLast (b0 : Nat) (S : mc_S) : Option (Int64 × mc_S) := (rdI S (some b0) 1 3).bind fun v1 => if v1 = 0 then (some ((-1099511627776), S)) else ((rdI S (some b0) 1 3).bind fun v2 => (wrV S (some b0) 1 3 (.int (v2 - 1))).bind fun S3 => (rdR S3 (some b0) 1 2).bind fun v4 => (rdI S3 (some b0) 1 3).bind fun v5 => (ldL S3 v4 1 v5).bind fun v6 => some (v6, S3))
def f_K_pop (b0 : Nat) (a1 : Int32) (S : mc_S) : Option (Int64 × mc_S) := (rcv S (some b0) 0).bind fun b1 => (f_K_own b1 a1 2 S).bind fun o2 => if o2.1 = none then (some ((-1099511627776), o2.2)) else ((rcv o2.2 o2.1 1).bind fun b3 => (f_S_takeLast b3 o2.2).bind fun o4 => some (o4.1, o4.2))
def f_M_pop (b0 : Nat) (a1 : Int32) (S : mc_S) : Option (Int64 × mc_S) := (rcv S (some b0) 4).bind fun b1 => (f_M_is b1 a1 2 S).bind fun o2 => if o2.1 = 0 then (some ((-1099511627776), o2.2)) else ((rdR o2.2 (some b0) 4 0).bind fun v3 => (rdR o2.2 v3 5 1).bind fun v4 => (ldI o2.2 v4 0 a1).bind fun v5 => if v5 = 0 then (some ((-1099511627776), o2.2)) else ((rdR o2.2 (some b0) 4 0).bind fun v6 => (rdR o2.2 v6 5 1).bind fun v7 => (ldI o2.2 v7 0 a1).bind fun v8 => (stI o2.2 v7 0 a1 (v8 - 1)).bind fun S9 => (rdR S9 (some b0) 4 0).bind fun v10 => (rdR S9 v10 5 4).bind fun v11 => (rdR S9 (some b0) 4 0).bind fun v12 => (rdR S9 v12 5 1).bind fun v13 => (ldI S9 v13 0 a1).bind fun v14 => (ldL S9 v11 1 ((20 * a1) + v14)).bind fun v15 => some (v15, S9)))
def f_K_put (b0 : Nat) (a1 : Int32) (a2 : Int32) (a3 : Int32) (a4 : Int32) (S : mc_S) : Option (Int32 × mc_S) := (rcv S (some b0) 0).bind fun b1 => (f_K_valueOf b1 a3 a4 S).bind fun o2 => (rcv o2.2 (some b0) 0).bind fun b3 => (f_K_own b3 a1 2 o2.2).bind fun o4 => if (lg_cmp o2.1 (-1099511627776)) = 0 then (some ((-1), o4.2)) else (if o4.1 = none then (some ((-1), o4.2)) else ((rcv o4.2 o4.1 1).bind fun b5 => (f_S_holds b5 a2 o4.2).bind fun o6 => if o6.1 = 0 then (some ((-1), o6.2)) else ((rdR o6.2 o4.1 1 2).bind fun v7 => (stL o6.2 v7 1 a2 o2.1).bind fun S8 => some (0, S8))))
def f_M_put (b0 : Nat) (a1 : Int32) (a2 : Int32) (a3 : Int32) (a4 : Int32) (S : mc_S) : Option (Int32 × mc_S) := (rcv S (some b0) 4).bind fun b1 => (f_M_is b1 a1 2 S).bind fun o2 => if o2.1 = 0 then (some ((-1), o2.2)) else ((rdR o2.2 (some b0) 4 0).bind fun v3 => (rdR o2.2 v3 5 1).bind fun v4 => (ldI o2.2 v4 0 a1).bind fun v5 => (f_M_in (a2).toInt64 0 ((v5 - 1)).toInt64 o2.2).bind fun o6 => if o6.1 = 0 then (some ((-1), o6.2)) else ((rcv o6.2 (some b0) 4).bind fun b7 => (f_M_isValue b7 a3 a4 o6.2).bind fun o8 => if o8.1 = 0 then (some ((-1), o8.2)) else ((rdR o8.2 (some b0) 4 0).bind fun v9 => (rdR o8.2 v9 5 4).bind fun v10 => (f_M_value a3 a4 o8.2).bind fun o11 => (stL o11.2 v10 1 ((20 * a1) + a2) o11.1).bind fun S12 => some (0, S12))))
def f_K_item (b0 : Nat) (a1 : Int32) (a2 : Int32) (S : mc_S) : Option (Int64 × mc_S) := (rdR S (some b0) 0 0).bind fun v1 => (rcv S v1 2).bind fun b2 => (f_T_find b2 a1 2 S).bind fun o3 => if o3.1 = none then (some ((-1099511627776), o3.2)) else ((rcv o3.2 o3.1 1).bind fun b4 => (f_S_holds b4 a2 o3.2).bind fun o5 => if o5.1 = 0 then (some ((-1099511627776), o5.2)) else ((rdR o5.2 o3.1 1 2).bind fun v6 => (ldL o5.2 v6 1 a2).bind fun v7 => some (v7, o5.2)))
def f_M_item (b0 : Nat) (a1 : Int32) (a2 : Int32) (S : mc_S) : Option (Int64 × mc_S) := (rcv S (some b0) 4).bind fun b1 => (f_M_is b1 a1 2 S).bind fun o2 => if o2.1 = 0 then (some ((-1099511627776), o2.2)) else ((rdR o2.2 (some b0) 4 0).bind fun v3 => (rdR o2.2 v3 5 1).bind fun v4 => (ldI o2.2 v4 0 a1).bind fun v5 => (f_M_in (a2).toInt64 0 ((v5 - 1)).toInt64 o2.2).bind fun o6 => if o6.1 = 0 then (some ((-1099511627776), o6.2)) else ((rdR o6.2 (some b0) 4 0).bind fun v7 => (rdR o6.2 v7 5 4).bind fun v8 => (ldL o6.2 v8 1 ((20 * a1) + a2)).bind fun v9 => some (v9, o6.2)))
def f_K_ownRoots (b0 : Nat) (S : mc_S) : Option (Option Nat × mc_S) := (rdR S (some b0) 0 0).bind fun v1 => (rdR S v1 2 1).bind fun v2 => (rcv S (some b0) 0).bind fun b3 => (f_K_kept b3 S).bind fun o4 => (rdR o4.2 o4.1 2 1).bind fun v5 => if v2 = v5 then ((rdR o4.2 (some b0) 0 0).bind fun v8 => (rdR o4.2 (some b0) 0 0).bind fun v9 => (rdR o4.2 v9 2 1).bind fun v10 => (rcv o4.2 v10 1).bind fun b11 => (f_S_twin b11 o4.2).bind fun o12 => (wrV o12.2 v8 2 1 (va_rf o12.1)).bind fun S13 => (rdR S13 (some b0) 0 0).bind fun v14 => (rdR S13 v14 2 1).bind fun v15 => some (v15, S13)) else ((rdR o4.2 (some b0) 0 0).bind fun v6 => (rdR o4.2 v6 2 1).bind fun v7 => some (v7, o4.2))
def f_K_root (b0 : Nat) (a1 : Int32) (a2 : Int32) (a3 : Int32) (S : mc_S) : Option (Int32 × mc_S) := (rcv S (some b0) 0).bind fun b1 => (f_K_valueOf b1 a2 a3 S).bind fun o2 => if (lg_cmp o2.1 (-1099511627776)) = 0 then (some ((-1), o2.2)) else ((rcv o2.2 (some b0) 0).bind fun b3 => (f_K_ownRoots b3 o2.2).bind fun o4 => (rcv o4.2 o4.1 1).bind fun b5 => (f_S_assign b5 a1 o2.1 o4.2).bind fun o6 => some (o6.1, o6.2))
def q_N_findRoot_0 (b0 : Nat) (self : Int32 → Int32 → mc_S → Option (Int32 × mc_S)) (x1 : Int32) (x2 : Int32) (S : mc_S) : Option (Int32 × mc_S) := (rdI S (some b0) 5 6).bind fun v1 => if v1 ≤ x2 then (some ((-1), S)) else ((rdR S (some b0) 5 3).bind fun v2 => (ldI S v2 0 x2).bind fun v3 => if v3 = x1 then (some (x2, S)) else (self x1 (x2 + 1) S))
def g_N_findRoot (b0 : Nat) : Nat → Int32 → Int32 → mc_S → Option (Int32 × mc_S)
  | 0 => fun _ _ _ => none
  | n + 1 => fun x1 x2 S => q_N_findRoot_0 b0 (g_N_findRoot b0 n) x1 x2 S
def f_N_findRoot (b0 : Nat) (a1 : Int32) (S : mc_S) : Option (Int32 × mc_S) := g_N_findRoot b0 5000 a1 0 S
def f_M_root (b0 : Nat) (a1 : Int32) (a2 : Int32) (a3 : Int32) (S : mc_S) : Option (Int32 × mc_S) := (rcv S (some b0) 4).bind fun b1 => (f_M_isValue b1 a2 a3 S).bind fun o2 => if o2.1 = 0 then (some ((-1), o2.2)) else ((rdR o2.2 (some b0) 4 0).bind fun v3 => (rcv o2.2 v3 5).bind fun b4 => (f_N_findRoot b4 a1 o2.2).bind fun o5 => if a2 = 0 then (if 0 ≤ o5.1 then ((rdR o5.2 (some b0) 4 0).bind fun v28 => (rdI o5.2 v28 5 6).bind fun v29 => (wrV o5.2 v28 5 6 (.int (v29 - 1))).bind fun S30 => (rdR S30 (some b0) 4 0).bind fun v31 => (rdR S30 v31 5 3).bind fun v32 => (rdR S30 (some b0) 4 0).bind fun v33 => (rdR S30 v33 5 3).bind fun v34 => (rdR S30 (some b0) 4 0).bind fun v35 => (rdI S30 v35 5 6).bind fun v36 => (ldI S30 v34 0 v36).bind fun v37 => (stI S30 v32 0 o5.1 v37).bind fun S38 => (rdR S38 (some b0) 4 0).bind fun v39 => (rdR S38 v39 5 5).bind fun v40 => (rdR S38 (some b0) 4 0).bind fun v41 => (rdR S38 v41 5 5).bind fun v42 => (rdR S38 (some b0) 4 0).bind fun v43 => (rdI S38 v43 5 6).bind fun v44 => (ldL S38 v42 1 v44).bind fun v45 => (stL S38 v40 1 o5.1 v45).bind fun S46 => (rdR S46 (some b0) 4 0).bind fun v47 => (rdI S46 v47 5 6).bind fun v48 => some (v48, S46)) else ((rdR o5.2 (some b0) 4 0).bind fun v49 => (rdI o5.2 v49 5 6).bind fun v50 => some (v50, o5.2))) else (if 0 ≤ o5.1 then ((rdR o5.2 (some b0) 4 0).bind fun v6 => (rdR o5.2 v6 5 5).bind fun v7 => (f_M_value a2 a3 o5.2).bind fun o8 => (stL o8.2 v7 1 o5.1 o8.1).bind fun S9 => (rdR S9 (some b0) 4 0).bind fun v10 => (rdI S9 v10 5 6).bind fun v11 => some (v11, S9)) else ((rdR o5.2 (some b0) 4 0).bind fun v12 => (rdI o5.2 v12 5 6).bind fun v13 => if v13 = 12 then (some ((-3), o5.2)) else ((rdR o5.2 (some b0) 4 0).bind fun v14 => (rdI o5.2 v14 5 6).bind fun v15 => (rdR o5.2 (some b0) 4 0).bind fun v16 => (rdI o5.2 v16 5 6).bind fun v17 => (wrV o5.2 v16 5 6 (.int (v17 + 1))).bind fun S18 => (rdR S18 (some b0) 4 0).bind fun v19 => (rdR S18 v19 5 3).bind fun v20 => (stI S18 v20 0 v15 a1).bind fun S21 => (rdR S21 (some b0) 4 0).bind fun v22 => (rdR S21 v22 5 5).bind fun v23 => (f_M_value a2 a3 S21).bind fun o24 => (stL o24.2 v23 1 v15 o24.1).bind fun S25 => (rdR S25 (some b0) 4 0).bind fun v26 => (rdI S25 v26 5 6).bind fun v27 => some (v27, S25)))))
def f_K_rooted (b0 : Nat) (a1 : Int32) (S : mc_S) : Option (Int64 × mc_S) := (rdR S (some b0) 0 0).bind fun v1 => (rdR S v1 2 1).bind fun v2 => (rcv S v2 1).bind fun b3 => (f_S_named b3 a1 S).bind fun o4 => some (o4.1, o4.2)
def f_M_rooted (b0 : Nat) (a1 : Int32) (S : mc_S) : Option (Int64 × mc_S) := (rdR S (some b0) 4 0).bind fun v1 => (rcv S v1 5).bind fun b2 => (f_N_findRoot b2 a1 S).bind fun o3 => if 0 ≤ o3.1 then ((rdR o3.2 (some b0) 4 0).bind fun v4 => (rdR o3.2 v4 5 5).bind fun v5 => (ldL o3.2 v5 1 o3.1).bind fun v6 => some (v6, o3.2)) else (some (1099511627776, o3.2))
def q_S_sameAs_0 (b0 : Nat) (self : Option Nat → Int32 → mc_S → Option (Int32 × mc_S)) (r1 : Option Nat) (x2 : Int32) (S : mc_S) : Option (Int32 × mc_S) := (rdI S (some b0) 1 3).bind fun v1 => if v1 ≤ x2 then (some (1, S)) else ((rdR S r1 1 1).bind fun v2 => (ldI S v2 0 x2).bind fun v3 => (rdR S (some b0) 1 1).bind fun v4 => (ldI S v4 0 x2).bind fun v5 => if v3 = v5 then ((rdR S r1 1 2).bind fun v6 => (ldL S v6 1 x2).bind fun v7 => (rdR S (some b0) 1 2).bind fun v8 => (ldL S v8 1 x2).bind fun v9 => if (lg_cmp v7 v9) = 0 then (self r1 (x2 + 1) S) else (some (0, S))) else (some (0, S)))
def g_S_sameAs (b0 : Nat) : Nat → Option Nat → Int32 → mc_S → Option (Int32 × mc_S)
  | 0 => fun _ _ _ => none
  | n + 1 => fun r1 x2 S => q_S_sameAs_0 b0 (g_S_sameAs b0 n) r1 x2 S
def f_S_sameAs (b0 : Nat) (a1 : Option Nat) (S : mc_S) : Option (Int32 × mc_S) := if a1 = none then (some (0, S)) else ((rdI S a1 1 0).bind fun v1 => (rdI S (some b0) 1 0).bind fun v2 => if v1 = v2 then ((rdI S a1 1 3).bind fun v3 => (rdI S (some b0) 1 3).bind fun v4 => if v3 = v4 then (g_S_sameAs b0 5000 a1 0 S) else (some (0, S))) else (some (0, S)))
def q_S_namesChangedFrom_0 (b0 : Nat) (self : Nat → Option Nat → Int32 → Int32 → mc_S → Option (Int32 × mc_S)) (r1 : Option Nat) (x2 : Int32) (x3 : Int32) (S : mc_S) : Option (Int32 × mc_S) := (rdI S (some b0) 1 3).bind fun v1 => if v1 ≤ x3 then (self 1 r1 x2 0 S) else ((rdR S (some b0) 1 1).bind fun v2 => (ldI S v2 0 x3).bind fun v3 => (rcv S r1 1).bind fun b4 => (f_S_named b4 v3 S).bind fun o5 => (rdR o5.2 (some b0) 1 2).bind fun v6 => (ldL o5.2 v6 1 x3).bind fun v7 => if (lg_cmp o5.1 v7) = 0 then (self 0 r1 x2 (x3 + 1) o5.2) else (self 0 r1 (x2 + 1) (x3 + 1) o5.2))
def q_S_namesChangedFrom_1 (b0 : Nat) (self : Nat → Option Nat → Int32 → Int32 → mc_S → Option (Int32 × mc_S)) (r1 : Option Nat) (x2 : Int32) (x3 : Int32) (S : mc_S) : Option (Int32 × mc_S) := (rdI S r1 1 3).bind fun v1 => if v1 ≤ x3 then (some (x2, S)) else ((rdR S r1 1 1).bind fun v2 => (ldI S v2 0 x3).bind fun v3 => (rcv S (some b0) 1).bind fun b4 => (f_S_named b4 v3 S).bind fun o5 => if (lg_cmp o5.1 1099511627776) = 0 then (self 1 r1 (x2 + 1) (x3 + 1) o5.2) else (self 1 r1 x2 (x3 + 1) o5.2))
def g_S_namesChangedFrom (b0 : Nat) : Nat → Nat → Option Nat → Int32 → Int32 → mc_S → Option (Int32 × mc_S)
  | 0 => fun _ _ _ _ _ => none
  | n + 1 => fun hd r1 x2 x3 S => match hd with
    | 0 => q_S_namesChangedFrom_0 b0 (g_S_namesChangedFrom b0 n) r1 x2 x3 S
    | _ => q_S_namesChangedFrom_1 b0 (g_S_namesChangedFrom b0 n) r1 x2 x3 S
def f_S_namesChangedFrom (b0 : Nat) (a1 : Option Nat) (S : mc_S) : Option (Int32 × mc_S) := g_S_namesChangedFrom b0 5000 0 a1 0 0 S
def q_K_changedBytes_0 (b0 : Nat) (self : Option Nat → Int32 → Int32 → mc_S → Option (Int32 × mc_S)) (r1 : Option Nat) (x2 : Int32) (x3 : Int32) (S : mc_S) : Option (Int32 × mc_S) := if 100 ≤ x3 then ((rdR S (some b0) 0 0).bind fun v1 => (rdR S v1 2 1).bind fun v2 => (rdR S r1 2 1).bind fun v3 => (rcv S v2 1).bind fun b4 => (f_S_namesChangedFrom b4 v3 S).bind fun o5 => some (((16 * x2) + (6 * o5.1)), o5.2)) else ((rdR S (some b0) 0 0).bind fun v6 => (rdR S v6 2 0).bind fun v7 => (ldR S v7 3 x3).bind fun v8 => if v8 = none then (self r1 x2 (x3 + 1) S) else ((rdR S r1 2 0).bind fun v9 => (ldR S v9 3 x3).bind fun v10 => (rcv S v8 1).bind fun b11 => (f_S_sameAs b11 v10 S).bind fun o12 => if o12.1 = 0 then (self r1 (x2 + 1) (x3 + 1) o12.2) else (self r1 x2 (x3 + 1) o12.2)))
def g_K_changedBytes (b0 : Nat) : Nat → Option Nat → Int32 → Int32 → mc_S → Option (Int32 × mc_S)
  | 0 => fun _ _ _ _ => none
  | n + 1 => fun r1 x2 x3 S => q_K_changedBytes_0 b0 (g_K_changedBytes b0 n) r1 x2 x3 S
def f_K_changedBytes (b0 : Nat) (S : mc_S) : Option (Int32 × mc_S) := (rcv S (some b0) 0).bind fun b1 => (f_K_kept b1 S).bind fun o2 => g_K_changedBytes b0 5000 o2.1 0 0 o2.2
def q_T_become_0 (b0 : Nat) (self : Option Nat → Int32 → mc_S → Option mc_S) (r1 : Option Nat) (x2 : Int32) (S : mc_S) : Option mc_S := if 100 ≤ x2 then ((rdR S r1 2 1).bind fun v1 => (wrV S (some b0) 2 1 (va_rf v1)).bind fun S2 => some S2) else ((rdR S (some b0) 2 0).bind fun v3 => (rdR S r1 2 0).bind fun v4 => (ldR S v4 3 x2).bind fun v5 => (stR S v3 3 1 x2 v5).bind fun S6 => self r1 (x2 + 1) S6)
def g_T_become (b0 : Nat) : Nat → Option Nat → Int32 → mc_S → Option mc_S
  | 0 => fun _ _ _ => none
  | n + 1 => fun r1 x2 S => q_T_become_0 b0 (g_T_become b0 n) r1 x2 S
def f_T_become (b0 : Nat) (a1 : Option Nat) (S : mc_S) : Option mc_S := g_T_become b0 5000 a1 0 S
def f_K_keepNow (b0 : Nat) (a1 : Int32) (S : mc_S) : Option mc_S := (rdI S (some b0) 0 5).bind fun v1 => if v1 = 8 then ((rcv S (some b0) 0).bind fun b16 => (f_K_ringIndex b16 1 S).bind fun o17 => (wrV o17.2 (some b0) 0 4 (.int o17.1)).bind fun S18 => (rdI S18 (some b0) 0 5).bind fun v19 => (rcv S18 (some b0) 0).bind fun b20 => (f_K_ringIndex b20 v19 S18).bind fun o21 => (rdR o21.2 (some b0) 0 1).bind fun v22 => (ldR o21.2 v22 4 o21.1).bind fun v23 => (rdR o21.2 (some b0) 0 0).bind fun v24 => (rcv o21.2 v23 2).bind fun b25 => (f_T_become b25 v24 o21.2).bind fun S26 => (rdR S26 (some b0) 0 2).bind fun v27 => (stI S26 v27 0 o21.1 a1).bind fun S28 => (rdI S28 (some b0) 0 6).bind fun v29 => (wrV S28 (some b0) 0 6 (.int (v29 + a1))).bind fun S30 => some S30) else ((rdI S (some b0) 0 5).bind fun v2 => (wrV S (some b0) 0 5 (.int (v2 + 1))).bind fun S3 => (rdI S3 (some b0) 0 5).bind fun v4 => (rcv S3 (some b0) 0).bind fun b5 => (f_K_ringIndex b5 v4 S3).bind fun o6 => (rdR o6.2 (some b0) 0 1).bind fun v7 => (ldR o6.2 v7 4 o6.1).bind fun v8 => (rdR o6.2 (some b0) 0 0).bind fun v9 => (rcv o6.2 v8 2).bind fun b10 => (f_T_become b10 v9 o6.2).bind fun S11 => (rdR S11 (some b0) 0 2).bind fun v12 => (stI S11 v12 0 o6.1 a1).bind fun S13 => (rdI S13 (some b0) 0 6).bind fun v14 => (wrV S13 (some b0) 0 6 (.int (v14 + a1))).bind fun S15 => some S15)
def f_K_commit (b0 : Nat) (S : mc_S) : Option (Int32 × mc_S) := (rcv S (some b0) 0).bind fun b1 => (f_K_changedBytes b1 S).bind fun o2 => (rcv o2.2 (some b0) 0).bind fun b3 => (f_K_keepNow b3 (8 + o2.1) o2.2).bind fun S4 => some ((8 + o2.1), S4)
def q_N_isSame_0 (b0 : Nat) (self : Int32 → Option Nat → Int32 → mc_S → Option (Int32 × mc_S)) (x1 : Int32) (r2 : Option Nat) (x3 : Int32) (S : mc_S) : Option (Int32 × mc_S) := (rdR S (some b0) 5 1).bind fun v1 => (ldI S v1 0 x1).bind fun v2 => if v2 ≤ x3 then (some (1, S)) else ((rdR S (some b0) 5 4).bind fun v3 => (ldL S v3 1 ((20 * x1) + x3)).bind fun v4 => (rdR S r2 5 4).bind fun v5 => (ldL S v5 1 ((20 * x1) + x3)).bind fun v6 => if (lg_cmp v4 v6) = 0 then ((rdR S (some b0) 5 0).bind fun v7 => (ldI S v7 0 x1).bind fun v8 => if v8 = 1 then ((rdR S (some b0) 5 2).bind fun v9 => (ldI S v9 0 ((8 * x1) + x3)).bind fun v10 => (rdR S r2 5 2).bind fun v11 => (ldI S v11 0 ((8 * x1) + x3)).bind fun v12 => if v10 = v12 then (self x1 r2 (x3 + 1) S) else (some (0, S))) else (self x1 r2 (x3 + 1) S)) else (some (0, S)))
def g_N_isSame (b0 : Nat) : Nat → Int32 → Option Nat → Int32 → mc_S → Option (Int32 × mc_S)
  | 0 => fun _ _ _ _ => none
  | n + 1 => fun x1 r2 x3 S => q_N_isSame_0 b0 (g_N_isSame b0 n) x1 r2 x3 S
def f_N_isSame (b0 : Nat) (a1 : Int32) (a2 : Option Nat) (S : mc_S) : Option (Int32 × mc_S) := (rdR S (some b0) 5 0).bind fun v1 => (ldI S v1 0 a1).bind fun v2 => (rdR S a2 5 0).bind fun v3 => (ldI S v3 0 a1).bind fun v4 => if v2 = v4 then ((rdR S (some b0) 5 1).bind fun v5 => (ldI S v5 0 a1).bind fun v6 => (rdR S a2 5 1).bind fun v7 => (ldI S v7 0 a1).bind fun v8 => if v6 = v8 then (g_N_isSame b0 5000 a1 a2 0 S) else (some (0, S))) else (some (0, S))
def q_N_bytesBehind_0 (b0 : Nat) (self : Nat → Option Nat → Int32 → Int32 → mc_S → Option (Int32 × mc_S)) (r1 : Option Nat) (x2 : Int32) (x3 : Int32) (S : mc_S) : Option (Int32 × mc_S) := if 100 ≤ x3 then (self 1 r1 x2 0 S) else ((rdR S (some b0) 5 0).bind fun v1 => (ldI S v1 0 x3).bind fun v2 => if v2 = 0 then (self 0 r1 x2 (x3 + 1) S) else ((rcv S (some b0) 5).bind fun b3 => (f_N_isSame b3 x3 r1 S).bind fun o4 => if o4.1 = 0 then (self 0 r1 (x2 + 16) (x3 + 1) o4.2) else (self 0 r1 x2 (x3 + 1) o4.2)))
def q_N_bytesBehind_1 (b0 : Nat) (self : Nat → Option Nat → Int32 → Int32 → mc_S → Option (Int32 × mc_S)) (r1 : Option Nat) (x2 : Int32) (x3 : Int32) (S : mc_S) : Option (Int32 × mc_S) := (rdI S (some b0) 5 6).bind fun v1 => if v1 ≤ x3 then (self 2 r1 x2 0 S) else ((rdR S (some b0) 5 3).bind fun v2 => (ldI S v2 0 x3).bind fun v3 => (rcv S r1 5).bind fun b4 => (f_N_findRoot b4 v3 S).bind fun o5 => if o5.1 < 0 then (self 1 r1 (x2 + 6) (x3 + 1) o5.2) else ((rdR o5.2 r1 5 5).bind fun v6 => (ldL o5.2 v6 1 o5.1).bind fun v7 => (rdR o5.2 (some b0) 5 5).bind fun v8 => (ldL o5.2 v8 1 x3).bind fun v9 => if (lg_cmp v7 v9) = 0 then (self 1 r1 x2 (x3 + 1) o5.2) else (self 1 r1 (x2 + 6) (x3 + 1) o5.2)))
def q_N_bytesBehind_2 (b0 : Nat) (self : Nat → Option Nat → Int32 → Int32 → mc_S → Option (Int32 × mc_S)) (r1 : Option Nat) (x2 : Int32) (x3 : Int32) (S : mc_S) : Option (Int32 × mc_S) := (rdI S r1 5 6).bind fun v1 => if v1 ≤ x3 then (some (x2, S)) else ((rdR S r1 5 3).bind fun v2 => (ldI S v2 0 x3).bind fun v3 => (rcv S (some b0) 5).bind fun b4 => (f_N_findRoot b4 v3 S).bind fun o5 => if 0 ≤ o5.1 then (self 2 r1 x2 (x3 + 1) o5.2) else (self 2 r1 (x2 + 6) (x3 + 1) o5.2))
def g_N_bytesBehind (b0 : Nat) : Nat → Nat → Option Nat → Int32 → Int32 → mc_S → Option (Int32 × mc_S)
  | 0 => fun _ _ _ _ _ => none
  | n + 1 => fun hd r1 x2 x3 S => match hd with
    | 0 => q_N_bytesBehind_0 b0 (g_N_bytesBehind b0 n) r1 x2 x3 S
    | 1 => q_N_bytesBehind_1 b0 (g_N_bytesBehind b0 n) r1 x2 x3 S
    | _ => q_N_bytesBehind_2 b0 (g_N_bytesBehind b0 n) r1 x2 x3 S
def f_N_bytesBehind (b0 : Nat) (a1 : Option Nat) (S : mc_S) : Option (Int32 × mc_S) := g_N_bytesBehind b0 5000 0 a1 0 0 S
def f_N_copy (b0 : Nat) (a1 : Option Nat) (S : mc_S) : Option mc_S := (rdR S a1 5 0).bind fun v1 => (rdR S (some b0) 5 0).bind fun v2 => (cpI S v1 0 v2 0 100 0).bind fun S3 => (rdR S3 a1 5 1).bind fun v4 => (rdR S3 (some b0) 5 1).bind fun v5 => (cpI S3 v4 0 v5 0 100 0).bind fun S6 => (rdR S6 a1 5 2).bind fun v7 => (rdR S6 (some b0) 5 2).bind fun v8 => (cpI S6 v7 0 v8 0 800 0).bind fun S9 => (rdR S9 a1 5 4).bind fun v10 => (rdR S9 (some b0) 5 4).bind fun v11 => (cpL S9 v10 0 v11 0 2000 1).bind fun S12 => (rdR S12 a1 5 3).bind fun v13 => (rdR S12 (some b0) 5 3).bind fun v14 => (cpI S12 v13 0 v14 0 12 0).bind fun S15 => (rdR S15 a1 5 5).bind fun v16 => (rdR S15 (some b0) 5 5).bind fun v17 => (cpL S15 v16 0 v17 0 12 1).bind fun S18 => (rdI S18 a1 5 6).bind fun v19 => (wrV S18 (some b0) 5 6 (.int v19)).bind fun S20 => some S20
def q_M_keep_0 (b0 : Nat) (self : Int32 → Option Nat → Int32 → mc_S → Option mc_S) (x1 : Int32) (r2 : Option Nat) (x3 : Int32) (S : mc_S) : Option mc_S := if 8 ≤ x3 then ((rdR S (some b0) 4 3).bind fun v1 => (stR S v1 5 5 7 r2).bind fun S2 => (rdI S2 (some b0) 4 4).bind fun v3 => (wrV S2 (some b0) 4 4 (.int (v3 - 1))).bind fun S4 => (rdR S4 (some b0) 4 3).bind fun v5 => (rdI S4 (some b0) 4 4).bind fun v6 => (ldR S4 v5 5 v6).bind fun v7 => (rdR S4 (some b0) 4 0).bind fun v8 => (rcv S4 v7 5).bind fun b9 => (f_N_copy b9 v8 S4).bind fun S10 => (rdR S10 (some b0) 4 3).bind fun v11 => (rdI S10 (some b0) 4 4).bind fun v12 => (ldR S10 v11 5 v12).bind fun v13 => (wrV S10 v13 5 7 (.int x1)).bind fun S14 => (rdI S14 (some b0) 4 4).bind fun v15 => (wrV S14 (some b0) 4 4 (.int (v15 + 1))).bind fun S16 => some S16) else ((rdR S (some b0) 4 3).bind fun v17 => (rdR S (some b0) 4 3).bind fun v18 => (ldR S v18 5 x3).bind fun v19 => (stR S v17 5 5 (x3 - 1) v19).bind fun S20 => self x1 r2 (x3 + 1) S20)
def g_M_keep (b0 : Nat) : Nat → Int32 → Option Nat → Int32 → mc_S → Option mc_S
  | 0 => fun _ _ _ _ => none
  | n + 1 => fun x1 r2 x3 S => q_M_keep_0 b0 (g_M_keep b0 n) x1 r2 x3 S
def f_M_keep (b0 : Nat) (a1 : Int32) (S : mc_S) : Option mc_S := (rdR S (some b0) 4 1).bind fun v1 => (rdR S (some b0) 4 0).bind fun v2 => (rcv S v1 5).bind fun b3 => (f_N_copy b3 v2 S).bind fun S4 => (rdI S4 (some b0) 4 5).bind fun v5 => (wrV S4 (some b0) 4 5 (.int (v5 + a1))).bind fun S6 => (rdI S6 (some b0) 4 4).bind fun v7 => if v7 = 8 then ((rdR S6 (some b0) 4 3).bind fun v20 => (ldR S6 v20 5 0).bind fun v21 => (rdR S6 (some b0) 4 2).bind fun v22 => (rcv S6 v22 5).bind fun b23 => (f_N_copy b23 v21 S6).bind fun S24 => g_M_keep b0 5000 a1 v21 1 S24) else ((rdR S6 (some b0) 4 3).bind fun v8 => (rdI S6 (some b0) 4 4).bind fun v9 => (ldR S6 v8 5 v9).bind fun v10 => (rdR S6 (some b0) 4 0).bind fun v11 => (rcv S6 v10 5).bind fun b12 => (f_N_copy b12 v11 S6).bind fun S13 => (rdR S13 (some b0) 4 3).bind fun v14 => (rdI S13 (some b0) 4 4).bind fun v15 => (ldR S13 v14 5 v15).bind fun v16 => (wrV S13 v16 5 7 (.int a1)).bind fun S17 => (rdI S17 (some b0) 4 4).bind fun v18 => (wrV S17 (some b0) 4 4 (.int (v18 + 1))).bind fun S19 => some S19)
def f_M_commit (b0 : Nat) (S : mc_S) : Option (Int32 × mc_S) := (rdR S (some b0) 4 0).bind fun v1 => (rdR S (some b0) 4 1).bind fun v2 => (rcv S v1 5).bind fun b3 => (f_N_bytesBehind b3 v2 S).bind fun o4 => (rcv o4.2 (some b0) 4).bind fun b5 => (f_M_keep b5 (8 + o4.1) o4.2).bind fun S6 => some ((8 + o4.1), S6)
def f_K_undo (b0 : Nat) (S : mc_S) : Option (Int32 × mc_S) := (rcv S (some b0) 0).bind fun b1 => (f_K_changedBytes b1 S).bind fun o2 => (rdR o2.2 (some b0) 0 0).bind fun v3 => (rcv o2.2 (some b0) 0).bind fun b4 => (f_K_kept b4 o2.2).bind fun o5 => (rcv o5.2 v3 2).bind fun b6 => (f_T_become b6 o5.1 o5.2).bind fun S7 => some (o2.1, S7)
def f_M_undo (b0 : Nat) (S : mc_S) : Option (Int32 × mc_S) := (rdR S (some b0) 4 0).bind fun v1 => (rdR S (some b0) 4 1).bind fun v2 => (rcv S v1 5).bind fun b3 => (f_N_bytesBehind b3 v2 S).bind fun o4 => (rdR o4.2 (some b0) 4 0).bind fun v5 => (rdR o4.2 (some b0) 4 1).bind fun v6 => (rcv o4.2 v5 5).bind fun b7 => (f_N_copy b7 v6 o4.2).bind fun S8 => some (o4.1, S8)
def f_R_enqueue (b0 : Nat) (a1 : Int32) (S : mc_S) : Option mc_S := (rdR S (some b0) 3 0).bind fun v1 => (ldI S v1 2 a1).bind fun v2 => if v2 = 0 then ((rdR S (some b0) 3 0).bind fun v3 => (stI S v3 2 a1 1).bind fun S4 => (rdR S4 (some b0) 3 1).bind fun v5 => (rdI S4 (some b0) 3 2).bind fun v6 => (stI S4 v5 0 v6 a1).bind fun S7 => (rdI S7 (some b0) 3 2).bind fun v8 => (wrV S7 (some b0) 3 2 (.int (v8 + 1))).bind fun S9 => some S9) else (some S)
def q_R_enqueueAll_0 (b0 : Nat) (self : Option Nat → Int32 → mc_S → Option mc_S) (r1 : Option Nat) (x2 : Int32) (S : mc_S) : Option mc_S := (rdI S r1 1 3).bind fun v1 => if v1 ≤ x2 then (some S) else ((rdR S r1 1 2).bind fun v2 => (ldL S v2 1 x2).bind fun v3 => if (lg_cmp (v3 - 1099511627777) 0) < 0 then (self r1 (x2 + 1) S) else (if 0 ≤ (lg_cmp (v3 - 1099511627777) 100) then (self r1 (x2 + 1) S) else ((rcv S (some b0) 3).bind fun b4 => (f_R_enqueue b4 ((v3 - 1099511627777)).toInt32 S).bind fun S5 => self r1 (x2 + 1) S5)))
def g_R_enqueueAll (b0 : Nat) : Nat → Option Nat → Int32 → mc_S → Option mc_S
  | 0 => fun _ _ _ => none
  | n + 1 => fun r1 x2 S => q_R_enqueueAll_0 b0 (g_R_enqueueAll b0 n) r1 x2 S
def f_R_enqueueAll (b0 : Nat) (a1 : Option Nat) (S : mc_S) : Option mc_S := if a1 = none then (some S) else (g_R_enqueueAll b0 5000 a1 0 S)
def q_R_walk_0 (b0 : Nat) (self : Nat → Option Nat → Int32 → mc_S → Option mc_S) (r1 : Option Nat) (x2 : Int32) (S : mc_S) : Option mc_S := if 100 ≤ x2 then ((rdR S r1 2 1).bind fun v1 => (rcv S (some b0) 3).bind fun b2 => (f_R_enqueueAll b2 v1 S).bind fun S3 => self 1 r1 0 S3) else ((rdR S (some b0) 3 0).bind fun v4 => (stI S v4 2 x2 0).bind fun S5 => self 0 r1 (x2 + 1) S5)
def q_R_walk_1 (b0 : Nat) (self : Nat → Option Nat → Int32 → mc_S → Option mc_S) (r1 : Option Nat) (x2 : Int32) (S : mc_S) : Option mc_S := (rdI S (some b0) 3 2).bind fun v1 => if v1 ≤ x2 then (some S) else (if 100 ≤ x2 then (some S) else ((rdR S r1 2 0).bind fun v2 => (rdR S (some b0) 3 1).bind fun v3 => (ldI S v3 0 x2).bind fun v4 => (ldR S v2 3 v4).bind fun v5 => (rcv S (some b0) 3).bind fun b6 => (f_R_enqueueAll b6 v5 S).bind fun S7 => self 1 r1 (x2 + 1) S7))
def g_R_walk (b0 : Nat) : Nat → Nat → Option Nat → Int32 → mc_S → Option mc_S
  | 0 => fun _ _ _ _ => none
  | n + 1 => fun hd r1 x2 S => match hd with
    | 0 => q_R_walk_0 b0 (g_R_walk b0 n) r1 x2 S
    | _ => q_R_walk_1 b0 (g_R_walk b0 n) r1 x2 S
def f_R_walk (b0 : Nat) (a1 : Option Nat) (S : mc_S) : Option mc_S := (wrV S (some b0) 3 2 (.int 0)).bind fun S1 => g_R_walk b0 5000 0 a1 0 S1
def q_R_dropUnreached_0 (b0 : Nat) (self : Option Nat → Int32 → Int32 → mc_S → Option (Int32 × mc_S)) (r1 : Option Nat) (x2 : Int32) (x3 : Int32) (S : mc_S) : Option (Int32 × mc_S) := if 100 ≤ x3 then (some (x2, S)) else ((rdR S r1 2 0).bind fun v1 => (ldR S v1 3 x3).bind fun v2 => if v2 = none then (self r1 x2 (x3 + 1) S) else ((rdR S (some b0) 3 0).bind fun v3 => (ldI S v3 2 x3).bind fun v4 => if v4 = 0 then ((rdR S r1 2 0).bind fun v5 => (stR S v5 3 1 x3 none).bind fun S6 => self r1 (x2 + 1) (x3 + 1) S6) else (self r1 x2 (x3 + 1) S)))
def g_R_dropUnreached (b0 : Nat) : Nat → Option Nat → Int32 → Int32 → mc_S → Option (Int32 × mc_S)
  | 0 => fun _ _ _ _ => none
  | n + 1 => fun r1 x2 x3 S => q_R_dropUnreached_0 b0 (g_R_dropUnreached b0 n) r1 x2 x3 S
def f_R_dropUnreached (b0 : Nat) (a1 : Option Nat) (S : mc_S) : Option (Int32 × mc_S) := (rcv S (some b0) 3).bind fun b1 => (f_R_walk b1 a1 S).bind fun S2 => g_R_dropUnreached b0 5000 a1 0 0 S2
def f_K_sweep (b0 : Nat) (S : mc_S) : Option (Int32 × mc_S) := (rdR S (some b0) 0 0).bind fun v1 => (rcv S (some b0) 0).bind fun b2 => (f_K_kept b2 S).bind fun o3 => (rcv o3.2 v1 2).bind fun b4 => (f_T_become b4 o3.1 o3.2).bind fun S5 => (rdR S5 (some b0) 0 3).bind fun v6 => (rdR S5 (some b0) 0 0).bind fun v7 => (rcv S5 v6 3).bind fun b8 => (f_R_dropUnreached b8 v7 S5).bind fun o9 => if o9.1 ≤ 0 then (some (o9.1, o9.2)) else ((rcv o9.2 (some b0) 0).bind fun b10 => (f_K_keepNow b10 8 o9.2).bind fun S11 => some (o9.1, S11))
def f_M_reach (b0 : Nat) (a1 : Int64) (a2 : Int32) (S : mc_S) : Option (Int32 × mc_S) := if (lg_cmp a1 1099511627776) ≤ 0 then (some (a2, S)) else ((rdR S (some b0) 4 6).bind fun v1 => (ldI S v1 2 (((a1 - 1099511627776) - 1)).toInt32).bind fun v2 => if v2 = 0 then ((rdR S (some b0) 4 6).bind fun v3 => (stI S v3 2 (((a1 - 1099511627776) - 1)).toInt32 1).bind fun S4 => (rdR S4 (some b0) 4 7).bind fun v5 => (stI S4 v5 0 a2 (((a1 - 1099511627776) - 1)).toInt32).bind fun S6 => some ((a2 + 1), S6)) else (some (a2, S)))
def q_M_sweep_0 (b0 : Nat) (self : Nat → Option Nat → Option Nat → Int32 → Int32 → Int32 → Int32 → mc_S → Option (Int32 × mc_S)) (r1 : Option Nat) (r2 : Option Nat) (x3 : Int32) (x4 : Int32) (x5 : Int32) (x6 : Int32) (S : mc_S) : Option (Int32 × mc_S) := if 100 ≤ x5 then (self 1 r1 r2 x3 x4 0 0 S) else ((stI S r1 2 x5 0).bind fun S1 => self 0 r1 r2 x3 x4 (x5 + 1) 0 S1)
def q_M_sweep_1 (b0 : Nat) (self : Nat → Option Nat → Option Nat → Int32 → Int32 → Int32 → Int32 → mc_S → Option (Int32 × mc_S)) (r1 : Option Nat) (r2 : Option Nat) (x3 : Int32) (x4 : Int32) (x5 : Int32) (x6 : Int32) (S : mc_S) : Option (Int32 × mc_S) := (rdR S (some b0) 4 0).bind fun v1 => (rdI S v1 5 6).bind fun v2 => if v2 ≤ x5 then (self 2 r1 r2 x3 x4 0 0 S) else ((rdR S (some b0) 4 0).bind fun v3 => (rdR S v3 5 5).bind fun v4 => (ldL S v4 1 x5).bind fun v5 => (rcv S (some b0) 4).bind fun b6 => (f_M_reach b6 v5 x3 S).bind fun o7 => self 1 r1 r2 o7.1 x4 (x5 + 1) 0 o7.2)
def q_M_sweep_2 (b0 : Nat) (self : Nat → Option Nat → Option Nat → Int32 → Int32 → Int32 → Int32 → mc_S → Option (Int32 × mc_S)) (r1 : Option Nat) (r2 : Option Nat) (x3 : Int32) (x4 : Int32) (x5 : Int32) (x6 : Int32) (S : mc_S) : Option (Int32 × mc_S) := if x3 ≤ x5 then (self 4 r1 r2 x3 x4 0 0 S) else (self 3 r1 r2 x3 x4 x5 0 S)
def q_M_sweep_3 (b0 : Nat) (self : Nat → Option Nat → Option Nat → Int32 → Int32 → Int32 → Int32 → mc_S → Option (Int32 × mc_S)) (r1 : Option Nat) (r2 : Option Nat) (x3 : Int32) (x4 : Int32) (x5 : Int32) (x6 : Int32) (S : mc_S) : Option (Int32 × mc_S) := (rdR S (some b0) 4 0).bind fun v1 => (rdR S v1 5 1).bind fun v2 => (ldI S r2 0 x5).bind fun v3 => (ldI S v2 0 v3).bind fun v4 => if v4 ≤ x6 then (self 2 r1 r2 x3 x4 (x5 + 1) 0 S) else ((rdR S (some b0) 4 0).bind fun v5 => (rdR S v5 5 4).bind fun v6 => (ldI S r2 0 x5).bind fun v7 => (ldL S v6 1 ((20 * v7) + x6)).bind fun v8 => (rcv S (some b0) 4).bind fun b9 => (f_M_reach b9 v8 x3 S).bind fun o10 => self 3 r1 r2 o10.1 x4 x5 (x6 + 1) o10.2)
def q_M_sweep_4 (b0 : Nat) (self : Nat → Option Nat → Option Nat → Int32 → Int32 → Int32 → Int32 → mc_S → Option (Int32 × mc_S)) (r1 : Option Nat) (r2 : Option Nat) (x3 : Int32) (x4 : Int32) (x5 : Int32) (x6 : Int32) (S : mc_S) : Option (Int32 × mc_S) := if 100 ≤ x5 then (if x4 ≤ 0 then (some (x4, S)) else ((rcv S (some b0) 4).bind fun b1 => (f_M_keep b1 8 S).bind fun S2 => some (x4, S2))) else ((rdR S (some b0) 4 0).bind fun v3 => (rdR S v3 5 0).bind fun v4 => (ldI S v4 0 x5).bind fun v5 => if v5 = 0 then (self 4 r1 r2 x3 x4 (x5 + 1) 0 S) else ((ldI S r1 2 x5).bind fun v6 => if v6 = 0 then ((rdR S (some b0) 4 0).bind fun v7 => (rdR S v7 5 0).bind fun v8 => (stI S v8 0 x5 0).bind fun S9 => self 4 r1 r2 x3 (x4 + 1) (x5 + 1) 0 S9) else (self 4 r1 r2 x3 x4 (x5 + 1) 0 S)))
def g_M_sweep (b0 : Nat) : Nat → Nat → Option Nat → Option Nat → Int32 → Int32 → Int32 → Int32 → mc_S → Option (Int32 × mc_S)
  | 0 => fun _ _ _ _ _ _ _ _ => none
  | n + 1 => fun hd r1 r2 x3 x4 x5 x6 S => match hd with
    | 0 => q_M_sweep_0 b0 (g_M_sweep b0 n) r1 r2 x3 x4 x5 x6 S
    | 1 => q_M_sweep_1 b0 (g_M_sweep b0 n) r1 r2 x3 x4 x5 x6 S
    | 2 => q_M_sweep_2 b0 (g_M_sweep b0 n) r1 r2 x3 x4 x5 x6 S
    | 3 => q_M_sweep_3 b0 (g_M_sweep b0 n) r1 r2 x3 x4 x5 x6 S
    | _ => q_M_sweep_4 b0 (g_M_sweep b0 n) r1 r2 x3 x4 x5 x6 S
def f_M_sweep (b0 : Nat) (S : mc_S) : Option (Int32 × mc_S) := (rdR S (some b0) 4 0).bind fun v1 => (rdR S (some b0) 4 1).bind fun v2 => (rcv S v1 5).bind fun b3 => (f_N_copy b3 v2 S).bind fun S4 => (rdR S4 (some b0) 4 6).bind fun v5 => (rdR S4 (some b0) 4 7).bind fun v6 => g_M_sweep b0 5000 0 v5 v6 0 0 0 0 S4
def f_K_sync (b0 : Nat) (S : mc_S) : Option (Int32 × mc_S) := (rdI S (some b0) 0 5).bind fun v1 => (rcv S (some b0) 0).bind fun b2 => (f_K_ringIndex b2 v1 S).bind fun o3 => (wrV o3.2 (some b0) 0 4 (.int o3.1)).bind fun S4 => (wrV S4 (some b0) 0 5 (.int 0)).bind fun S5 => some (v1, S5)
def f_M_sync (b0 : Nat) (S : mc_S) : Option (Int32 × mc_S) := (rdI S (some b0) 4 4).bind fun v1 => (rdR S (some b0) 4 2).bind fun v2 => (rdR S (some b0) 4 1).bind fun v3 => (rcv S v2 5).bind fun b4 => (f_N_copy b4 v3 S).bind fun S5 => (wrV S5 (some b0) 4 4 (.int 0)).bind fun S6 => some (v1, S6)
def q_K_entriesWithin_0 (b0 : Nat) (self : Int32 → Int32 → Int32 → mc_S → Option (Int32 × mc_S)) (x1 : Int32) (x2 : Int32) (x3 : Int32) (S : mc_S) : Option (Int32 × mc_S) := (rdI S (some b0) 0 5).bind fun v1 => if v1 < x3 then ((rdI S (some b0) 0 5).bind fun v2 => some (v2, S)) else ((rdR S (some b0) 0 2).bind fun v3 => (rcv S (some b0) 0).bind fun b4 => (f_K_ringIndex b4 x3 S).bind fun o5 => (ldI o5.2 v3 0 o5.1).bind fun v6 => if v6 ≤ x2 then (self x1 (x2 - v6) (x3 + 1) o5.2) else (some ((x3 - 1), o5.2)))
def g_K_entriesWithin (b0 : Nat) : Nat → Int32 → Int32 → Int32 → mc_S → Option (Int32 × mc_S)
  | 0 => fun _ _ _ _ => none
  | n + 1 => fun x1 x2 x3 S => q_K_entriesWithin_0 b0 (g_K_entriesWithin b0 n) x1 x2 x3 S
def f_K_entriesWithin (b0 : Nat) (a1 : Int32) (S : mc_S) : Option (Int32 × mc_S) := g_K_entriesWithin b0 5000 a1 a1 1 S
def q_K_crash_0 (b0 : Nat) (self : Int32 → Int32 → Int32 → mc_S → Option (Int32 × mc_S)) (x1 : Int32) (x2 : Int32) (x3 : Int32) (S : mc_S) : Option (Int32 × mc_S) := (rdI S (some b0) 0 5).bind fun v1 => if v1 < x3 then ((rcv S (some b0) 0).bind fun b2 => (f_K_ringIndex b2 x2 S).bind fun o3 => (wrV o3.2 (some b0) 0 4 (.int o3.1)).bind fun S4 => (wrV S4 (some b0) 0 5 (.int 0)).bind fun S5 => (rdR S5 (some b0) 0 0).bind fun v6 => (rcv S5 (some b0) 0).bind fun b7 => (f_K_kept b7 S5).bind fun o8 => (rcv o8.2 v6 2).bind fun b9 => (f_T_become b9 o8.1 o8.2).bind fun S10 => some (x2, S10)) else ((rdI S (some b0) 0 6).bind fun v11 => (rdR S (some b0) 0 2).bind fun v12 => (rcv S (some b0) 0).bind fun b13 => (f_K_ringIndex b13 x3 S).bind fun o14 => (ldI o14.2 v12 0 o14.1).bind fun v15 => (wrV o14.2 (some b0) 0 6 (.int (v11 - v15))).bind fun S16 => self x1 x2 (x3 + 1) S16)
def g_K_crash (b0 : Nat) : Nat → Int32 → Int32 → Int32 → mc_S → Option (Int32 × mc_S)
  | 0 => fun _ _ _ _ => none
  | n + 1 => fun x1 x2 x3 S => q_K_crash_0 b0 (g_K_crash b0 n) x1 x2 x3 S
def f_K_crash (b0 : Nat) (a1 : Int32) (S : mc_S) : Option (Int32 × mc_S) := if 0 ≤ a1 then ((rcv S (some b0) 0).bind fun b1 => (f_K_entriesWithin b1 a1 S).bind fun o2 => g_K_crash b0 5000 a1 o2.1 (o2.1 + 1) o2.2) else (some ((-1), S))
def q_M_crash_0 (b0 : Nat) (self : Nat → Int32 → Int32 → Int64 → Int32 → mc_S → Option (Int32 × mc_S)) (x1 : Int32) (x2 : Int32) (y3 : Int64) (x5 : Int32) (S : mc_S) : Option (Int32 × mc_S) := (rdI S (some b0) 4 4).bind fun v1 => if v1 ≤ x2 then (self 1 x1 x2 y3 x2 S) else ((rdR S (some b0) 4 3).bind fun v2 => (ldR S v2 5 x2).bind fun v3 => (rdI S v3 5 7).bind fun v4 => if 0 < (lg_cmp (y3 + (v4).toInt64) (x1).toInt64) then (self 1 x1 x2 y3 x2 S) else ((rdR S (some b0) 4 3).bind fun v5 => (ldR S v5 5 x2).bind fun v6 => (rdI S v6 5 7).bind fun v7 => self 0 x1 (x2 + 1) (y3 + (v7).toInt64) 0 S))
def q_M_crash_1 (b0 : Nat) (self : Nat → Int32 → Int32 → Int64 → Int32 → mc_S → Option (Int32 × mc_S)) (x1 : Int32) (x2 : Int32) (y3 : Int64) (x5 : Int32) (S : mc_S) : Option (Int32 × mc_S) := (rdI S (some b0) 4 4).bind fun v1 => if v1 ≤ x5 then (if x2 ≤ 0 then ((rdR S (some b0) 4 0).bind fun v2 => (rdR S (some b0) 4 2).bind fun v3 => (rcv S v2 5).bind fun b4 => (f_N_copy b4 v3 S).bind fun S5 => (rdR S5 (some b0) 4 1).bind fun v6 => (rdR S5 (some b0) 4 2).bind fun v7 => (rcv S5 v6 5).bind fun b8 => (f_N_copy b8 v7 S5).bind fun S9 => (wrV S9 (some b0) 4 4 (.int 0)).bind fun S10 => some (x2, S10)) else ((rdR S (some b0) 4 2).bind fun v11 => (rdR S (some b0) 4 3).bind fun v12 => (ldR S v12 5 (x2 - 1)).bind fun v13 => (rcv S v11 5).bind fun b14 => (f_N_copy b14 v13 S).bind fun S15 => (rdR S15 (some b0) 4 0).bind fun v16 => (rdR S15 (some b0) 4 2).bind fun v17 => (rcv S15 v16 5).bind fun b18 => (f_N_copy b18 v17 S15).bind fun S19 => (rdR S19 (some b0) 4 1).bind fun v20 => (rdR S19 (some b0) 4 2).bind fun v21 => (rcv S19 v20 5).bind fun b22 => (f_N_copy b22 v21 S19).bind fun S23 => (wrV S23 (some b0) 4 4 (.int 0)).bind fun S24 => some (x2, S24))) else ((rdI S (some b0) 4 5).bind fun v25 => (rdR S (some b0) 4 3).bind fun v26 => (ldR S v26 5 x5).bind fun v27 => (rdI S v27 5 7).bind fun v28 => (wrV S (some b0) 4 5 (.int (v25 - v28))).bind fun S29 => self 1 x1 x2 y3 (x5 + 1) S29)
def g_M_crash (b0 : Nat) : Nat → Nat → Int32 → Int32 → Int64 → Int32 → mc_S → Option (Int32 × mc_S)
  | 0 => fun _ _ _ _ _ _ => none
  | n + 1 => fun hd x1 x2 y3 x5 S => match hd with
    | 0 => q_M_crash_0 b0 (g_M_crash b0 n) x1 x2 y3 x5 S
    | _ => q_M_crash_1 b0 (g_M_crash b0 n) x1 x2 y3 x5 S
def f_M_crash (b0 : Nat) (a1 : Int32) (S : mc_S) : Option (Int32 × mc_S) := if 0 ≤ a1 then (g_M_crash b0 5000 0 a1 0 0 0 S) else (some ((-1), S))
def f_K_kind (b0 : Nat) (a1 : Int32) (S : mc_S) : Option (Int32 × mc_S) := if a1 < 0 then (some ((-1), S)) else (if a1 < 100 then ((rdR S (some b0) 0 0).bind fun v1 => (rdR S v1 2 0).bind fun v2 => (ldR S v2 3 a1).bind fun v3 => if v3 = none then (some (0, S)) else ((rdI S v3 1 0).bind fun v4 => some (v4, S))) else (some ((-1), S)))
def f_M_kind (b0 : Nat) (a1 : Int32) (S : mc_S) : Option (Int32 × mc_S) := (f_M_in (a1).toInt64 0 99 S).bind fun o1 => if o1.1 = 0 then (some ((-1), o1.2)) else ((rdR o1.2 (some b0) 4 0).bind fun v2 => (rdR o1.2 v2 5 0).bind fun v3 => (ldI o1.2 v3 0 a1).bind fun v4 => some (v4, o1.2))
def f_K_size (b0 : Nat) (a1 : Int32) (S : mc_S) : Option (Int32 × mc_S) := if a1 < 0 then (some ((-1), S)) else (if a1 < 100 then ((rdR S (some b0) 0 0).bind fun v1 => (rdR S v1 2 0).bind fun v2 => (ldR S v2 3 a1).bind fun v3 => if v3 = none then (some ((-1), S)) else ((rdI S v3 1 3).bind fun v4 => some (v4, S))) else (some ((-1), S)))
def f_M_size (b0 : Nat) (a1 : Int32) (S : mc_S) : Option (Int32 × mc_S) := (rcv S (some b0) 4).bind fun b1 => (f_M_isThere b1 a1 S).bind fun o2 => if o2.1 = 0 then (some ((-1), o2.2)) else ((rdR o2.2 (some b0) 4 0).bind fun v3 => (rdR o2.2 v3 5 1).bind fun v4 => (ldI o2.2 v4 0 a1).bind fun v5 => some (v5, o2.2))
def q_T_objectsThere_0 (b0 : Nat) (self : Int32 → Int32 → mc_S → Option (Int32 × mc_S)) (x1 : Int32) (x2 : Int32) (S : mc_S) : Option (Int32 × mc_S) := if 100 ≤ x2 then (some (x1, S)) else ((rdR S (some b0) 2 0).bind fun v1 => (ldR S v1 3 x2).bind fun v2 => if v2 = none then (self x1 (x2 + 1) S) else (self (x1 + 1) (x2 + 1) S))
def g_T_objectsThere (b0 : Nat) : Nat → Int32 → Int32 → mc_S → Option (Int32 × mc_S)
  | 0 => fun _ _ _ => none
  | n + 1 => fun x1 x2 S => q_T_objectsThere_0 b0 (g_T_objectsThere b0 n) x1 x2 S
def f_T_objectsThere (b0 : Nat) (S : mc_S) : Option (Int32 × mc_S) := g_T_objectsThere b0 5000 0 0 S
def f_K_count (b0 : Nat) (a1 : Int32) (S : mc_S) : Option (Int32 × mc_S) := if a1 = (0 : Int32) then ((rdR S (some b0) 0 0).bind fun v1 => (rcv S v1 2).bind fun b2 => (f_T_objectsThere b2 S).bind fun o3 => some (o3.1, o3.2)) else (if a1 = (1 : Int32) then ((rdR S (some b0) 0 0).bind fun v4 => (rdR S v4 2 1).bind fun v5 => (rdI S v5 1 3).bind fun v6 => some (v6, S)) else (if a1 = (2 : Int32) then ((rdI S (some b0) 0 5).bind fun v7 => some (v7, S)) else (if a1 = (3 : Int32) then ((rdI S (some b0) 0 6).bind fun v8 => some (v8, S)) else (some ((-1), S)))))
def q_M_count_0 (b0 : Nat) (self : Int32 → Int32 → Option Nat → Int32 → Int32 → mc_S → Option (Int32 × mc_S)) (x1 : Int32) (x2 : Int32) (r3 : Option Nat) (x4 : Int32) (x5 : Int32) (S : mc_S) : Option (Int32 × mc_S) := if x4 ≤ x5 then (some (x2, S)) else ((ldI S r3 0 x5).bind fun v1 => if v1 = 0 then (self x1 x2 r3 x4 (x5 + 1) S) else (self x1 (x2 + 1) r3 x4 (x5 + 1) S))
def g_M_count (b0 : Nat) : Nat → Int32 → Int32 → Option Nat → Int32 → Int32 → mc_S → Option (Int32 × mc_S)
  | 0 => fun _ _ _ _ _ _ => none
  | n + 1 => fun x1 x2 r3 x4 x5 S => q_M_count_0 b0 (g_M_count b0 n) x1 x2 r3 x4 x5 S
def f_M_count (b0 : Nat) (a1 : Int32) (S : mc_S) : Option (Int32 × mc_S) := if a1 = (0 : Int32) then ((rdR S (some b0) 4 0).bind fun v1 => (rdR S v1 5 0).bind fun v2 => (alen S v2 0).bind fun v3 => g_M_count b0 5000 a1 0 v2 v3 0 S) else (if a1 = (1 : Int32) then ((rdR S (some b0) 4 0).bind fun v4 => (rdI S v4 5 6).bind fun v5 => some (v5, S)) else (if a1 = (2 : Int32) then ((rdI S (some b0) 4 4).bind fun v6 => some (v6, S)) else (if a1 = (3 : Int32) then ((rdI S (some b0) 4 5).bind fun v7 => some (v7, S)) else (some ((-1), S)))))
def q_L_law_0 (L0 : Nat) (xs : Nat → Int32) (self : Option Nat → Option Nat → Int32 → mc_S → Option (Int32 × mc_S)) (r1 : Option Nat) (r2 : Option Nat) (x3 : Int32) (S : mc_S) : Option (Int32 × mc_S) := if ((Int32.ofNat L0) - 5) < x3 then (some (1, S)) else ((scI L0 xs x3).bind fun v1 => if (v1 &&& 31) = (0 : Int32) then ((scI L0 xs (x3 + 1)).bind fun v2 => if v2 = 0 then ((rcv S r1 0).bind fun b3 => (f_K_make b3 0 S).bind fun o4 => (scI L0 xs (x3 + 1)).bind fun v5 => if v5 = 0 then ((rcv o4.2 r2 4).bind fun b6 => (f_M_make b6 0 o4.2).bind fun o7 => if o4.1 = o7.1 then (self r1 r2 (x3 + 5) o7.2) else (some (0, o7.2))) else ((rcv o4.2 r2 4).bind fun b8 => (f_M_make b8 1 o4.2).bind fun o9 => if o4.1 = o9.1 then (self r1 r2 (x3 + 5) o9.2) else (some (0, o9.2)))) else ((rcv S r1 0).bind fun b10 => (f_K_make b10 1 S).bind fun o11 => (scI L0 xs (x3 + 1)).bind fun v12 => if v12 = 0 then ((rcv o11.2 r2 4).bind fun b13 => (f_M_make b13 0 o11.2).bind fun o14 => if o11.1 = o14.1 then (self r1 r2 (x3 + 5) o14.2) else (some (0, o14.2))) else ((rcv o11.2 r2 4).bind fun b15 => (f_M_make b15 1 o11.2).bind fun o16 => if o11.1 = o16.1 then (self r1 r2 (x3 + 5) o16.2) else (some (0, o16.2))))) else (if (v1 &&& 31) = (1 : Int32) then ((scI L0 xs (x3 + 1)).bind fun v17 => (scI L0 xs (x3 + 2)).bind fun v18 => (scI L0 xs (x3 + 3)).bind fun v19 => (scI L0 xs (x3 + 4)).bind fun v20 => (rcv S r1 0).bind fun b21 => (f_K_set b21 v17 v18 v19 v20 S).bind fun o22 => (scI L0 xs (x3 + 1)).bind fun v23 => (scI L0 xs (x3 + 2)).bind fun v24 => (scI L0 xs (x3 + 3)).bind fun v25 => (scI L0 xs (x3 + 4)).bind fun v26 => (rcv o22.2 r2 4).bind fun b27 => (f_M_set b27 v23 v24 v25 v26 o22.2).bind fun o28 => if o22.1 = o28.1 then (self r1 r2 (x3 + 5) o28.2) else (some (0, o28.2))) else (if (v1 &&& 31) = (2 : Int32) then ((scI L0 xs (x3 + 1)).bind fun v29 => (scI L0 xs (x3 + 2)).bind fun v30 => (rcv S r1 0).bind fun b31 => (f_K_get b31 v29 v30 S).bind fun o32 => (scI L0 xs (x3 + 1)).bind fun v33 => (scI L0 xs (x3 + 2)).bind fun v34 => (rcv o32.2 r2 4).bind fun b35 => (f_M_get b35 v33 v34 o32.2).bind fun o36 => if (lg_cmp o32.1 o36.1) = 0 then (self r1 r2 (x3 + 5) o36.2) else (some (0, o36.2))) else (if (v1 &&& 31) = (3 : Int32) then ((scI L0 xs (x3 + 1)).bind fun v37 => (scI L0 xs (x3 + 2)).bind fun v38 => (scI L0 xs (x3 + 3)).bind fun v39 => (rcv S r1 0).bind fun b40 => (f_K_push b40 v37 v38 v39 S).bind fun o41 => (scI L0 xs (x3 + 1)).bind fun v42 => (scI L0 xs (x3 + 2)).bind fun v43 => (scI L0 xs (x3 + 3)).bind fun v44 => (rcv o41.2 r2 4).bind fun b45 => (f_M_push b45 v42 v43 v44 o41.2).bind fun o46 => if o41.1 = o46.1 then (self r1 r2 (x3 + 5) o46.2) else (some (0, o46.2))) else (if (v1 &&& 31) = (4 : Int32) then ((scI L0 xs (x3 + 1)).bind fun v47 => (rcv S r1 0).bind fun b48 => (f_K_pop b48 v47 S).bind fun o49 => (scI L0 xs (x3 + 1)).bind fun v50 => (rcv o49.2 r2 4).bind fun b51 => (f_M_pop b51 v50 o49.2).bind fun o52 => if (lg_cmp o49.1 o52.1) = 0 then (self r1 r2 (x3 + 5) o52.2) else (some (0, o52.2))) else (if (v1 &&& 31) = (5 : Int32) then ((scI L0 xs (x3 + 1)).bind fun v53 => (scI L0 xs (x3 + 2)).bind fun v54 => (scI L0 xs (x3 + 3)).bind fun v55 => (scI L0 xs (x3 + 4)).bind fun v56 => (rcv S r1 0).bind fun b57 => (f_K_put b57 v53 v54 v55 v56 S).bind fun o58 => (scI L0 xs (x3 + 1)).bind fun v59 => (scI L0 xs (x3 + 2)).bind fun v60 => (scI L0 xs (x3 + 3)).bind fun v61 => (scI L0 xs (x3 + 4)).bind fun v62 => (rcv o58.2 r2 4).bind fun b63 => (f_M_put b63 v59 v60 v61 v62 o58.2).bind fun o64 => if o58.1 = o64.1 then (self r1 r2 (x3 + 5) o64.2) else (some (0, o64.2))) else (if (v1 &&& 31) = (6 : Int32) then ((scI L0 xs (x3 + 1)).bind fun v65 => (scI L0 xs (x3 + 2)).bind fun v66 => (rcv S r1 0).bind fun b67 => (f_K_item b67 v65 v66 S).bind fun o68 => (scI L0 xs (x3 + 1)).bind fun v69 => (scI L0 xs (x3 + 2)).bind fun v70 => (rcv o68.2 r2 4).bind fun b71 => (f_M_item b71 v69 v70 o68.2).bind fun o72 => if (lg_cmp o68.1 o72.1) = 0 then (self r1 r2 (x3 + 5) o72.2) else (some (0, o72.2))) else (if (v1 &&& 31) = (7 : Int32) then ((scI L0 xs (x3 + 1)).bind fun v73 => (scI L0 xs (x3 + 2)).bind fun v74 => (scI L0 xs (x3 + 3)).bind fun v75 => (rcv S r1 0).bind fun b76 => (f_K_root b76 v73 v74 v75 S).bind fun o77 => (scI L0 xs (x3 + 1)).bind fun v78 => (scI L0 xs (x3 + 2)).bind fun v79 => (scI L0 xs (x3 + 3)).bind fun v80 => (rcv o77.2 r2 4).bind fun b81 => (f_M_root b81 v78 v79 v80 o77.2).bind fun o82 => if o77.1 = o82.1 then (self r1 r2 (x3 + 5) o82.2) else (some (0, o82.2))) else (if (v1 &&& 31) = (8 : Int32) then ((scI L0 xs (x3 + 1)).bind fun v83 => (rcv S r1 0).bind fun b84 => (f_K_rooted b84 v83 S).bind fun o85 => (scI L0 xs (x3 + 1)).bind fun v86 => (rcv o85.2 r2 4).bind fun b87 => (f_M_rooted b87 v86 o85.2).bind fun o88 => if (lg_cmp o85.1 o88.1) = 0 then (self r1 r2 (x3 + 5) o88.2) else (some (0, o88.2))) else (if (v1 &&& 31) = (9 : Int32) then ((rcv S r1 0).bind fun b89 => (f_K_commit b89 S).bind fun o90 => (rcv o90.2 r2 4).bind fun b91 => (f_M_commit b91 o90.2).bind fun o92 => if o90.1 = o92.1 then (self r1 r2 (x3 + 5) o92.2) else (some (0, o92.2))) else (if (v1 &&& 31) = (10 : Int32) then ((rcv S r1 0).bind fun b93 => (f_K_undo b93 S).bind fun o94 => (rcv o94.2 r2 4).bind fun b95 => (f_M_undo b95 o94.2).bind fun o96 => if o94.1 = o96.1 then (self r1 r2 (x3 + 5) o96.2) else (some (0, o96.2))) else (if (v1 &&& 31) = (11 : Int32) then ((rcv S r1 0).bind fun b97 => (f_K_sweep b97 S).bind fun o98 => (rcv o98.2 r2 4).bind fun b99 => (f_M_sweep b99 o98.2).bind fun o100 => if o98.1 = o100.1 then (self r1 r2 (x3 + 5) o100.2) else (some (0, o100.2))) else (if (v1 &&& 31) = (12 : Int32) then ((rcv S r1 0).bind fun b101 => (f_K_sync b101 S).bind fun o102 => (rcv o102.2 r2 4).bind fun b103 => (f_M_sync b103 o102.2).bind fun o104 => if o102.1 = o104.1 then (self r1 r2 (x3 + 5) o104.2) else (some (0, o104.2))) else (if (v1 &&& 31) = (13 : Int32) then ((scI L0 xs (x3 + 1)).bind fun v105 => (rcv S r1 0).bind fun b106 => (f_K_crash b106 v105 S).bind fun o107 => (scI L0 xs (x3 + 1)).bind fun v108 => (rcv o107.2 r2 4).bind fun b109 => (f_M_crash b109 v108 o107.2).bind fun o110 => if o107.1 = o110.1 then (self r1 r2 (x3 + 5) o110.2) else (some (0, o110.2))) else (if (v1 &&& 31) = (14 : Int32) then ((scI L0 xs (x3 + 1)).bind fun v111 => (rcv S r1 0).bind fun b112 => (f_K_kind b112 v111 S).bind fun o113 => (scI L0 xs (x3 + 1)).bind fun v114 => (rcv o113.2 r2 4).bind fun b115 => (f_M_kind b115 v114 o113.2).bind fun o116 => if o113.1 = o116.1 then (self r1 r2 (x3 + 5) o116.2) else (some (0, o116.2))) else (if (v1 &&& 31) = (15 : Int32) then ((scI L0 xs (x3 + 1)).bind fun v117 => (rcv S r1 0).bind fun b118 => (f_K_size b118 v117 S).bind fun o119 => (scI L0 xs (x3 + 1)).bind fun v120 => (rcv o119.2 r2 4).bind fun b121 => (f_M_size b121 v120 o119.2).bind fun o122 => if o119.1 = o122.1 then (self r1 r2 (x3 + 5) o122.2) else (some (0, o122.2))) else (if (v1 &&& 31) = (16 : Int32) then ((scI L0 xs (x3 + 1)).bind fun v123 => (rcv S r1 0).bind fun b124 => (f_K_count b124 v123 S).bind fun o125 => (scI L0 xs (x3 + 1)).bind fun v126 => (rcv o125.2 r2 4).bind fun b127 => (f_M_count b127 v126 o125.2).bind fun o128 => if o125.1 = o128.1 then (self r1 r2 (x3 + 5) o128.2) else (some (0, o128.2))) else (self r1 r2 (x3 + 5) S))))))))))))))))))
def g_L_law (L0 : Nat) (xs : Nat → Int32) : Nat → Option Nat → Option Nat → Int32 → mc_S → Option (Int32 × mc_S)
  | 0 => fun _ _ _ _ => none
  | n + 1 => fun r1 r2 x3 S => q_L_law_0 L0 xs (g_L_law L0 xs n) r1 r2 x3 S
def f_L_law (L0 : Nat) (xs : Nat → Int32) (S : mc_S) : Option (Int32 × mc_S) := (rcv (nwO 0 [.null, .null, .null, .null, .int 0, .int 0, .int 0] S) (some S.2) 0).bind fun b1 => (f_K_init b1 (nwO 0 [.null, .null, .null, .null, .int 0, .int 0, .int 0] S)).bind fun S2 => (rcv (nwO 4 [.null, .null, .null, .null, .int 0, .int 0, .null, .null] S2) (some S2.2) 4).bind fun b3 => (f_M_init b3 (nwO 4 [.null, .null, .null, .null, .int 0, .int 0, .null, .null] S2)).bind fun S4 => g_L_law L0 xs 520 (some S.2) (some S2.2) 0 S4
end
section
abbrev rm_R_init : Room := { frames := 1, cells := 2, slots := 200, locals := 12 }
set_option maxHeartbeats 4000000 in
set_option maxRecDepth 100000 in
theorem c_R_init (l : Launch) (D : va_G) (dA : Nat → ClassId) (A : Nat → Prop) (b0 : Nat) (S : mc_S) (out : mc_S) (hf : f_R_init b0 S = some out) : Met l y_R_init (cd_R_init :: ALL) rm_R_init (va_Pc [va_rf (some b0)] (mw_B D dA CL (TY dA) ZZ A S)) (va_Qv (fun (_ : Unit) => True) (fun _ t => mw_R D dA CL A out t) A) 2 200 A := by
  refine mw_ofW (cc := b_R_init) (maxL := 1) (ret := none) [(.inr (.inr (some b0)))] rfl (by decide +kernel) (Nat.le_of_ble_eq_true rfl) (L := [(0, (.inr (.inr (some b0))))]) rfl (fun p e s m args below meth c F hr hlk hnm hK ls hl hI => ?_)
  have h := hf
  unfold f_R_init at h
  refine mt_aload_n F hl 0 rfl rfl d_R_init_0 ?_
  refine mw_objInit F (mA k_0) (mA k_1) (mA k_2) hl.1 d_R_init_1 (Nat.le_of_ble_eq_true rfl) (Nat.le_of_ble_eq_true rfl) ?_
  refine mt_aload_n F hl 0 rfl rfl d_R_init_4 ?_
  refine lv_bipush (v := 100) F.1 F.2.1 d_R_init_5 (by decide) ?_
  obtain ⟨S1, e_S1, h⟩ := mw_bind h
  refine mw_newa F hK hI (t0 := 2) (mA k_3) rfl rfl (fun _ => rfl) e_S1 (fun _ => rfl) (by decide) (Nat.le_of_ble_eq_true rfl) (Nat.le_of_ble_eq_true rfl) d_R_init_7 (fun H hI => ?_)
  obtain ⟨S2, e_S2, h⟩ := mw_bind h
  refine mw_putF F hK hI (in_3 _) ty_3 ok_3 nm_3 (hc_3) 0 (by decide) (mA k_4) rfl rfl hnm (mw_narA _ _) (mw_fitA _ _) e_S2 d_R_init_9 (fun H locs hI => ?_)
  refine mt_aload_n F hl 0 rfl rfl d_R_init_12 ?_
  refine lv_bipush (v := 100) F.1 F.2.1 d_R_init_13 (by decide) ?_
  obtain ⟨S3, e_S3, h⟩ := mw_bind h
  refine mw_newa F hK hI (t0 := 0) (mA k_5) rfl rfl (fun _ => rfl) e_S3 (fun _ => rfl) (by decide) (Nat.le_of_ble_eq_true rfl) (Nat.le_of_ble_eq_true rfl) d_R_init_15 (fun H hI => ?_)
  obtain ⟨S4, e_S4, h⟩ := mw_bind h
  refine mw_putF F hK hI (in_3 _) ty_3 ok_3 nm_3 (hc_3) 1 (by decide) (mA k_6) rfl rfl hnm (mw_narA _ _) (mw_fitA _ _) e_S4 d_R_init_17 (fun H locs hI => ?_)
  refine mt_aload_n F hl 0 rfl rfl d_R_init_20 ?_
  refine lv_iconst (v := 0) F.1 F.2.1 d_R_init_21 (by decide) ?_
  obtain ⟨S5, e_S5, h⟩ := mw_bind h
  refine mw_put F hK hI (in_3 _) ty_3 ok_3 nm_3 (hc_3) 2 (by decide) (mA k_7) rfl rfl rfl rfl e_S5 d_R_init_22 (fun H locs hI => ?_)
  exact mw_vret F hI hr hlk h (Nat.le_of_ble_eq_true rfl) (Nat.le_of_ble_eq_true rfl) d_R_init_25
abbrev rm_S_init : Room := { frames := 1, cells := 2, slots := 40, locals := 12 }
set_option maxHeartbeats 4000000 in
set_option maxRecDepth 100000 in
theorem c_S_init (l : Launch) (D : va_G) (dA : Nat → ClassId) (A : Nat → Prop) (b0 : Nat) (a1 : Int32) (a2 : Int32) (S : mc_S) (out : mc_S) (hf : f_S_init b0 a1 a2 S = some out) : Met l y_S_init (cd_S_init :: ALL) rm_S_init (va_Pc [va_rf (some b0), .int a1, .int a2] (mw_B D dA CL (TY dA) ZZ A S)) (va_Qv (fun (_ : Unit) => True) (fun _ t => mw_R D dA CL A out t) A) 2 40 A := by
  refine mw_ofW (cc := b_S_init) (maxL := 3) (ret := none) [(.inr (.inr (some b0))), (.inl a1), (.inl a2)] rfl (by decide +kernel) (Nat.le_of_ble_eq_true rfl) (L := [(0, (.inr (.inr (some b0)))), (1, (.inl a1)), (2, (.inl a2))]) rfl (fun p e s m args below meth c F hr hlk hnm hK ls hl hI => ?_)
  have h := hf
  unfold f_S_init at h
  refine mt_aload_n F hl 0 rfl rfl d_S_init_0 ?_
  refine mw_objInit F (mA k_8) (mA k_1) (mA k_2) hl.1 d_S_init_1 (Nat.le_of_ble_eq_true rfl) (Nat.le_of_ble_eq_true rfl) ?_
  refine mt_aload_n F hl 0 rfl rfl d_S_init_4 ?_
  refine lv_iconst (v := 0) F.1 F.2.1 d_S_init_5 (by decide) ?_
  obtain ⟨S1, e_S1, h⟩ := mw_bind h
  refine mw_put F hK hI (in_1 _) ty_1 ok_1 nm_1 (hc_1) 3 (by decide) (mA k_9) rfl rfl rfl rfl e_S1 d_S_init_6 (fun H locs hI => ?_)
  refine mt_aload_n F hl 0 rfl rfl d_S_init_9 ?_
  refine mt_iload_n F hl 1 rfl rfl d_S_init_10 ?_
  obtain ⟨S2, e_S2, h⟩ := mw_bind h
  refine mw_putF F hK hI (in_1 _) ty_1 ok_1 nm_1 (hc_1) 0 (by decide) (mA k_10) rfl rfl hnm rfl rfl e_S2 d_S_init_11 (fun H locs hI => ?_)
  refine mt_aload_n F hl 0 rfl rfl d_S_init_14 ?_
  refine mt_iload_n F hl 2 rfl rfl d_S_init_15 ?_
  obtain ⟨S3, e_S3, h⟩ := mw_bind h
  refine mw_newa F hK hI (t0 := 0) (mA k_5) rfl rfl (fun _ => rfl) e_S3 (fun _ => rfl) (by decide) (Nat.le_of_ble_eq_true rfl) (Nat.le_of_ble_eq_true rfl) d_S_init_16 (fun H hI => ?_)
  obtain ⟨S4, e_S4, h⟩ := mw_bind h
  refine mw_putF F hK hI (in_1 _) ty_1 ok_1 nm_1 (hc_1) 1 (by decide) (mA k_11) rfl rfl hnm (mw_narA _ _) (mw_fitA _ _) e_S4 d_S_init_18 (fun H locs hI => ?_)
  refine mt_aload_n F hl 0 rfl rfl d_S_init_21 ?_
  refine mt_iload_n F hl 2 rfl rfl d_S_init_22 ?_
  obtain ⟨S5, e_S5, h⟩ := mw_bind h
  refine mw_newa F hK hI (t0 := 1) (mA k_12) rfl rfl (fun _ => rfl) e_S5 (fun _ => rfl) (by decide) (Nat.le_of_ble_eq_true rfl) (Nat.le_of_ble_eq_true rfl) d_S_init_23 (fun H hI => ?_)
  obtain ⟨S6, e_S6, h⟩ := mw_bind h
  refine mw_putF F hK hI (in_1 _) ty_1 ok_1 nm_1 (hc_1) 2 (by decide) (mA k_13) rfl rfl hnm (mw_narA _ _) (mw_fitA _ _) e_S6 d_S_init_25 (fun H locs hI => ?_)
  exact mw_vret F hI hr hlk h (Nat.le_of_ble_eq_true rfl) (Nat.le_of_ble_eq_true rfl) d_S_init_28
abbrev rm_T_init : Room := { frames := 1, cells := 1, slots := 100, locals := 12 }
set_option maxHeartbeats 4000000 in
set_option maxRecDepth 100000 in
theorem c_T_init (l : Launch) (D : va_G) (dA : Nat → ClassId) (A : Nat → Prop) (b0 : Nat) (a1 : Option Nat) (S : mc_S) (out : mc_S) (hf : f_T_init b0 a1 S = some out) : Met l y_T_init (cd_T_init :: ALL) rm_T_init (va_Pc [va_rf (some b0), va_rf a1] (mw_B D dA CL (TY dA) ZZ A S)) (va_Qv (fun (_ : Unit) => True) (fun _ t => mw_R D dA CL A out t) A) 1 100 A := by
  refine mw_ofW (cc := b_T_init) (maxL := 2) (ret := none) [(.inr (.inr (some b0))), (.inr (.inr a1))] rfl (by decide +kernel) (Nat.le_of_ble_eq_true rfl) (L := [(0, (.inr (.inr (some b0)))), (1, (.inr (.inr a1)))]) rfl (fun p e s m args below meth c F hr hlk hnm hK ls hl hI => ?_)
  have h := hf
  unfold f_T_init at h
  refine mt_aload_n F hl 0 rfl rfl d_T_init_0 ?_
  refine mw_objInit F (mA k_14) (mA k_1) (mA k_2) hl.1 d_T_init_1 (Nat.le_of_ble_eq_true rfl) (Nat.le_of_ble_eq_true rfl) ?_
  refine mt_aload_n F hl 0 rfl rfl d_T_init_4 ?_
  refine lv_bipush (v := 100) F.1 F.2.1 d_T_init_5 (by decide) ?_
  obtain ⟨S1, e_S1, h⟩ := mw_bind h
  refine mw_anew F hK hI (t0 := 3) (mA k_15) (List.mem_of_getElem? (i := 0) rfl) rfl e_S1 (by decide) (Nat.le_of_ble_eq_true rfl) (Nat.le_of_ble_eq_true rfl) d_T_init_7 (fun H hI => ?_)
  obtain ⟨S2, e_S2, h⟩ := mw_bind h
  refine mw_putF F hK hI (in_2 _) ty_2 ok_2 nm_2 (hc_2) 0 (by decide) (mA k_16) rfl rfl hnm (mw_narA _ _) (mw_fitA _ _) e_S2 d_T_init_10 (fun H locs hI => ?_)
  refine mt_aload_n F hl 0 rfl rfl d_T_init_13 ?_
  refine mt_aload_n F hl 1 rfl rfl d_T_init_14 ?_
  obtain ⟨S3, e_S3, h⟩ := mw_bind h
  refine mw_put F hK hI (in_2 _) ty_2 ok_2 nm_2 (hc_2) 1 (by decide) (mA k_17) rfl rfl (mw_narO _ _) (mw_fitO _ _) e_S3 d_T_init_15 (fun H locs hI => ?_)
  exact mw_vret F hI hr hlk h (Nat.le_of_ble_eq_true rfl) (Nat.le_of_ble_eq_true rfl) d_T_init_18
abbrev rm_K_init : Room := { frames := 2, cells := 34, slots := 1591, locals := 34 }
set_option maxHeartbeats 4000000 in
set_option maxRecDepth 100000 in
theorem s_K_init (l : Launch) (D : va_G) (dA : Nat → ClassId) (A : Nat → Prop) (b0 : Nat) {p : Program} {e : Env} {s : State} {m : MethodId} {args : Array Value} {below : List Frame} {meth : Method} {c : Code} (F : CallFix p m c b_K_init 3 s args (cd_K_init :: ALL) y_K_init.cls) (hr : meth.sig.returnType = none) (hlk : meth.locks = false) (hnm : meth.name = y_K_init.name) (hK : mw_K D CL (TY dA) ZZ s) (out : mc_S) : ∀ n : Nat, n ≤ 12 → (∀ (r1 : Option Nat) (x2 : Int32) (S : mc_S) (H : Heap) (locs : List Loc) (ls : Array Slot), mw_I D dA CL A S s.heap H locs → mt_L ls 3 [(0, (.inr (.inr (some b0)))), (1, (.inr (.inr r1))), (2, (.inl x2))] → g_K_init b0 n r1 x2 S = some out → W p l e rm_K_init s m args below meth c H locs (10 + (12 - n) * 2) (367 + (12 - n) * 102) (MQ below (va_Qv (fun (_ : Unit) => True) (fun _ t => mw_R D dA CL A out t) A) args s 34 1591 A) (F0 m 72 ls [])) := by
  intro n
  induction n with
  | zero =>
    intro _
    intro r1 x2 S H locs ls hI hl h; have h : (none : Option mc_S) = some out := h; cases h
  | succ k0 ih =>
    intro hn0
    intro r1 x2 S H locs ls hI hl h
    have h : q_K_init_0 b0 (g_K_init b0 k0) r1 x2 S = some out := h
    unfold q_K_init_0 at h
    refine mt_iload_n F hl 2 rfl rfl d_K_init_72 ?_
    refine lv_bipush (v := 9) F.1 F.2.1 d_K_init_73 (by decide) ?_
    refine lv_icmp_ge (tgt := 98) F.1 F.2.1 d_K_init_75 (by decide) (fun hc => ?_) (fun hc => ?_)
    · rw [if_pos hc] at h
      exact mw_vret F hI hr hlk h (by show _ ≤ 34; omega) (by show _ ≤ 1591; omega) d_K_init_98
    · rw [if_neg hc] at h
      refine mt_aload_n F hl 0 rfl rfl d_K_init_78 ?_
      obtain ⟨v1, e_v1, h⟩ := mw_bind h
      refine mw_getR F hK hI (in_0 _) (hc_0) 1 (by decide) (mA k_20) rfl e_v1 d_K_init_79 ?_
      refine mt_iload_n F hl 2 rfl rfl d_K_init_82 ?_
      refine mw_new F hK hI (in_2 _) ty_2 ok_2 (mA k_19) (mA k_37) (mA k_38) (hc_2) (fs := [.null, .null]) df_2 (by show _ ≤ 34; omega) (by show _ ≤ 1591; omega) d_K_init_83 (fun H hI => ?_)
      refine lv_dup F.1 F.2.1 d_K_init_86 (mw_cat _) ?_
      refine mt_aload_n F hl 1 rfl rfl d_K_init_87 ?_
      obtain ⟨b2, e_b2, h⟩ := mw_bind h
      obtain ⟨S3, e_S3, h⟩ := mw_bind h
      refine mw_callv hI (mw_runI F hK hI (c_T_init l D dA A _ _ _ _ e_S3) (cwI 1 F.2.2.2.2 (gd_I k_39) rfl rfl rfl (F.2.2.2.2 _ (mA k_38)) (F.2.2.2.2 _ (mA k_40)) (F.2.2.2.2 _ (mA k_41)) rfl hd_T_init ⟨Nat.le_of_ble_eq_true rfl, Nat.le_of_ble_eq_true rfl⟩) e_b2 rfl hl.1 rfl (by simp [mw_cat, mw_cI, mw_cL]) d_K_init_88 ⟨(by show _ ≤ 34; omega), (by show _ ≤ 1591; omega)⟩) (fun H locs hI => ?_)
      obtain ⟨S4, e_S4, h⟩ := mw_bind h
      refine mw_aast F hK hI (t0 := 4) (ci := 2) (q0 := cq_2) rfl rfl e_S4 d_K_init_91 (fun H locs hI => ?_)
      refine mt_iinc (v := (x2 + 1)) F hl 2 rfl (by rw [show Int32.ofInt 1 = (1 : Int32) from by decide]) (Nat.le_of_ble_eq_true rfl) rfl d_K_init_92 (fun ls hl => ?_)
      have hl : mt_L ls 3 [(2, (.inl (x2 + 1))), (0, (.inr (.inr (some b0)))), (1, (.inr (.inr r1)))] := hl
      refine lv_goto (tgt := 72) F.1 F.2.1 d_K_init_95 (by decide) ?_
      refine W.widen (k := 10 + (12 - k0) * 2) (n := 367 + (12 - k0) * 102) (by omega) (by omega) ?_
      exact (ih (by omega)) _ _ _ _ _ _ hI (mt_sub hl [1, 2, 0] rfl) h
set_option maxHeartbeats 4000000 in
set_option maxRecDepth 100000 in
theorem c_K_init (l : Launch) (D : va_G) (dA : Nat → ClassId) (A : Nat → Prop) (b0 : Nat) (S : mc_S) (out : mc_S) (hf : f_K_init b0 S = some out) : Met l y_K_init (cd_K_init :: ALL) rm_K_init (va_Pc [va_rf (some b0)] (mw_B D dA CL (TY dA) ZZ A S)) (va_Qv (fun (_ : Unit) => True) (fun _ t => mw_R D dA CL A out t) A) 34 1591 A := by
  refine mw_ofW (cc := b_K_init) (maxL := 3) (ret := none) [(.inr (.inr (some b0)))] rfl (by decide +kernel) (Nat.le_of_ble_eq_true rfl) (L := [(0, (.inr (.inr (some b0))))]) rfl (fun p e s m args below meth c F hr hlk hnm hK ls hl hI => ?_)
  have h := hf
  unfold f_K_init at h
  refine mt_aload_n F hl 0 rfl rfl d_K_init_0 ?_
  refine mw_objInit F (mA k_18) (mA k_1) (mA k_2) hl.1 d_K_init_1 (Nat.le_of_ble_eq_true rfl) (Nat.le_of_ble_eq_true rfl) ?_
  refine mt_aload_n F hl 0 rfl rfl d_K_init_4 ?_
  refine lv_bipush (v := 9) F.1 F.2.1 d_K_init_5 (by decide) ?_
  obtain ⟨S1, e_S1, h⟩ := mw_bind h
  refine mw_anew F hK hI (t0 := 4) (mA k_19) (List.mem_of_getElem? (i := 1) rfl) rfl e_S1 (by decide) (by show _ ≤ 34; omega) (by show _ ≤ 1591; omega) d_K_init_7 (fun H hI => ?_)
  obtain ⟨S2, e_S2, h⟩ := mw_bind h
  refine mw_putF F hK hI (in_0 _) ty_0 ok_0 nm_0 (hc_0) 1 (by decide) (mA k_20) rfl rfl hnm (mw_narA _ _) (mw_fitA _ _) e_S2 d_K_init_10 (fun H locs hI => ?_)
  refine mt_aload_n F hl 0 rfl rfl d_K_init_13 ?_
  refine lv_bipush (v := 9) F.1 F.2.1 d_K_init_14 (by decide) ?_
  obtain ⟨S3, e_S3, h⟩ := mw_bind h
  refine mw_newa F hK hI (t0 := 0) (mA k_5) rfl rfl (fun _ => rfl) e_S3 (fun _ => rfl) (by decide) (by show _ ≤ 34; omega) (by show _ ≤ 1591; omega) d_K_init_16 (fun H hI => ?_)
  obtain ⟨S4, e_S4, h⟩ := mw_bind h
  refine mw_putF F hK hI (in_0 _) ty_0 ok_0 nm_0 (hc_0) 2 (by decide) (mA k_21) rfl rfl hnm (mw_narA _ _) (mw_fitA _ _) e_S4 d_K_init_18 (fun H locs hI => ?_)
  refine mt_aload_n F hl 0 rfl rfl d_K_init_21 ?_
  refine mw_new F hK hI (in_3 _) ty_3 ok_3 (mA k_22) (mA k_23) (mA k_24) (hc_3) (fs := [.null, .null, .int 0]) df_3 (by show _ ≤ 34; omega) (by show _ ≤ 1591; omega) d_K_init_22 (fun H hI => ?_)
  refine lv_dup F.1 F.2.1 d_K_init_25 (mw_cat _) ?_
  obtain ⟨b5, e_b5, h⟩ := mw_bind h
  obtain ⟨S6, e_S6, h⟩ := mw_bind h
  refine mw_callv hI (mw_runIN F hK hI (c_R_init l D dA A _ _ _ e_S6) ⟨va_cnB 0 F.2.2.2.2 (gd_I k_25) rfl rfl rfl (hK.2.1 _ (List.mem_of_getElem? (i := 0) rfl)) (F.2.2.2.2 _ (mA k_24)) hd_R_init ⟨Nat.le_of_ble_eq_true rfl, Nat.le_of_ble_eq_true rfl⟩, rfl, F.2.2.2.2 _ (mA k_26)⟩ e_b5 rfl hl.1 rfl (by simp [mw_cat, mw_cI, mw_cL]) d_K_init_26 ⟨(by show _ ≤ 34; omega), (by show _ ≤ 1591; omega)⟩) (fun H locs hI => ?_)
  obtain ⟨S7, e_S7, h⟩ := mw_bind h
  refine mw_putF F hK hI (in_0 _) ty_0 ok_0 nm_0 (hc_0) 3 (by decide) (mA k_27) rfl rfl hnm (mw_narO _ _) (mw_fitO _ _) e_S7 d_K_init_29 (fun H locs hI => ?_)
  refine mt_aload_n F hl 0 rfl rfl d_K_init_32 ?_
  refine lv_iconst (v := 0) F.1 F.2.1 d_K_init_33 (by decide) ?_
  obtain ⟨S8, e_S8, h⟩ := mw_bind h
  refine mw_put F hK hI (in_0 _) ty_0 ok_0 nm_0 (hc_0) 4 (by decide) (mA k_28) rfl rfl rfl rfl e_S8 d_K_init_34 (fun H locs hI => ?_)
  refine mt_aload_n F hl 0 rfl rfl d_K_init_37 ?_
  refine lv_iconst (v := 0) F.1 F.2.1 d_K_init_38 (by decide) ?_
  obtain ⟨S9, e_S9, h⟩ := mw_bind h
  refine mw_put F hK hI (in_0 _) ty_0 ok_0 nm_0 (hc_0) 5 (by decide) (mA k_29) rfl rfl rfl rfl e_S9 d_K_init_39 (fun H locs hI => ?_)
  refine mt_aload_n F hl 0 rfl rfl d_K_init_42 ?_
  refine lv_iconst (v := 0) F.1 F.2.1 d_K_init_43 (by decide) ?_
  obtain ⟨S10, e_S10, h⟩ := mw_bind h
  refine mw_put F hK hI (in_0 _) ty_0 ok_0 nm_0 (hc_0) 6 (by decide) (mA k_30) rfl rfl rfl rfl e_S10 d_K_init_44 (fun H locs hI => ?_)
  refine mw_new F hK hI (in_1 _) ty_1 ok_1 (mA k_31) (mA k_32) (mA k_33) (hc_1) (fs := [.int 0, .null, .null, .int 0]) df_1 (by show _ ≤ 34; omega) (by show _ ≤ 1591; omega) d_K_init_47 (fun H hI => ?_)
  refine lv_dup F.1 F.2.1 d_K_init_50 (mw_cat _) ?_
  refine lv_iconst (v := 1) F.1 F.2.1 d_K_init_51 (by decide) ?_
  refine lv_bipush (v := 12) F.1 F.2.1 d_K_init_52 (by decide) ?_
  obtain ⟨b11, e_b11, h⟩ := mw_bind h
  obtain ⟨S12, e_S12, h⟩ := mw_bind h
  refine mw_callv hI (mw_runI F hK hI (c_S_init l D dA A _ _ _ _ _ e_S12) (cwI 2 F.2.2.2.2 (gd_I k_34) rfl rfl rfl (F.2.2.2.2 _ (mA k_33)) (F.2.2.2.2 _ (mA k_35)) (F.2.2.2.2 _ (mA k_36)) rfl hd_S_init ⟨Nat.le_of_ble_eq_true rfl, Nat.le_of_ble_eq_true rfl⟩) e_b11 rfl hl.1 rfl (by simp [mw_cat, mw_cI, mw_cL]) d_K_init_54 ⟨(by show _ ≤ 34; omega), (by show _ ≤ 1591; omega)⟩) (fun H locs hI => ?_)
  refine mt_astore_n F hl rfl (Nat.le_of_ble_eq_true rfl) rfl d_K_init_57 (fun ls hl => ?_)
  have hl : mt_L ls 3 [(1, (.inr (.inr (some S10.2)))), (0, (.inr (.inr (some b0))))] := hl
  refine mt_aload_n F hl 1 rfl rfl d_K_init_58 ?_
  refine mw_new F hK hI (in_2 _) ty_2 ok_2 (mA k_19) (mA k_37) (mA k_38) (hc_2) (fs := [.null, .null]) df_2 (by show _ ≤ 34; omega) (by show _ ≤ 1591; omega) d_K_init_59 (fun H hI => ?_)
  refine lv_dup F.1 F.2.1 d_K_init_62 (mw_cat _) ?_
  refine mt_aload_n F hl 0 rfl rfl d_K_init_63 ?_
  obtain ⟨b13, e_b13, h⟩ := mw_bind h
  obtain ⟨S14, e_S14, h⟩ := mw_bind h
  refine mw_callv hI (mw_runI F hK hI (c_T_init l D dA A _ _ _ _ e_S14) (cwI 1 F.2.2.2.2 (gd_I k_39) rfl rfl rfl (F.2.2.2.2 _ (mA k_38)) (F.2.2.2.2 _ (mA k_40)) (F.2.2.2.2 _ (mA k_41)) rfl hd_T_init ⟨Nat.le_of_ble_eq_true rfl, Nat.le_of_ble_eq_true rfl⟩) e_b13 rfl hl.1 rfl (by simp [mw_cat, mw_cI, mw_cL]) d_K_init_64 ⟨(by show _ ≤ 34; omega), (by show _ ≤ 1591; omega)⟩) (fun H locs hI => ?_)
  obtain ⟨S15, e_S15, h⟩ := mw_bind h
  refine mw_putF F hK hI (in_0 _) ty_0 ok_0 nm_0 (hc_0) 0 (by decide) (mA k_42) rfl rfl hnm (mw_narO _ _) (mw_fitO _ _) e_S15 d_K_init_67 (fun H locs hI => ?_)
  refine lv_iconst (v := 0) F.1 F.2.1 d_K_init_70 (by decide) ?_
  refine mt_istore_n F hl rfl (Nat.le_of_ble_eq_true rfl) rfl d_K_init_71 (fun ls hl => ?_)
  have hl : mt_L ls 3 [(2, (.inl 0)), (1, (.inr (.inr (some S10.2)))), (0, (.inr (.inr (some b0))))] := hl
  refine W.widen (k := 10 + (12 - 12) * 2) (n := 367 + (12 - 12) * 102) (by omega) (by omega) ?_
  exact (s_K_init l D dA A b0 F hr hlk hnm hK out 12 (Nat.le_refl _)) _ _ _ _ _ _ hI (mt_sub hl [2, 1, 0] rfl) h
abbrev rm_N_init : Room := { frames := 1, cells := 6, slots := 3024, locals := 12 }
set_option maxHeartbeats 4000000 in
set_option maxRecDepth 100000 in
theorem c_N_init (l : Launch) (D : va_G) (dA : Nat → ClassId) (A : Nat → Prop) (b0 : Nat) (S : mc_S) (out : mc_S) (hf : f_N_init b0 S = some out) : Met l y_N_init (cd_N_init :: ALL) rm_N_init (va_Pc [va_rf (some b0)] (mw_B D dA CL (TY dA) ZZ A S)) (va_Qv (fun (_ : Unit) => True) (fun _ t => mw_R D dA CL A out t) A) 6 3024 A := by
  refine mw_ofW (cc := b_N_init) (maxL := 1) (ret := none) [(.inr (.inr (some b0)))] rfl (by decide +kernel) (Nat.le_of_ble_eq_true rfl) (L := [(0, (.inr (.inr (some b0))))]) rfl (fun p e s m args below meth c F hr hlk hnm hK ls hl hI => ?_)
  have h := hf
  unfold f_N_init at h
  refine mt_aload_n F hl 0 rfl rfl d_N_init_0 ?_
  refine mw_objInit F (mA k_43) (mA k_1) (mA k_2) hl.1 d_N_init_1 (Nat.le_of_ble_eq_true rfl) (Nat.le_of_ble_eq_true rfl) ?_
  refine mt_aload_n F hl 0 rfl rfl d_N_init_4 ?_
  refine lv_bipush (v := 100) F.1 F.2.1 d_N_init_5 (by decide) ?_
  obtain ⟨S1, e_S1, h⟩ := mw_bind h
  refine mw_newa F hK hI (t0 := 0) (mA k_5) rfl rfl (fun _ => rfl) e_S1 (fun _ => rfl) (by decide) (Nat.le_of_ble_eq_true rfl) (Nat.le_of_ble_eq_true rfl) d_N_init_7 (fun H hI => ?_)
  obtain ⟨S2, e_S2, h⟩ := mw_bind h
  refine mw_putF F hK hI (in_5 _) ty_5 ok_5 nm_5 (hc_5) 0 (by decide) (mA k_44) rfl rfl hnm (mw_narA _ _) (mw_fitA _ _) e_S2 d_N_init_9 (fun H locs hI => ?_)
  refine mt_aload_n F hl 0 rfl rfl d_N_init_12 ?_
  refine lv_bipush (v := 100) F.1 F.2.1 d_N_init_13 (by decide) ?_
  obtain ⟨S3, e_S3, h⟩ := mw_bind h
  refine mw_newa F hK hI (t0 := 0) (mA k_5) rfl rfl (fun _ => rfl) e_S3 (fun _ => rfl) (by decide) (Nat.le_of_ble_eq_true rfl) (Nat.le_of_ble_eq_true rfl) d_N_init_15 (fun H hI => ?_)
  obtain ⟨S4, e_S4, h⟩ := mw_bind h
  refine mw_putF F hK hI (in_5 _) ty_5 ok_5 nm_5 (hc_5) 1 (by decide) (mA k_45) rfl rfl hnm (mw_narA _ _) (mw_fitA _ _) e_S4 d_N_init_17 (fun H locs hI => ?_)
  refine mt_aload_n F hl 0 rfl rfl d_N_init_20 ?_
  refine lv_sipush (v := 800) F.1 F.2.1 d_N_init_21 (by decide) ?_
  obtain ⟨S5, e_S5, h⟩ := mw_bind h
  refine mw_newa F hK hI (t0 := 0) (mA k_5) rfl rfl (fun _ => rfl) e_S5 (fun _ => rfl) (by decide) (Nat.le_of_ble_eq_true rfl) (Nat.le_of_ble_eq_true rfl) d_N_init_24 (fun H hI => ?_)
  obtain ⟨S6, e_S6, h⟩ := mw_bind h
  refine mw_putF F hK hI (in_5 _) ty_5 ok_5 nm_5 (hc_5) 2 (by decide) (mA k_46) rfl rfl hnm (mw_narA _ _) (mw_fitA _ _) e_S6 d_N_init_26 (fun H locs hI => ?_)
  refine mt_aload_n F hl 0 rfl rfl d_N_init_29 ?_
  refine lv_bipush (v := 12) F.1 F.2.1 d_N_init_30 (by decide) ?_
  obtain ⟨S7, e_S7, h⟩ := mw_bind h
  refine mw_newa F hK hI (t0 := 0) (mA k_5) rfl rfl (fun _ => rfl) e_S7 (fun _ => rfl) (by decide) (Nat.le_of_ble_eq_true rfl) (Nat.le_of_ble_eq_true rfl) d_N_init_32 (fun H hI => ?_)
  obtain ⟨S8, e_S8, h⟩ := mw_bind h
  refine mw_putF F hK hI (in_5 _) ty_5 ok_5 nm_5 (hc_5) 3 (by decide) (mA k_47) rfl rfl hnm (mw_narA _ _) (mw_fitA _ _) e_S8 d_N_init_34 (fun H locs hI => ?_)
  refine mt_aload_n F hl 0 rfl rfl d_N_init_37 ?_
  refine lv_sipush (v := 2000) F.1 F.2.1 d_N_init_38 (by decide) ?_
  obtain ⟨S9, e_S9, h⟩ := mw_bind h
  refine mw_newa F hK hI (t0 := 1) (mA k_12) rfl rfl (fun _ => rfl) e_S9 (fun _ => rfl) (by decide) (Nat.le_of_ble_eq_true rfl) (Nat.le_of_ble_eq_true rfl) d_N_init_41 (fun H hI => ?_)
  obtain ⟨S10, e_S10, h⟩ := mw_bind h
  refine mw_putF F hK hI (in_5 _) ty_5 ok_5 nm_5 (hc_5) 4 (by decide) (mA k_48) rfl rfl hnm (mw_narA _ _) (mw_fitA _ _) e_S10 d_N_init_43 (fun H locs hI => ?_)
  refine mt_aload_n F hl 0 rfl rfl d_N_init_46 ?_
  refine lv_bipush (v := 12) F.1 F.2.1 d_N_init_47 (by decide) ?_
  obtain ⟨S11, e_S11, h⟩ := mw_bind h
  refine mw_newa F hK hI (t0 := 1) (mA k_12) rfl rfl (fun _ => rfl) e_S11 (fun _ => rfl) (by decide) (Nat.le_of_ble_eq_true rfl) (Nat.le_of_ble_eq_true rfl) d_N_init_49 (fun H hI => ?_)
  obtain ⟨S12, e_S12, h⟩ := mw_bind h
  refine mw_putF F hK hI (in_5 _) ty_5 ok_5 nm_5 (hc_5) 5 (by decide) (mA k_49) rfl rfl hnm (mw_narA _ _) (mw_fitA _ _) e_S12 d_N_init_51 (fun H locs hI => ?_)
  exact mw_vret F hI hr hlk h (Nat.le_of_ble_eq_true rfl) (Nat.le_of_ble_eq_true rfl) d_N_init_54
abbrev rm_M_init : Room := { frames := 2, cells := 108, slots := 45688, locals := 32 }
set_option maxHeartbeats 4000000 in
set_option maxRecDepth 100000 in
theorem s_M_init (l : Launch) (D : va_G) (dA : Nat → ClassId) (A : Nat → Prop) (b0 : Nat) {p : Program} {e : Env} {s : State} {m : MethodId} {args : Array Value} {below : List Frame} {meth : Method} {c : Code} (F : CallFix p m c b_M_init 2 s args (cd_M_init :: ALL) y_M_init.cls) (hr : meth.sig.returnType = none) (hlk : meth.locks = false) (hnm : meth.name = y_M_init.name) (hK : mw_K D CL (TY dA) ZZ s) (out : mc_S) : ∀ n : Nat, n ≤ 12 → (∀ (x1 : Int32) (S : mc_S) (H : Heap) (locs : List Loc) (ls : Array Slot), mw_I D dA CL A S s.heap H locs → mt_L ls 2 [(0, (.inr (.inr (some b0)))), (1, (.inl x1))] → g_M_init b0 n x1 S = some out → W p l e rm_M_init s m args below meth c H locs (24 + (12 - n) * 7) (9304 + (12 - n) * 3032) (MQ below (va_Qv (fun (_ : Unit) => True) (fun _ t => mw_R D dA CL A out t) A) args s 108 45688 A) (F0 m 64 ls [])) := by
  intro n
  induction n with
  | zero =>
    intro _
    intro x1 S H locs ls hI hl h; have h : (none : Option mc_S) = some out := h; cases h
  | succ k0 ih =>
    intro hn0
    intro x1 S H locs ls hI hl h
    have h : q_M_init_0 b0 (g_M_init b0 k0) x1 S = some out := h
    unfold q_M_init_0 at h
    refine mt_iload_n F hl 1 rfl rfl d_M_init_64 ?_
    refine lv_bipush (v := 8) F.1 F.2.1 d_M_init_65 (by decide) ?_
    refine lv_icmp_ge (tgt := 89) F.1 F.2.1 d_M_init_67 (by decide) (fun hc => ?_) (fun hc => ?_)
    · rw [if_pos hc] at h
      exact mw_vret F hI hr hlk h (by show _ ≤ 108; omega) (by show _ ≤ 45688; omega) d_M_init_89
    · rw [if_neg hc] at h
      refine mt_aload_n F hl 0 rfl rfl d_M_init_70 ?_
      obtain ⟨v1, e_v1, h⟩ := mw_bind h
      refine mw_getR F hK hI (in_4 _) (hc_4) 3 (by decide) (mA k_59) rfl e_v1 d_M_init_71 ?_
      refine mt_iload_n F hl 1 rfl rfl d_M_init_74 ?_
      refine mw_new F hK hI (in_5 _) ty_5 ok_5 (mA k_51) (mA k_52) (mA k_53) (hc_5) (fs := [.null, .null, .null, .null, .null, .null, .int 0, .int 0]) df_5 (by show _ ≤ 108; omega) (by show _ ≤ 45688; omega) d_M_init_75 (fun H hI => ?_)
      refine lv_dup F.1 F.2.1 d_M_init_78 (mw_cat _) ?_
      obtain ⟨b2, e_b2, h⟩ := mw_bind h
      obtain ⟨S3, e_S3, h⟩ := mw_bind h
      refine mw_callv hI (mw_runIN F hK hI (c_N_init l D dA A _ _ _ e_S3) ⟨va_cnB 0 F.2.2.2.2 (gd_I k_54) rfl rfl rfl (hK.2.1 _ (List.mem_of_getElem? (i := 1) rfl)) (F.2.2.2.2 _ (mA k_53)) hd_N_init ⟨Nat.le_of_ble_eq_true rfl, Nat.le_of_ble_eq_true rfl⟩, rfl, F.2.2.2.2 _ (mA k_55)⟩ e_b2 rfl hl.1 rfl (by simp [mw_cat, mw_cI, mw_cL]) d_M_init_79 ⟨(by show _ ≤ 108; omega), (by show _ ≤ 45688; omega)⟩) (fun H locs hI => ?_)
      obtain ⟨S4, e_S4, h⟩ := mw_bind h
      refine mw_aast F hK hI (t0 := 5) (ci := 5) (q0 := cq_5) rfl rfl e_S4 d_M_init_82 (fun H locs hI => ?_)
      refine mt_iinc (v := (x1 + 1)) F hl 1 rfl (by rw [show Int32.ofInt 1 = (1 : Int32) from by decide]) (Nat.le_of_ble_eq_true rfl) rfl d_M_init_83 (fun ls hl => ?_)
      have hl : mt_L ls 2 [(1, (.inl (x1 + 1))), (0, (.inr (.inr (some b0))))] := hl
      refine lv_goto (tgt := 64) F.1 F.2.1 d_M_init_86 (by decide) ?_
      refine W.widen (k := 24 + (12 - k0) * 7) (n := 9304 + (12 - k0) * 3032) (by omega) (by omega) ?_
      exact (ih (by omega)) _ _ _ _ _ hI (mt_sub hl [1, 0] rfl) h
set_option maxHeartbeats 4000000 in
set_option maxRecDepth 100000 in
theorem c_M_init (l : Launch) (D : va_G) (dA : Nat → ClassId) (A : Nat → Prop) (b0 : Nat) (S : mc_S) (out : mc_S) (hf : f_M_init b0 S = some out) : Met l y_M_init (cd_M_init :: ALL) rm_M_init (va_Pc [va_rf (some b0)] (mw_B D dA CL (TY dA) ZZ A S)) (va_Qv (fun (_ : Unit) => True) (fun _ t => mw_R D dA CL A out t) A) 108 45688 A := by
  refine mw_ofW (cc := b_M_init) (maxL := 2) (ret := none) [(.inr (.inr (some b0)))] rfl (by decide +kernel) (Nat.le_of_ble_eq_true rfl) (L := [(0, (.inr (.inr (some b0))))]) rfl (fun p e s m args below meth c F hr hlk hnm hK ls hl hI => ?_)
  have h := hf
  unfold f_M_init at h
  refine mt_aload_n F hl 0 rfl rfl d_M_init_0 ?_
  refine mw_objInit F (mA k_50) (mA k_1) (mA k_2) hl.1 d_M_init_1 (Nat.le_of_ble_eq_true rfl) (Nat.le_of_ble_eq_true rfl) ?_
  refine mt_aload_n F hl 0 rfl rfl d_M_init_4 ?_
  refine mw_new F hK hI (in_5 _) ty_5 ok_5 (mA k_51) (mA k_52) (mA k_53) (hc_5) (fs := [.null, .null, .null, .null, .null, .null, .int 0, .int 0]) df_5 (by show _ ≤ 108; omega) (by show _ ≤ 45688; omega) d_M_init_5 (fun H hI => ?_)
  refine lv_dup F.1 F.2.1 d_M_init_8 (mw_cat _) ?_
  obtain ⟨b1, e_b1, h⟩ := mw_bind h
  obtain ⟨S2, e_S2, h⟩ := mw_bind h
  refine mw_callv hI (mw_runIN F hK hI (c_N_init l D dA A _ _ _ e_S2) ⟨va_cnB 0 F.2.2.2.2 (gd_I k_54) rfl rfl rfl (hK.2.1 _ (List.mem_of_getElem? (i := 1) rfl)) (F.2.2.2.2 _ (mA k_53)) hd_N_init ⟨Nat.le_of_ble_eq_true rfl, Nat.le_of_ble_eq_true rfl⟩, rfl, F.2.2.2.2 _ (mA k_55)⟩ e_b1 rfl hl.1 rfl (by simp [mw_cat, mw_cI, mw_cL]) d_M_init_9 ⟨(by show _ ≤ 108; omega), (by show _ ≤ 45688; omega)⟩) (fun H locs hI => ?_)
  obtain ⟨S3, e_S3, h⟩ := mw_bind h
  refine mw_putF F hK hI (in_4 _) ty_4 ok_4 nm_4 (hc_4) 0 (by decide) (mA k_56) rfl rfl hnm (mw_narO _ _) (mw_fitO _ _) e_S3 d_M_init_12 (fun H locs hI => ?_)
  refine mt_aload_n F hl 0 rfl rfl d_M_init_15 ?_
  refine mw_new F hK hI (in_5 _) ty_5 ok_5 (mA k_51) (mA k_52) (mA k_53) (hc_5) (fs := [.null, .null, .null, .null, .null, .null, .int 0, .int 0]) df_5 (by show _ ≤ 108; omega) (by show _ ≤ 45688; omega) d_M_init_16 (fun H hI => ?_)
  refine lv_dup F.1 F.2.1 d_M_init_19 (mw_cat _) ?_
  obtain ⟨b4, e_b4, h⟩ := mw_bind h
  obtain ⟨S5, e_S5, h⟩ := mw_bind h
  refine mw_callv hI (mw_runIN F hK hI (c_N_init l D dA A _ _ _ e_S5) ⟨va_cnB 0 F.2.2.2.2 (gd_I k_54) rfl rfl rfl (hK.2.1 _ (List.mem_of_getElem? (i := 1) rfl)) (F.2.2.2.2 _ (mA k_53)) hd_N_init ⟨Nat.le_of_ble_eq_true rfl, Nat.le_of_ble_eq_true rfl⟩, rfl, F.2.2.2.2 _ (mA k_55)⟩ e_b4 rfl hl.1 rfl (by simp [mw_cat, mw_cI, mw_cL]) d_M_init_20 ⟨(by show _ ≤ 108; omega), (by show _ ≤ 45688; omega)⟩) (fun H locs hI => ?_)
  obtain ⟨S6, e_S6, h⟩ := mw_bind h
  refine mw_putF F hK hI (in_4 _) ty_4 ok_4 nm_4 (hc_4) 1 (by decide) (mA k_57) rfl rfl hnm (mw_narO _ _) (mw_fitO _ _) e_S6 d_M_init_23 (fun H locs hI => ?_)
  refine mt_aload_n F hl 0 rfl rfl d_M_init_26 ?_
  refine mw_new F hK hI (in_5 _) ty_5 ok_5 (mA k_51) (mA k_52) (mA k_53) (hc_5) (fs := [.null, .null, .null, .null, .null, .null, .int 0, .int 0]) df_5 (by show _ ≤ 108; omega) (by show _ ≤ 45688; omega) d_M_init_27 (fun H hI => ?_)
  refine lv_dup F.1 F.2.1 d_M_init_30 (mw_cat _) ?_
  obtain ⟨b7, e_b7, h⟩ := mw_bind h
  obtain ⟨S8, e_S8, h⟩ := mw_bind h
  refine mw_callv hI (mw_runIN F hK hI (c_N_init l D dA A _ _ _ e_S8) ⟨va_cnB 0 F.2.2.2.2 (gd_I k_54) rfl rfl rfl (hK.2.1 _ (List.mem_of_getElem? (i := 1) rfl)) (F.2.2.2.2 _ (mA k_53)) hd_N_init ⟨Nat.le_of_ble_eq_true rfl, Nat.le_of_ble_eq_true rfl⟩, rfl, F.2.2.2.2 _ (mA k_55)⟩ e_b7 rfl hl.1 rfl (by simp [mw_cat, mw_cI, mw_cL]) d_M_init_31 ⟨(by show _ ≤ 108; omega), (by show _ ≤ 45688; omega)⟩) (fun H locs hI => ?_)
  obtain ⟨S9, e_S9, h⟩ := mw_bind h
  refine mw_putF F hK hI (in_4 _) ty_4 ok_4 nm_4 (hc_4) 2 (by decide) (mA k_58) rfl rfl hnm (mw_narO _ _) (mw_fitO _ _) e_S9 d_M_init_34 (fun H locs hI => ?_)
  refine mt_aload_n F hl 0 rfl rfl d_M_init_37 ?_
  refine lv_bipush (v := 8) F.1 F.2.1 d_M_init_38 (by decide) ?_
  obtain ⟨S10, e_S10, h⟩ := mw_bind h
  refine mw_anew F hK hI (t0 := 5) (mA k_51) (List.mem_of_getElem? (i := 2) rfl) rfl e_S10 (by decide) (by show _ ≤ 108; omega) (by show _ ≤ 45688; omega) d_M_init_40 (fun H hI => ?_)
  obtain ⟨S11, e_S11, h⟩ := mw_bind h
  refine mw_putF F hK hI (in_4 _) ty_4 ok_4 nm_4 (hc_4) 3 (by decide) (mA k_59) rfl rfl hnm (mw_narA _ _) (mw_fitA _ _) e_S11 d_M_init_43 (fun H locs hI => ?_)
  refine mt_aload_n F hl 0 rfl rfl d_M_init_46 ?_
  refine lv_bipush (v := 100) F.1 F.2.1 d_M_init_47 (by decide) ?_
  obtain ⟨S12, e_S12, h⟩ := mw_bind h
  refine mw_newa F hK hI (t0 := 2) (mA k_3) rfl rfl (fun _ => rfl) e_S12 (fun _ => rfl) (by decide) (by show _ ≤ 108; omega) (by show _ ≤ 45688; omega) d_M_init_49 (fun H hI => ?_)
  obtain ⟨S13, e_S13, h⟩ := mw_bind h
  refine mw_putF F hK hI (in_4 _) ty_4 ok_4 nm_4 (hc_4) 6 (by decide) (mA k_60) rfl rfl hnm (mw_narA _ _) (mw_fitA _ _) e_S13 d_M_init_51 (fun H locs hI => ?_)
  refine mt_aload_n F hl 0 rfl rfl d_M_init_54 ?_
  refine lv_bipush (v := 100) F.1 F.2.1 d_M_init_55 (by decide) ?_
  obtain ⟨S14, e_S14, h⟩ := mw_bind h
  refine mw_newa F hK hI (t0 := 0) (mA k_5) rfl rfl (fun _ => rfl) e_S14 (fun _ => rfl) (by decide) (by show _ ≤ 108; omega) (by show _ ≤ 45688; omega) d_M_init_57 (fun H hI => ?_)
  obtain ⟨S15, e_S15, h⟩ := mw_bind h
  refine mw_putF F hK hI (in_4 _) ty_4 ok_4 nm_4 (hc_4) 7 (by decide) (mA k_61) rfl rfl hnm (mw_narA _ _) (mw_fitA _ _) e_S15 d_M_init_59 (fun H locs hI => ?_)
  refine lv_iconst (v := 0) F.1 F.2.1 d_M_init_62 (by decide) ?_
  refine mt_istore_n F hl rfl (Nat.le_of_ble_eq_true rfl) rfl d_M_init_63 (fun ls hl => ?_)
  have hl : mt_L ls 2 [(1, (.inl 0)), (0, (.inr (.inr (some b0))))] := hl
  refine W.widen (k := 24 + (12 - 12) * 7) (n := 9304 + (12 - 12) * 3032) (by omega) (by omega) ?_
  exact (s_M_init l D dA A b0 F hr hlk hnm hK out 12 (Nat.le_refl _)) _ _ _ _ _ hI (mt_sub hl [1, 0] rfl) h
abbrev rm_K_make : Room := { frames := 2, cells := 3, slots := 44, locals := 34 }
set_option maxHeartbeats 4000000 in
set_option maxRecDepth 100000 in
theorem s_K_make (l : Launch) (D : va_G) (dA : Nat → ClassId) (A : Nat → Prop) (b0 : Nat) {p : Program} {e : Env} {s : State} {m : MethodId} {args : Array Value} {below : List Frame} {meth : Method} {c : Code} (F : CallFix p m c b_K_make 3 s args (cd_K_make :: ALL) y_K_make.cls) (hr : meth.sig.returnType = (some .int)) (hlk : meth.locks = false) (hnm : meth.name = y_K_make.name) (hK : mw_K D CL (TY dA) ZZ s) (out : (Int32 × mc_S)) : ∀ n : Nat, (∀ (x1 : Int32) (x2 : Int32) (S : mc_S) (H : Heap) (locs : List Loc) (ls : Array Slot), mw_I D dA CL A S s.heap H locs → mt_L ls 3 [(0, (.inr (.inr (some b0)))), (1, (.inl x1)), (2, (.inl x2))] → g_K_make b0 n x1 x2 S = some out → W p l e rm_K_make s m args below meth c H locs (0) (0) (MQ below (va_Qi (fun x (_ : Unit) => x = out.1) (fun _ t => mw_R D dA CL A out.2 t) A) args s 3 44 A) (F0 m 2 ls [])) := by
  intro n
  induction n with
  | zero =>
    intro x1 x2 S H locs ls hI hl h; have h : (none : Option (Int32 × mc_S)) = some out := h; cases h
  | succ k0 ih =>
    intro x1 x2 S H locs ls hI hl h
    have h : q_K_make_0 b0 (g_K_make b0 k0) x1 x2 S = some out := h
    unfold q_K_make_0 at h
    refine mt_iload_n F hl 2 rfl rfl d_K_make_2 ?_
    refine lv_bipush (v := 100) F.1 F.2.1 d_K_make_3 (by decide) ?_
    refine lv_icmp_ge (tgt := 64) F.1 F.2.1 d_K_make_5 (by decide) (fun hc => ?_) (fun hc => ?_)
    · rw [if_pos hc] at h
      refine lv_bipush (v := (-3)) F.1 F.2.1 d_K_make_64 (by decide) ?_
      exact mw_iret F hI hr hlk h (Nat.le_of_ble_eq_true rfl) (Nat.le_of_ble_eq_true rfl) d_K_make_66
    · rw [if_neg hc] at h
      refine mt_aload_n F hl 0 rfl rfl d_K_make_8 ?_
      obtain ⟨v1, e_v1, h⟩ := mw_bind h
      refine mw_getR F hK hI (in_0 _) (hc_0) 0 (by decide) (mA k_42) rfl e_v1 d_K_make_9 ?_
      obtain ⟨v2, e_v2, h⟩ := mw_bind h
      refine mw_getR F hK hI (in_2 _) (hc_2) 0 (by decide) (mA k_62) rfl e_v2 d_K_make_12 ?_
      refine mt_iload_n F hl 2 rfl rfl d_K_make_15 ?_
      obtain ⟨v3, e_v3, h⟩ := mw_bind h
      refine mw_aald F hK hI (t0 := 3) rfl e_v3 d_K_make_16 ?_
      refine mw_ifnonnull (tgt := 58) F d_K_make_17 (by decide) (fun hc => ?_) (fun hc => ?_)
      · rw [if_neg hc] at h
        refine mt_iinc (v := (x2 + 1)) F hl 2 rfl (by rw [show Int32.ofInt 1 = (1 : Int32) from by decide]) (Nat.le_of_ble_eq_true rfl) rfl d_K_make_58 (fun ls hl => ?_)
        have hl : mt_L ls 3 [(2, (.inl (x2 + 1))), (0, (.inr (.inr (some b0)))), (1, (.inl x1))] := hl
        refine lv_goto (tgt := 2) F.1 F.2.1 d_K_make_61 (by decide) ?_
        refine W.widen (k := 0) (n := 0) (Nat.le_of_ble_eq_true rfl) (Nat.le_of_ble_eq_true rfl) ?_
        exact ih _ _ _ _ _ _ hI (mt_sub hl [1, 2, 0] rfl) h
      · rw [if_pos hc] at h
        refine mt_aload_n F hl 0 rfl rfl d_K_make_20 ?_
        obtain ⟨v4, e_v4, h⟩ := mw_bind h
        refine mw_getR F hK hI (in_0 _) (hc_0) 0 (by decide) (mA k_42) rfl e_v4 d_K_make_21 ?_
        obtain ⟨v5, e_v5, h⟩ := mw_bind h
        refine mw_getR F hK hI (in_2 _) (hc_2) 0 (by decide) (mA k_62) rfl e_v5 d_K_make_24 ?_
        refine mt_iload_n F hl 2 rfl rfl d_K_make_27 ?_
        refine mt_iload_n F hl 1 rfl rfl d_K_make_28 ?_
        refine lv_if_eq (tgt := 45) F.1 F.2.1 d_K_make_29 (by decide) (fun hc => ?_) (fun hc => ?_)
        · rw [if_pos hc] at h
          refine mw_new F hK hI (in_1 _) ty_1 ok_1 (mA k_31) (mA k_32) (mA k_33) (hc_1) (fs := [.int 0, .null, .null, .int 0]) df_1 (Nat.le_of_ble_eq_true rfl) (Nat.le_of_ble_eq_true rfl) d_K_make_45 (fun H hI => ?_)
          refine lv_dup F.1 F.2.1 d_K_make_48 (mw_cat _) ?_
          refine lv_iconst (v := 1) F.1 F.2.1 d_K_make_49 (by decide) ?_
          refine lv_bipush (v := 8) F.1 F.2.1 d_K_make_50 (by decide) ?_
          obtain ⟨b6, e_b6, h⟩ := mw_bind h
          obtain ⟨S7, e_S7, h⟩ := mw_bind h
          refine mw_callv hI (mw_runI F hK hI (c_S_init l D dA A _ _ _ _ _ e_S7) (cwI 2 F.2.2.2.2 (gd_I k_34) rfl rfl rfl (F.2.2.2.2 _ (mA k_33)) (F.2.2.2.2 _ (mA k_35)) (F.2.2.2.2 _ (mA k_36)) rfl hd_S_init ⟨Nat.le_of_ble_eq_true rfl, Nat.le_of_ble_eq_true rfl⟩) e_b6 rfl hl.1 rfl (by simp [mw_cat, mw_cI, mw_cL]) d_K_make_52 ⟨(Nat.le_of_ble_eq_true rfl), (Nat.le_of_ble_eq_true rfl)⟩) (fun H locs hI => ?_)
          obtain ⟨S8, e_S8, h⟩ := mw_bind h
          refine mw_aast F hK hI (t0 := 3) (ci := 1) (q0 := cq_1) rfl rfl e_S8 d_K_make_55 (fun H locs hI => ?_)
          refine mt_iload_n F hl 2 rfl rfl d_K_make_56 ?_
          exact mw_iret F hI hr hlk h (Nat.le_of_ble_eq_true rfl) (Nat.le_of_ble_eq_true rfl) d_K_make_57
        · rw [if_neg hc] at h
          refine mw_new F hK hI (in_1 _) ty_1 ok_1 (mA k_31) (mA k_32) (mA k_33) (hc_1) (fs := [.int 0, .null, .null, .int 0]) df_1 (Nat.le_of_ble_eq_true rfl) (Nat.le_of_ble_eq_true rfl) d_K_make_32 (fun H hI => ?_)
          refine lv_dup F.1 F.2.1 d_K_make_35 (mw_cat _) ?_
          refine lv_iconst (v := 2) F.1 F.2.1 d_K_make_36 (by decide) ?_
          refine lv_bipush (v := 20) F.1 F.2.1 d_K_make_37 (by decide) ?_
          obtain ⟨b9, e_b9, h⟩ := mw_bind h
          obtain ⟨S10, e_S10, h⟩ := mw_bind h
          refine mw_callv hI (mw_runI F hK hI (c_S_init l D dA A _ _ _ _ _ e_S10) (cwI 2 F.2.2.2.2 (gd_I k_34) rfl rfl rfl (F.2.2.2.2 _ (mA k_33)) (F.2.2.2.2 _ (mA k_35)) (F.2.2.2.2 _ (mA k_36)) rfl hd_S_init ⟨Nat.le_of_ble_eq_true rfl, Nat.le_of_ble_eq_true rfl⟩) e_b9 rfl hl.1 rfl (by simp [mw_cat, mw_cI, mw_cL]) d_K_make_39 ⟨(Nat.le_of_ble_eq_true rfl), (Nat.le_of_ble_eq_true rfl)⟩) (fun H locs hI => ?_)
          refine lv_goto (tgt := 55) F.1 F.2.1 d_K_make_42 (by decide) ?_
          obtain ⟨S11, e_S11, h⟩ := mw_bind h
          refine mw_aast F hK hI (t0 := 3) (ci := 1) (q0 := cq_1) rfl rfl e_S11 d_K_make_55 (fun H locs hI => ?_)
          refine mt_iload_n F hl 2 rfl rfl d_K_make_56 ?_
          exact mw_iret F hI hr hlk h (Nat.le_of_ble_eq_true rfl) (Nat.le_of_ble_eq_true rfl) d_K_make_57
set_option maxHeartbeats 4000000 in
set_option maxRecDepth 100000 in
theorem c_K_make (l : Launch) (D : va_G) (dA : Nat → ClassId) (A : Nat → Prop) (b0 : Nat) (a1 : Int32) (S : mc_S) (out : (Int32 × mc_S)) (hf : f_K_make b0 a1 S = some out) : Met l y_K_make (cd_K_make :: ALL) rm_K_make (va_Pc [va_rf (some b0), .int a1] (mw_B D dA CL (TY dA) ZZ A S)) (va_Qi (fun x (_ : Unit) => x = out.1) (fun _ t => mw_R D dA CL A out.2 t) A) 3 44 A := by
  refine mw_ofW (cc := b_K_make) (maxL := 3) (ret := (some .int)) [(.inr (.inr (some b0))), (.inl a1)] rfl (by decide +kernel) (Nat.le_of_ble_eq_true rfl) (L := [(0, (.inr (.inr (some b0)))), (1, (.inl a1))]) rfl (fun p e s m args below meth c F hr hlk hnm hK ls hl hI => ?_)
  have h := hf
  unfold f_K_make at h
  refine lv_iconst (v := 0) F.1 F.2.1 d_K_make_0 (by decide) ?_
  refine mt_istore_n F hl rfl (Nat.le_of_ble_eq_true rfl) rfl d_K_make_1 (fun ls hl => ?_)
  have hl : mt_L ls 3 [(2, (.inl 0)), (0, (.inr (.inr (some b0)))), (1, (.inl a1))] := hl
  refine W.widen (k := 0) (n := 0) (Nat.le_of_ble_eq_true rfl) (Nat.le_of_ble_eq_true rfl) ?_
  exact (s_K_make l D dA A b0 F hr hlk hnm hK out 5000) _ _ _ _ _ _ hI (mt_sub hl [1, 2, 0] rfl) h
abbrev rm_M_make : Room := { frames := 0, cells := 0, slots := 0, locals := 0 }
set_option maxHeartbeats 4000000 in
set_option maxRecDepth 100000 in
theorem s_M_make (l : Launch) (D : va_G) (dA : Nat → ClassId) (A : Nat → Prop) (b0 : Nat) {p : Program} {e : Env} {s : State} {m : MethodId} {args : Array Value} {below : List Frame} {meth : Method} {c : Code} (F : CallFix p m c b_M_make 3 s args (cd_M_make :: ALL) y_M_make.cls) (hr : meth.sig.returnType = (some .int)) (hlk : meth.locks = false) (hnm : meth.name = y_M_make.name) (hK : mw_K D CL (TY dA) ZZ s) (out : (Int32 × mc_S)) : ∀ n : Nat, (∀ (x1 : Int32) (x2 : Int32) (S : mc_S) (H : Heap) (locs : List Loc) (ls : Array Slot), mw_I D dA CL A S s.heap H locs → mt_L ls 3 [(0, (.inr (.inr (some b0)))), (1, (.inl x1)), (2, (.inl x2))] → g_M_make b0 n x1 x2 S = some out → W p l e rm_M_make s m args below meth c H locs (0) (0) (MQ below (va_Qi (fun x (_ : Unit) => x = out.1) (fun _ t => mw_R D dA CL A out.2 t) A) args s 0 0 A) (F0 m 2 ls [])) := by
  intro n
  induction n with
  | zero =>
    intro x1 x2 S H locs ls hI hl h; have h : (none : Option (Int32 × mc_S)) = some out := h; cases h
  | succ k0 ih =>
    intro x1 x2 S H locs ls hI hl h
    have h : q_M_make_0 b0 (g_M_make b0 k0) x1 x2 S = some out := h
    unfold q_M_make_0 at h
    refine mt_iload_n F hl 2 rfl rfl d_M_make_2 ?_
    refine lv_bipush (v := 100) F.1 F.2.1 d_M_make_3 (by decide) ?_
    refine lv_icmp_ge (tgt := 59) F.1 F.2.1 d_M_make_5 (by decide) (fun hc => ?_) (fun hc => ?_)
    · rw [if_pos hc] at h
      refine lv_bipush (v := (-3)) F.1 F.2.1 d_M_make_59 (by decide) ?_
      exact mw_iret F hI hr hlk h (Nat.le_of_ble_eq_true rfl) (Nat.le_of_ble_eq_true rfl) d_M_make_61
    · rw [if_neg hc] at h
      refine mt_aload_n F hl 0 rfl rfl d_M_make_8 ?_
      obtain ⟨v1, e_v1, h⟩ := mw_bind h
      refine mw_getR F hK hI (in_4 _) (hc_4) 0 (by decide) (mA k_56) rfl e_v1 d_M_make_9 ?_
      obtain ⟨v2, e_v2, h⟩ := mw_bind h
      refine mw_getR F hK hI (in_5 _) (hc_5) 0 (by decide) (mA k_63) rfl e_v2 d_M_make_12 ?_
      refine mt_iload_n F hl 2 rfl rfl d_M_make_15 ?_
      obtain ⟨v3, e_v3, h⟩ := mw_bind h
      refine mw_iald F hK hI (t0 := 0) rfl e_v3 d_M_make_16 ?_
      refine lv_if_eq (tgt := 23) F.1 F.2.1 d_M_make_17 (by decide) (fun hc => ?_) (fun hc => ?_)
      · rw [if_pos hc] at h
        refine mt_aload_n F hl 0 rfl rfl d_M_make_23 ?_
        obtain ⟨v4, e_v4, h⟩ := mw_bind h
        refine mw_getR F hK hI (in_4 _) (hc_4) 0 (by decide) (mA k_56) rfl e_v4 d_M_make_24 ?_
        obtain ⟨v5, e_v5, h⟩ := mw_bind h
        refine mw_getR F hK hI (in_5 _) (hc_5) 0 (by decide) (mA k_63) rfl e_v5 d_M_make_27 ?_
        refine mt_iload_n F hl 2 rfl rfl d_M_make_30 ?_
        refine mt_iload_n F hl 1 rfl rfl d_M_make_31 ?_
        refine lv_if_eq (tgt := 39) F.1 F.2.1 d_M_make_32 (by decide) (fun hc => ?_) (fun hc => ?_)
        · rw [if_pos hc] at h
          refine lv_iconst (v := 1) F.1 F.2.1 d_M_make_39 (by decide) ?_
          obtain ⟨S6, e_S6, h⟩ := mw_bind h
          refine mw_iast F hK hI (t0 := 0) rfl e_S6 d_M_make_40 (fun H locs hI => ?_)
          refine mt_aload_n F hl 0 rfl rfl d_M_make_41 ?_
          obtain ⟨v7, e_v7, h⟩ := mw_bind h
          refine mw_getR F hK hI (in_4 _) (hc_4) 0 (by decide) (mA k_56) rfl e_v7 d_M_make_42 ?_
          obtain ⟨v8, e_v8, h⟩ := mw_bind h
          refine mw_getR F hK hI (in_5 _) (hc_5) 1 (by decide) (mA k_64) rfl e_v8 d_M_make_45 ?_
          refine mt_iload_n F hl 2 rfl rfl d_M_make_48 ?_
          refine lv_iconst (v := 0) F.1 F.2.1 d_M_make_49 (by decide) ?_
          obtain ⟨S9, e_S9, h⟩ := mw_bind h
          refine mw_iast F hK hI (t0 := 0) rfl e_S9 d_M_make_50 (fun H locs hI => ?_)
          refine mt_iload_n F hl 2 rfl rfl d_M_make_51 ?_
          exact mw_iret F hI hr hlk h (Nat.le_of_ble_eq_true rfl) (Nat.le_of_ble_eq_true rfl) d_M_make_52
        · rw [if_neg hc] at h
          refine lv_iconst (v := 2) F.1 F.2.1 d_M_make_35 (by decide) ?_
          refine lv_goto (tgt := 40) F.1 F.2.1 d_M_make_36 (by decide) ?_
          obtain ⟨S10, e_S10, h⟩ := mw_bind h
          refine mw_iast F hK hI (t0 := 0) rfl e_S10 d_M_make_40 (fun H locs hI => ?_)
          refine mt_aload_n F hl 0 rfl rfl d_M_make_41 ?_
          obtain ⟨v11, e_v11, h⟩ := mw_bind h
          refine mw_getR F hK hI (in_4 _) (hc_4) 0 (by decide) (mA k_56) rfl e_v11 d_M_make_42 ?_
          obtain ⟨v12, e_v12, h⟩ := mw_bind h
          refine mw_getR F hK hI (in_5 _) (hc_5) 1 (by decide) (mA k_64) rfl e_v12 d_M_make_45 ?_
          refine mt_iload_n F hl 2 rfl rfl d_M_make_48 ?_
          refine lv_iconst (v := 0) F.1 F.2.1 d_M_make_49 (by decide) ?_
          obtain ⟨S13, e_S13, h⟩ := mw_bind h
          refine mw_iast F hK hI (t0 := 0) rfl e_S13 d_M_make_50 (fun H locs hI => ?_)
          refine mt_iload_n F hl 2 rfl rfl d_M_make_51 ?_
          exact mw_iret F hI hr hlk h (Nat.le_of_ble_eq_true rfl) (Nat.le_of_ble_eq_true rfl) d_M_make_52
      · rw [if_neg hc] at h
        refine lv_goto (tgt := 53) F.1 F.2.1 d_M_make_20 (by decide) ?_
        refine mt_iinc (v := (x2 + 1)) F hl 2 rfl (by rw [show Int32.ofInt 1 = (1 : Int32) from by decide]) (Nat.le_of_ble_eq_true rfl) rfl d_M_make_53 (fun ls hl => ?_)
        have hl : mt_L ls 3 [(2, (.inl (x2 + 1))), (0, (.inr (.inr (some b0)))), (1, (.inl x1))] := hl
        refine lv_goto (tgt := 2) F.1 F.2.1 d_M_make_56 (by decide) ?_
        refine W.widen (k := 0) (n := 0) (Nat.le_of_ble_eq_true rfl) (Nat.le_of_ble_eq_true rfl) ?_
        exact ih _ _ _ _ _ _ hI (mt_sub hl [1, 2, 0] rfl) h
set_option maxHeartbeats 4000000 in
set_option maxRecDepth 100000 in
theorem c_M_make (l : Launch) (D : va_G) (dA : Nat → ClassId) (A : Nat → Prop) (b0 : Nat) (a1 : Int32) (S : mc_S) (out : (Int32 × mc_S)) (hf : f_M_make b0 a1 S = some out) : Met l y_M_make (cd_M_make :: ALL) rm_M_make (va_Pc [va_rf (some b0), .int a1] (mw_B D dA CL (TY dA) ZZ A S)) (va_Qi (fun x (_ : Unit) => x = out.1) (fun _ t => mw_R D dA CL A out.2 t) A) 0 0 A := by
  refine mw_ofW (cc := b_M_make) (maxL := 3) (ret := (some .int)) [(.inr (.inr (some b0))), (.inl a1)] rfl (by decide +kernel) (Nat.le_of_ble_eq_true rfl) (L := [(0, (.inr (.inr (some b0)))), (1, (.inl a1))]) rfl (fun p e s m args below meth c F hr hlk hnm hK ls hl hI => ?_)
  have h := hf
  unfold f_M_make at h
  refine lv_iconst (v := 0) F.1 F.2.1 d_M_make_0 (by decide) ?_
  refine mt_istore_n F hl rfl (Nat.le_of_ble_eq_true rfl) rfl d_M_make_1 (fun ls hl => ?_)
  have hl : mt_L ls 3 [(2, (.inl 0)), (0, (.inr (.inr (some b0)))), (1, (.inl a1))] := hl
  refine W.widen (k := 0) (n := 0) (Nat.le_of_ble_eq_true rfl) (Nat.le_of_ble_eq_true rfl) ?_
  exact (s_M_make l D dA A b0 F hr hlk hnm hK out 5000) _ _ _ _ _ _ hI (mt_sub hl [1, 2, 0] rfl) h
abbrev rm_T_has : Room := { frames := 0, cells := 0, slots := 0, locals := 0 }
set_option maxHeartbeats 4000000 in
set_option maxRecDepth 100000 in
theorem c_T_has (l : Launch) (D : va_G) (dA : Nat → ClassId) (A : Nat → Prop) (b0 : Nat) (a1 : Int32) (S : mc_S) (out : (Int32 × mc_S)) (hf : f_T_has b0 a1 S = some out) : Met l y_T_has (cd_T_has :: ALL) rm_T_has (va_Pc [va_rf (some b0), .int a1] (mw_B D dA CL (TY dA) ZZ A S)) (va_Qi (fun x (_ : Unit) => x = out.1) (fun _ t => mw_R D dA CL A out.2 t) A) 0 0 A := by
  refine mw_ofW (cc := b_T_has) (maxL := 2) (ret := (some .boolean)) [(.inr (.inr (some b0))), (.inl a1)] rfl (by decide +kernel) (Nat.le_of_ble_eq_true rfl) (L := [(0, (.inr (.inr (some b0)))), (1, (.inl a1))]) rfl (fun p e s m args below meth c F hr hlk hnm hK ls hl hI => ?_)
  have h := hf
  unfold f_T_has at h
  refine mt_iload_n F hl 1 rfl rfl d_T_has_0 ?_
  refine lv_if_lt (tgt := 23) F.1 F.2.1 d_T_has_1 (by decide) (fun hc => ?_) (fun hc => ?_)
  · rw [if_pos hc] at h
    refine lv_iconst (v := 0) F.1 F.2.1 d_T_has_23 (by decide) ?_
    exact mw_zret F hI hr hlk rfl h (Nat.le_of_ble_eq_true rfl) (Nat.le_of_ble_eq_true rfl) d_T_has_24
  · rw [if_neg hc] at h
    refine mt_iload_n F hl 1 rfl rfl d_T_has_4 ?_
    refine lv_bipush (v := 100) F.1 F.2.1 d_T_has_5 (by decide) ?_
    refine lv_icmp_ge (tgt := 23) F.1 F.2.1 d_T_has_7 (by decide) (fun hc => ?_) (fun hc => ?_)
    · rw [if_pos hc] at h
      refine lv_iconst (v := 0) F.1 F.2.1 d_T_has_23 (by decide) ?_
      exact mw_zret F hI hr hlk rfl h (Nat.le_of_ble_eq_true rfl) (Nat.le_of_ble_eq_true rfl) d_T_has_24
    · rw [if_neg hc] at h
      refine mt_aload_n F hl 0 rfl rfl d_T_has_10 ?_
      obtain ⟨v1, e_v1, h⟩ := mw_bind h
      refine mw_getR F hK hI (in_2 _) (hc_2) 0 (by decide) (mA k_16) rfl e_v1 d_T_has_11 ?_
      refine mt_iload_n F hl 1 rfl rfl d_T_has_14 ?_
      obtain ⟨v2, e_v2, h⟩ := mw_bind h
      refine mw_aald F hK hI (t0 := 3) rfl e_v2 d_T_has_15 ?_
      refine mw_ifnull (tgt := 23) F d_T_has_16 (by decide) (fun hc => ?_) (fun hc => ?_)
      · rw [if_pos hc] at h
        refine lv_iconst (v := 0) F.1 F.2.1 d_T_has_23 (by decide) ?_
        exact mw_zret F hI hr hlk rfl h (Nat.le_of_ble_eq_true rfl) (Nat.le_of_ble_eq_true rfl) d_T_has_24
      · rw [if_neg hc] at h
        refine lv_iconst (v := 1) F.1 F.2.1 d_T_has_19 (by decide) ?_
        refine lv_goto (tgt := 24) F.1 F.2.1 d_T_has_20 (by decide) ?_
        exact mw_zret F hI hr hlk rfl h (Nat.le_of_ble_eq_true rfl) (Nat.le_of_ble_eq_true rfl) d_T_has_24
abbrev rm_K_valueOf : Room := { frames := 1, cells := 0, slots := 0, locals := 21 }
set_option maxHeartbeats 4000000 in
set_option maxRecDepth 100000 in
theorem c_K_valueOf (l : Launch) (D : va_G) (dA : Nat → ClassId) (A : Nat → Prop) (b0 : Nat) (a1 : Int32) (a2 : Int32) (S : mc_S) (out : (Int64 × mc_S)) (hf : f_K_valueOf b0 a1 a2 S = some out) : Met l y_K_valueOf (cd_K_valueOf :: ALL) rm_K_valueOf (va_Pc [va_rf (some b0), .int a1, .int a2] (mw_B D dA CL (TY dA) ZZ A S)) (va_Ql (fun x (_ : Unit) => x = out.1) (fun _ t => mw_R D dA CL A out.2 t) A) 0 0 A := by
  refine mw_ofW (cc := b_K_valueOf) (maxL := 3) (ret := (some .long)) [(.inr (.inr (some b0))), (.inl a1), (.inl a2)] rfl (by decide +kernel) (Nat.le_of_ble_eq_true rfl) (L := [(0, (.inr (.inr (some b0)))), (1, (.inl a1)), (2, (.inl a2))]) rfl (fun p e s m args below meth c F hr hlk hnm hK ls hl hI => ?_)
  have h := hf
  unfold f_K_valueOf at h
  refine mt_iload_n F hl 1 rfl rfl d_K_valueOf_0 ?_
  by_cases hk0 : a1 = (0 : Int32)
  · rw [if_pos hk0] at h
    refine mw_tabIn (tgt := 28) (off := 27) F hk0 d_K_valueOf_1 (by decide) (by decide) (by rfl) (by decide) ?_
    refine lv_ldc2 (v := 1099511627776) F.1 F.2.1 F.2.2.2.1 (F.2.2.2.2 _ (mA k_65)) d_K_valueOf_28 ?_
    exact mw_lret F hI hr hlk h (Nat.le_of_ble_eq_true rfl) (Nat.le_of_ble_eq_true rfl) d_K_valueOf_31
  · rw [if_neg hk0] at h
    by_cases hk1 : a1 = (1 : Int32)
    · rw [if_pos hk1] at h
      refine mw_tabIn (tgt := 32) (off := 31) F hk1 d_K_valueOf_1 (by decide) (by decide) (by rfl) (by decide) ?_
      refine mt_iload_n F hl 2 rfl rfl d_K_valueOf_32 ?_
      refine lv_i2l F.1 F.2.1 d_K_valueOf_33 rfl ?_
      exact mw_lret F hI hr hlk h (Nat.le_of_ble_eq_true rfl) (Nat.le_of_ble_eq_true rfl) d_K_valueOf_34
    · rw [if_neg hk1] at h
      by_cases hk2 : a1 = (2 : Int32)
      · rw [if_pos hk2] at h
        refine mw_tabIn (tgt := 35) (off := 34) F hk2 d_K_valueOf_1 (by decide) (by decide) (by rfl) (by decide) ?_
        refine mt_aload_n F hl 0 rfl rfl d_K_valueOf_35 ?_
        obtain ⟨v1, e_v1, h⟩ := mw_bind h
        refine mw_getR F hK hI (in_0 _) (hc_0) 0 (by decide) (mA k_42) rfl e_v1 d_K_valueOf_36 ?_
        refine mt_iload_n F hl 2 rfl rfl d_K_valueOf_39 ?_
        obtain ⟨b2, e_b2, h⟩ := mw_bind h
        obtain ⟨o3, e_o3, h⟩ := mw_bind h
        refine mw_calli hI (mw_runV F hK hI (c_T_has l D dA A _ _ _ _ e_o3) (cwV 1 F.2.2.2.2 (gd_V k_66 k_67 k_68 k_69 k_38) rfl rfl rfl hd_T_has ⟨Nat.le_of_ble_eq_true rfl, Nat.le_of_ble_eq_true rfl⟩) (hc_2) e_b2 rfl hl.1 rfl (Nat.zero_le _) d_K_valueOf_40 ⟨(Nat.le_of_ble_eq_true rfl), (Nat.le_of_ble_eq_true rfl)⟩) (fun H locs hI => ?_)
        refine lv_if_eq (tgt := 55) F.1 F.2.1 d_K_valueOf_43 (by decide) (fun hc => ?_) (fun hc => ?_)
        · rw [if_pos hc] at h
          refine lv_ldc2 (v := (-1099511627776)) F.1 F.2.1 F.2.2.2.1 (F.2.2.2.2 _ (mA k_70)) d_K_valueOf_55 ?_
          exact mw_lret F hI hr hlk h (Nat.le_of_ble_eq_true rfl) (Nat.le_of_ble_eq_true rfl) d_K_valueOf_58
        · rw [if_neg hc] at h
          refine lv_ldc2 (v := 1099511627777) F.1 F.2.1 F.2.2.2.1 (F.2.2.2.2 _ (mA k_71)) d_K_valueOf_46 ?_
          refine mt_iload_n F hl 2 rfl rfl d_K_valueOf_49 ?_
          refine lv_i2l F.1 F.2.1 d_K_valueOf_50 rfl ?_
          refine lv_ladd F.1 F.2.1 d_K_valueOf_51 ?_
          refine lv_goto (tgt := 58) F.1 F.2.1 d_K_valueOf_52 (by decide) ?_
          exact mw_lret F hI hr hlk h (Nat.le_of_ble_eq_true rfl) (Nat.le_of_ble_eq_true rfl) d_K_valueOf_58
      · rw [if_neg hk2] at h
        refine lv_tableOut (tgt := 59) F.1 F.2.1 d_K_valueOf_1 (by have z0 := lv_neT hk0 (show (0 : Int32).toInt = 0 by decide); have z1 := lv_neT hk1 (show (1 : Int32).toInt = 1 by decide); have z2 := lv_neT hk2 (show (2 : Int32).toInt = 2 by decide); omega) (by decide) ?_
        refine lv_ldc2 (v := (-1099511627776)) F.1 F.2.1 F.2.2.2.1 (F.2.2.2.2 _ (mA k_70)) d_K_valueOf_59 ?_
        exact mw_lret F hI hr hlk h (Nat.le_of_ble_eq_true rfl) (Nat.le_of_ble_eq_true rfl) d_K_valueOf_62
abbrev rm_T_find : Room := { frames := 1, cells := 0, slots := 0, locals := 21 }
set_option maxHeartbeats 4000000 in
set_option maxRecDepth 100000 in
theorem c_T_find (l : Launch) (D : va_G) (dA : Nat → ClassId) (A : Nat → Prop) (b0 : Nat) (a1 : Int32) (a2 : Int32) (S : mc_S) (out : (Option Nat × mc_S)) (hf : f_T_find b0 a1 a2 S = some out) : Met l y_T_find (cd_T_find :: ALL) rm_T_find (va_Pc [va_rf (some b0), .int a1, .int a2] (mw_B D dA CL (TY dA) ZZ A S)) (va_Qq (fun x (_ : Unit) => x = out.1) (fun _ t => mw_R D dA CL A out.2 t) A) 0 0 A := by
  refine mw_ofW (cc := b_T_find) (maxL := 3) (ret := (some (.object "KeepHeap$Slots"))) [(.inr (.inr (some b0))), (.inl a1), (.inl a2)] rfl (by decide +kernel) (Nat.le_of_ble_eq_true rfl) (L := [(0, (.inr (.inr (some b0)))), (1, (.inl a1)), (2, (.inl a2))]) rfl (fun p e s m args below meth c F hr hlk hnm hK ls hl hI => ?_)
  have h := hf
  unfold f_T_find at h
  refine mt_aload_n F hl 0 rfl rfl d_T_find_0 ?_
  refine mt_iload_n F hl 1 rfl rfl d_T_find_1 ?_
  obtain ⟨b1, e_b1, h⟩ := mw_bind h
  obtain ⟨o2, e_o2, h⟩ := mw_bind h
  refine mw_calli hI (mw_runV F hK hI (c_T_has l D dA A _ _ _ _ e_o2) (cwV 1 F.2.2.2.2 (gd_V k_66 k_72 k_68 k_69 k_38) rfl rfl rfl hd_T_has ⟨Nat.le_of_ble_eq_true rfl, Nat.le_of_ble_eq_true rfl⟩) (hc_2) e_b1 rfl hl.1 rfl (Nat.zero_le _) d_T_find_2 ⟨(Nat.le_of_ble_eq_true rfl), (Nat.le_of_ble_eq_true rfl)⟩) (fun H locs hI => ?_)
  refine lv_if_eq (tgt := 30) F.1 F.2.1 d_T_find_5 (by decide) (fun hc => ?_) (fun hc => ?_)
  · rw [if_pos hc] at h
    refine mw_null F d_T_find_30 ?_
    exact mw_qret F hI hr hlk h (Nat.le_of_ble_eq_true rfl) (Nat.le_of_ble_eq_true rfl) d_T_find_31
  · rw [if_neg hc] at h
    refine mt_aload_n F hl 0 rfl rfl d_T_find_8 ?_
    obtain ⟨v3, e_v3, h⟩ := mw_bind h
    refine mw_getR F hK hI (in_2 _) (hc_2) 0 (by decide) (mA k_16) rfl e_v3 d_T_find_9 ?_
    refine mt_iload_n F hl 1 rfl rfl d_T_find_12 ?_
    obtain ⟨v4, e_v4, h⟩ := mw_bind h
    refine mw_aald F hK hI (t0 := 3) rfl e_v4 d_T_find_13 ?_
    obtain ⟨v5, e_v5, h⟩ := mw_bind h
    refine mw_getI F hK hI (in_1 _) (hc_1) 0 (by decide) (mA k_73) rfl e_v5 d_T_find_14 ?_
    refine mt_iload_n F hl 2 rfl rfl d_T_find_17 ?_
    refine lv_icmp_ne (tgt := 30) F.1 F.2.1 d_T_find_18 (by decide) (fun hc => ?_) (fun hc => ?_)
    · rw [if_neg hc] at h
      refine mw_null F d_T_find_30 ?_
      exact mw_qret F hI hr hlk h (Nat.le_of_ble_eq_true rfl) (Nat.le_of_ble_eq_true rfl) d_T_find_31
    · rw [if_pos hc] at h
      refine mt_aload_n F hl 0 rfl rfl d_T_find_21 ?_
      obtain ⟨v6, e_v6, h⟩ := mw_bind h
      refine mw_getR F hK hI (in_2 _) (hc_2) 0 (by decide) (mA k_16) rfl e_v6 d_T_find_22 ?_
      refine mt_iload_n F hl 1 rfl rfl d_T_find_25 ?_
      obtain ⟨v7, e_v7, h⟩ := mw_bind h
      refine mw_aald F hK hI (t0 := 3) rfl e_v7 d_T_find_26 ?_
      refine lv_goto (tgt := 31) F.1 F.2.1 d_T_find_27 (by decide) ?_
      exact mw_qret F hI hr hlk h (Nat.le_of_ble_eq_true rfl) (Nat.le_of_ble_eq_true rfl) d_T_find_31
abbrev rm_K_ringIndex : Room := { frames := 0, cells := 0, slots := 0, locals := 0 }
set_option maxHeartbeats 4000000 in
set_option maxRecDepth 100000 in
theorem c_K_ringIndex (l : Launch) (D : va_G) (dA : Nat → ClassId) (A : Nat → Prop) (b0 : Nat) (a1 : Int32) (S : mc_S) (out : (Int32 × mc_S)) (hf : f_K_ringIndex b0 a1 S = some out) : Met l y_K_ringIndex (cd_K_ringIndex :: ALL) rm_K_ringIndex (va_Pc [va_rf (some b0), .int a1] (mw_B D dA CL (TY dA) ZZ A S)) (va_Qi (fun x (_ : Unit) => x = out.1) (fun _ t => mw_R D dA CL A out.2 t) A) 0 0 A := by
  refine mw_ofW (cc := b_K_ringIndex) (maxL := 2) (ret := (some .int)) [(.inr (.inr (some b0))), (.inl a1)] rfl (by decide +kernel) (Nat.le_of_ble_eq_true rfl) (L := [(0, (.inr (.inr (some b0)))), (1, (.inl a1))]) rfl (fun p e s m args below meth c F hr hlk hnm hK ls hl hI => ?_)
  have h := hf
  unfold f_K_ringIndex at h
  refine mt_aload_n F hl 0 rfl rfl d_K_ringIndex_0 ?_
  obtain ⟨v1, e_v1, h⟩ := mw_bind h
  refine mw_getI F hK hI (in_0 _) (hc_0) 4 (by decide) (mA k_28) rfl e_v1 d_K_ringIndex_1 ?_
  refine mt_iload_n F hl 1 rfl rfl d_K_ringIndex_4 ?_
  refine lv_iadd F.1 F.2.1 d_K_ringIndex_5 ?_
  refine lv_bipush (v := 9) F.1 F.2.1 d_K_ringIndex_6 (by decide) ?_
  refine lv_irem F.1 F.2.1 d_K_ringIndex_8 (by decide) ?_
  exact mw_iret F hI hr hlk h (Nat.le_of_ble_eq_true rfl) (Nat.le_of_ble_eq_true rfl) d_K_ringIndex_9
abbrev rm_K_kept : Room := { frames := 1, cells := 0, slots := 0, locals := 21 }
set_option maxHeartbeats 4000000 in
set_option maxRecDepth 100000 in
theorem c_K_kept (l : Launch) (D : va_G) (dA : Nat → ClassId) (A : Nat → Prop) (b0 : Nat) (S : mc_S) (out : (Option Nat × mc_S)) (hf : f_K_kept b0 S = some out) : Met l y_K_kept (cd_K_kept :: ALL) rm_K_kept (va_Pc [va_rf (some b0)] (mw_B D dA CL (TY dA) ZZ A S)) (va_Qq (fun x (_ : Unit) => x = out.1) (fun _ t => mw_R D dA CL A out.2 t) A) 0 0 A := by
  refine mw_ofW (cc := b_K_kept) (maxL := 1) (ret := (some (.object "KeepHeap$State"))) [(.inr (.inr (some b0)))] rfl (by decide +kernel) (Nat.le_of_ble_eq_true rfl) (L := [(0, (.inr (.inr (some b0))))]) rfl (fun p e s m args below meth c F hr hlk hnm hK ls hl hI => ?_)
  have h := hf
  unfold f_K_kept at h
  refine mt_aload_n F hl 0 rfl rfl d_K_kept_0 ?_
  obtain ⟨v1, e_v1, h⟩ := mw_bind h
  refine mw_getR F hK hI (in_0 _) (hc_0) 1 (by decide) (mA k_20) rfl e_v1 d_K_kept_1 ?_
  refine mt_aload_n F hl 0 rfl rfl d_K_kept_4 ?_
  refine mt_aload_n F hl 0 rfl rfl d_K_kept_5 ?_
  obtain ⟨v2, e_v2, h⟩ := mw_bind h
  refine mw_getI F hK hI (in_0 _) (hc_0) 5 (by decide) (mA k_29) rfl e_v2 d_K_kept_6 ?_
  obtain ⟨b3, e_b3, h⟩ := mw_bind h
  obtain ⟨o4, e_o4, h⟩ := mw_bind h
  refine mw_calli hI (mw_runV F hK hI (c_K_ringIndex l D dA A _ _ _ _ e_o4) (cwV 1 F.2.2.2.2 (gd_V k_74 k_75 k_76 k_77 k_78) rfl rfl rfl hd_K_ringIndex ⟨Nat.le_of_ble_eq_true rfl, Nat.le_of_ble_eq_true rfl⟩) (hc_0) e_b3 rfl hl.1 rfl (by simp [mw_cat, mw_cI, mw_cL]) d_K_kept_9 ⟨(Nat.le_of_ble_eq_true rfl), (Nat.le_of_ble_eq_true rfl)⟩) (fun H locs hI => ?_)
  obtain ⟨v5, e_v5, h⟩ := mw_bind h
  refine mw_aald F hK hI (t0 := 4) rfl e_v5 d_K_kept_12 ?_
  exact mw_qret F hI hr hlk h (Nat.le_of_ble_eq_true rfl) (Nat.le_of_ble_eq_true rfl) d_K_kept_13
abbrev rm_S_twin : Room := { frames := 2, cells := 3, slots := 44, locals := 34 }
set_option maxHeartbeats 4000000 in
set_option maxRecDepth 100000 in
theorem c_S_twin (l : Launch) (D : va_G) (dA : Nat → ClassId) (A : Nat → Prop) (b0 : Nat) (S : mc_S) (out : (Option Nat × mc_S)) (hf : f_S_twin b0 S = some out) : Met l y_S_twin (cd_S_twin :: ALL) rm_S_twin (va_Pc [va_rf (some b0)] (mw_B D dA CL (TY dA) ZZ A S)) (va_Qq (fun x (_ : Unit) => x = out.1) (fun _ t => mw_R D dA CL A out.2 t) A) 3 44 A := by
  refine mw_ofW (cc := b_S_twin) (maxL := 2) (ret := (some (.object "KeepHeap$Slots"))) [(.inr (.inr (some b0)))] rfl (by decide +kernel) (Nat.le_of_ble_eq_true rfl) (L := [(0, (.inr (.inr (some b0))))]) rfl (fun p e s m args below meth c F hr hlk hnm hK ls hl hI => ?_)
  have h := hf
  unfold f_S_twin at h
  refine mw_new F hK hI (in_1 _) ty_1 ok_1 (mA k_79) (mA k_32) (mA k_33) (hc_1) (fs := [.int 0, .null, .null, .int 0]) df_1 (Nat.le_of_ble_eq_true rfl) (Nat.le_of_ble_eq_true rfl) d_S_twin_0 (fun H hI => ?_)
  refine lv_dup F.1 F.2.1 d_S_twin_3 (mw_cat _) ?_
  refine mt_aload_n F hl 0 rfl rfl d_S_twin_4 ?_
  obtain ⟨v1, e_v1, h⟩ := mw_bind h
  refine mw_getI F hK hI (in_1 _) (hc_1) 0 (by decide) (mA k_10) rfl e_v1 d_S_twin_5 ?_
  refine mt_aload_n F hl 0 rfl rfl d_S_twin_8 ?_
  obtain ⟨v2, e_v2, h⟩ := mw_bind h
  refine mw_getR F hK hI (in_1 _) (hc_1) 2 (by decide) (mA k_13) rfl e_v2 d_S_twin_9 ?_
  obtain ⟨v3, e_v3, h⟩ := mw_bind h
  refine mw_alen F hK hI (t0 := 1) rfl e_v3 d_S_twin_12 ?_
  obtain ⟨b4, e_b4, h⟩ := mw_bind h
  obtain ⟨S5, e_S5, h⟩ := mw_bind h
  refine mw_callv hI (mw_runI F hK hI (c_S_init l D dA A _ _ _ _ _ e_S5) (cwI 2 F.2.2.2.2 (gd_I k_34) rfl rfl rfl (F.2.2.2.2 _ (mA k_33)) (F.2.2.2.2 _ (mA k_80)) (F.2.2.2.2 _ (mA k_36)) rfl hd_S_init ⟨Nat.le_of_ble_eq_true rfl, Nat.le_of_ble_eq_true rfl⟩) e_b4 rfl hl.1 rfl (by simp [mw_cat, mw_cI, mw_cL]) d_S_twin_13 ⟨(Nat.le_of_ble_eq_true rfl), (Nat.le_of_ble_eq_true rfl)⟩) (fun H locs hI => ?_)
  refine mt_astore_n F hl rfl (Nat.le_of_ble_eq_true rfl) rfl d_S_twin_16 (fun ls hl => ?_)
  have hl : mt_L ls 2 [(1, (.inr (.inr (some S.2)))), (0, (.inr (.inr (some b0))))] := hl
  refine mt_aload_n F hl 1 rfl rfl d_S_twin_17 ?_
  obtain ⟨v6, e_v6, h⟩ := mw_bind h
  refine mw_getR F hK hI (in_1 _) (hc_1) 1 (by decide) (mA k_11) rfl e_v6 d_S_twin_18 ?_
  refine lv_iconst (v := 0) F.1 F.2.1 d_S_twin_21 (by decide) ?_
  refine mt_aload_n F hl 0 rfl rfl d_S_twin_22 ?_
  obtain ⟨v7, e_v7, h⟩ := mw_bind h
  refine mw_getR F hK hI (in_1 _) (hc_1) 1 (by decide) (mA k_11) rfl e_v7 d_S_twin_23 ?_
  refine lv_iconst (v := 0) F.1 F.2.1 d_S_twin_26 (by decide) ?_
  refine mt_aload_n F hl 1 rfl rfl d_S_twin_27 ?_
  obtain ⟨v8, e_v8, h⟩ := mw_bind h
  refine mw_getI F hK hI (in_1 _) (hc_1) 3 (by decide) (mA k_9) rfl e_v8 d_S_twin_28 ?_
  obtain ⟨S9, e_S9, h⟩ := mw_bind h
  refine mw_copyi F hK hI (t0 := 0) (mA k_81) (mA k_82) (mA k_83) (mA k_84) rfl e_S9 hl.1 (Nat.le_of_ble_eq_true rfl) (by simp [mw_cat, mw_cI, mw_cL, nativeFrameWords, rm_S_twin]) d_S_twin_31 (fun H locs hI => ?_)
  refine mt_aload_n F hl 1 rfl rfl d_S_twin_34 ?_
  obtain ⟨v10, e_v10, h⟩ := mw_bind h
  refine mw_getR F hK hI (in_1 _) (hc_1) 2 (by decide) (mA k_13) rfl e_v10 d_S_twin_35 ?_
  refine lv_iconst (v := 0) F.1 F.2.1 d_S_twin_38 (by decide) ?_
  refine mt_aload_n F hl 0 rfl rfl d_S_twin_39 ?_
  obtain ⟨v11, e_v11, h⟩ := mw_bind h
  refine mw_getR F hK hI (in_1 _) (hc_1) 2 (by decide) (mA k_13) rfl e_v11 d_S_twin_40 ?_
  refine lv_iconst (v := 0) F.1 F.2.1 d_S_twin_43 (by decide) ?_
  refine mt_aload_n F hl 1 rfl rfl d_S_twin_44 ?_
  obtain ⟨v12, e_v12, h⟩ := mw_bind h
  refine mw_getI F hK hI (in_1 _) (hc_1) 3 (by decide) (mA k_9) rfl e_v12 d_S_twin_45 ?_
  obtain ⟨S13, e_S13, h⟩ := mw_bind h
  refine mw_copyl F hK hI (t0 := 1) (mA k_81) (mA k_82) (mA k_83) (mA k_84) rfl e_S13 hl.1 (Nat.le_of_ble_eq_true rfl) (by simp [mw_cat, mw_cI, mw_cL, nativeFrameWords, rm_S_twin]) d_S_twin_48 (fun H locs hI => ?_)
  refine mt_aload_n F hl 0 rfl rfl d_S_twin_51 ?_
  refine mt_aload_n F hl 1 rfl rfl d_S_twin_52 ?_
  obtain ⟨v14, e_v14, h⟩ := mw_bind h
  refine mw_getI F hK hI (in_1 _) (hc_1) 3 (by decide) (mA k_9) rfl e_v14 d_S_twin_53 ?_
  obtain ⟨S15, e_S15, h⟩ := mw_bind h
  refine mw_put F hK hI (in_1 _) ty_1 ok_1 nm_1 (hc_1) 3 (by decide) (mA k_9) rfl rfl rfl rfl e_S15 d_S_twin_56 (fun H locs hI => ?_)
  refine mt_aload_n F hl 0 rfl rfl d_S_twin_59 ?_
  exact mw_qret F hI hr hlk h (Nat.le_of_ble_eq_true rfl) (Nat.le_of_ble_eq_true rfl) d_S_twin_60
abbrev rm_K_own : Room := { frames := 3, cells := 3, slots := 44, locals := 55 }
set_option maxHeartbeats 4000000 in
set_option maxRecDepth 100000 in
theorem c_K_own (l : Launch) (D : va_G) (dA : Nat → ClassId) (A : Nat → Prop) (b0 : Nat) (a1 : Int32) (a2 : Int32) (S : mc_S) (out : (Option Nat × mc_S)) (hf : f_K_own b0 a1 a2 S = some out) : Met l y_K_own (cd_K_own :: ALL) rm_K_own (va_Pc [va_rf (some b0), .int a1, .int a2] (mw_B D dA CL (TY dA) ZZ A S)) (va_Qq (fun x (_ : Unit) => x = out.1) (fun _ t => mw_R D dA CL A out.2 t) A) 3 44 A := by
  refine mw_ofW (cc := b_K_own) (maxL := 4) (ret := (some (.object "KeepHeap$Slots"))) [(.inr (.inr (some b0))), (.inl a1), (.inl a2)] rfl (by decide +kernel) (Nat.le_of_ble_eq_true rfl) (L := [(0, (.inr (.inr (some b0)))), (1, (.inl a1)), (2, (.inl a2))]) rfl (fun p e s m args below meth c F hr hlk hnm hK ls hl hI => ?_)
  have h := hf
  unfold f_K_own at h
  refine mt_aload_n F hl 0 rfl rfl d_K_own_0 ?_
  obtain ⟨v1, e_v1, h⟩ := mw_bind h
  refine mw_getR F hK hI (in_0 _) (hc_0) 0 (by decide) (mA k_42) rfl e_v1 d_K_own_1 ?_
  refine mt_iload_n F hl 1 rfl rfl d_K_own_4 ?_
  refine mt_iload_n F hl 2 rfl rfl d_K_own_5 ?_
  obtain ⟨b2, e_b2, h⟩ := mw_bind h
  obtain ⟨o3, e_o3, h⟩ := mw_bind h
  refine mw_callq hI (mw_runV F hK hI (c_T_find l D dA A _ _ _ _ _ e_o3) (cwV 2 F.2.2.2.2 (gd_V k_85 k_86 k_87 k_88 k_38) rfl rfl rfl hd_T_find ⟨Nat.le_of_ble_eq_true rfl, Nat.le_of_ble_eq_true rfl⟩) (hc_2) e_b2 rfl hl.1 rfl (Nat.zero_le _) d_K_own_6 ⟨(Nat.le_of_ble_eq_true rfl), (Nat.le_of_ble_eq_true rfl)⟩) (fun H locs hI => ?_)
  refine mt_astore_n F hl rfl (Nat.le_of_ble_eq_true rfl) rfl d_K_own_9 (fun ls hl => ?_)
  have hl : mt_L ls 4 [(3, (.inr (.inr o3.1))), (0, (.inr (.inr (some b0)))), (1, (.inl a1)), (2, (.inl a2))] := hl
  refine mt_aload_n F hl 0 rfl rfl d_K_own_10 ?_
  refine mw_ifnull (tgt := 42) F d_K_own_11 (by decide) (fun hc => ?_) (fun hc => ?_)
  · rw [if_pos hc] at h
    refine mt_aload_n F hl 0 rfl rfl d_K_own_42 ?_
    exact mw_qret F hI hr hlk h (Nat.le_of_ble_eq_true rfl) (Nat.le_of_ble_eq_true rfl) d_K_own_43
  · rw [if_neg hc] at h
    refine mt_aload_n F hl 0 rfl rfl d_K_own_14 ?_
    refine mt_aload_n F hl 1 rfl rfl d_K_own_15 ?_
    obtain ⟨b4, e_b4, h⟩ := mw_bind h
    obtain ⟨o5, e_o5, h⟩ := mw_bind h
    refine mw_callq hI (mw_runV F hK hI (c_K_kept l D dA A _ _ _ e_o5) (cwV 0 F.2.2.2.2 (gd_V k_89 k_90 k_91 k_92 k_78) rfl rfl rfl hd_K_kept ⟨Nat.le_of_ble_eq_true rfl, Nat.le_of_ble_eq_true rfl⟩) (hc_0) e_b4 rfl hl.1 rfl (by simp [mw_cat, mw_cI, mw_cL]) d_K_own_16 ⟨(Nat.le_of_ble_eq_true rfl), (Nat.le_of_ble_eq_true rfl)⟩) (fun H locs hI => ?_)
    obtain ⟨v6, e_v6, h⟩ := mw_bind h
    refine mw_getR F hK hI (in_2 _) (hc_2) 0 (by decide) (mA k_62) rfl e_v6 d_K_own_19 ?_
    refine mt_iload_n F hl 2 rfl rfl d_K_own_22 ?_
    obtain ⟨v7, e_v7, h⟩ := mw_bind h
    refine mw_aald F hK hI (t0 := 3) rfl e_v7 d_K_own_23 ?_
    refine lv_acmp_ne (tgt := 42) F.1 F.2.1 d_K_own_24 (by decide) (fun hc => ?_) (fun hc => ?_)
    · rw [if_neg hc] at h
      refine mt_aload_n F hl 0 rfl rfl d_K_own_42 ?_
      exact mw_qret F hI hr hlk h (Nat.le_of_ble_eq_true rfl) (Nat.le_of_ble_eq_true rfl) d_K_own_43
    · rw [if_pos hc] at h
      refine mt_aload_n F hl 0 rfl rfl d_K_own_27 ?_
      obtain ⟨b8, e_b8, h⟩ := mw_bind h
      obtain ⟨o9, e_o9, h⟩ := mw_bind h
      refine mw_callq hI (mw_runV F hK hI (c_S_twin l D dA A _ _ _ e_o9) (cwV 0 F.2.2.2.2 (gd_V k_93 k_94 k_95 k_96 k_33) rfl rfl rfl hd_S_twin ⟨Nat.le_of_ble_eq_true rfl, Nat.le_of_ble_eq_true rfl⟩) (hc_1) e_b8 rfl hl.1 rfl (Nat.zero_le _) d_K_own_28 ⟨(Nat.le_of_ble_eq_true rfl), (Nat.le_of_ble_eq_true rfl)⟩) (fun H locs hI => ?_)
      refine mt_astore_n F hl rfl (Nat.le_of_ble_eq_true rfl) rfl d_K_own_31 (fun ls hl => ?_)
      have hl : mt_L ls 4 [(3, (.inr (.inr o9.1))), (0, (.inr (.inr (some b0)))), (1, (.inl a1)), (2, (.inl a2))] := hl
      refine mt_aload_n F hl 1 rfl rfl d_K_own_32 ?_
      obtain ⟨v10, e_v10, h⟩ := mw_bind h
      refine mw_getR F hK hI (in_0 _) (hc_0) 0 (by decide) (mA k_42) rfl e_v10 d_K_own_33 ?_
      obtain ⟨v11, e_v11, h⟩ := mw_bind h
      refine mw_getR F hK hI (in_2 _) (hc_2) 0 (by decide) (mA k_62) rfl e_v11 d_K_own_36 ?_
      refine mt_iload_n F hl 2 rfl rfl d_K_own_39 ?_
      refine mt_aload_n F hl 0 rfl rfl d_K_own_40 ?_
      obtain ⟨S12, e_S12, h⟩ := mw_bind h
      refine mw_aast F hK hI (t0 := 3) (ci := 1) (q0 := cq_1) rfl rfl e_S12 d_K_own_41 (fun H locs hI => ?_)
      refine mt_aload_n F hl 0 rfl rfl d_K_own_42 ?_
      exact mw_qret F hI hr hlk h (Nat.le_of_ble_eq_true rfl) (Nat.le_of_ble_eq_true rfl) d_K_own_43
abbrev rm_S_placeOf : Room := { frames := 0, cells := 0, slots := 0, locals := 0 }
set_option maxHeartbeats 4000000 in
set_option maxRecDepth 100000 in
theorem s_S_placeOf (l : Launch) (D : va_G) (dA : Nat → ClassId) (A : Nat → Prop) (b0 : Nat) {p : Program} {e : Env} {s : State} {m : MethodId} {args : Array Value} {below : List Frame} {meth : Method} {c : Code} (F : CallFix p m c b_S_placeOf 3 s args (cd_S_placeOf :: ALL) y_S_placeOf.cls) (hr : meth.sig.returnType = (some .int)) (hlk : meth.locks = false) (hnm : meth.name = y_S_placeOf.name) (hK : mw_K D CL (TY dA) ZZ s) (out : (Int32 × mc_S)) : ∀ n : Nat, (∀ (x1 : Int32) (x2 : Int32) (S : mc_S) (H : Heap) (locs : List Loc) (ls : Array Slot), mw_I D dA CL A S s.heap H locs → mt_L ls 3 [(0, (.inr (.inr (some b0)))), (1, (.inl x1)), (2, (.inl x2))] → g_S_placeOf b0 n x1 x2 S = some out → W p l e rm_S_placeOf s m args below meth c H locs (0) (0) (MQ below (va_Qi (fun x (_ : Unit) => x = out.1) (fun _ t => mw_R D dA CL A out.2 t) A) args s 0 0 A) (F0 m 2 ls [])) := by
  intro n
  induction n with
  | zero =>
    intro x1 x2 S H locs ls hI hl h; have h : (none : Option (Int32 × mc_S)) = some out := h; cases h
  | succ k0 ih =>
    intro x1 x2 S H locs ls hI hl h
    have h : q_S_placeOf_0 b0 (g_S_placeOf b0 k0) x1 x2 S = some out := h
    unfold q_S_placeOf_0 at h
    refine mt_iload_n F hl 2 rfl rfl d_S_placeOf_2 ?_
    refine mt_aload_n F hl 0 rfl rfl d_S_placeOf_3 ?_
    obtain ⟨v1, e_v1, h⟩ := mw_bind h
    refine mw_getI F hK hI (in_1 _) (hc_1) 3 (by decide) (mA k_9) rfl e_v1 d_S_placeOf_4 ?_
    refine lv_icmp_ge (tgt := 26) F.1 F.2.1 d_S_placeOf_7 (by decide) (fun hc => ?_) (fun hc => ?_)
    · rw [if_pos hc] at h
      refine mt_iload_n F hl 2 rfl rfl d_S_placeOf_26 ?_
      exact mw_iret F hI hr hlk h (Nat.le_of_ble_eq_true rfl) (Nat.le_of_ble_eq_true rfl) d_S_placeOf_27
    · rw [if_neg hc] at h
      refine mt_aload_n F hl 0 rfl rfl d_S_placeOf_10 ?_
      obtain ⟨v2, e_v2, h⟩ := mw_bind h
      refine mw_getR F hK hI (in_1 _) (hc_1) 1 (by decide) (mA k_11) rfl e_v2 d_S_placeOf_11 ?_
      refine mt_iload_n F hl 2 rfl rfl d_S_placeOf_14 ?_
      obtain ⟨v3, e_v3, h⟩ := mw_bind h
      refine mw_iald F hK hI (t0 := 0) rfl e_v3 d_S_placeOf_15 ?_
      refine mt_iload_n F hl 1 rfl rfl d_S_placeOf_16 ?_
      refine lv_icmp_eq (tgt := 26) F.1 F.2.1 d_S_placeOf_17 (by decide) (fun hc => ?_) (fun hc => ?_)
      · rw [if_pos hc] at h
        refine mt_iload_n F hl 2 rfl rfl d_S_placeOf_26 ?_
        exact mw_iret F hI hr hlk h (Nat.le_of_ble_eq_true rfl) (Nat.le_of_ble_eq_true rfl) d_S_placeOf_27
      · rw [if_neg hc] at h
        refine mt_iinc (v := (x2 + 1)) F hl 2 rfl (by rw [show Int32.ofInt 1 = (1 : Int32) from by decide]) (Nat.le_of_ble_eq_true rfl) rfl d_S_placeOf_20 (fun ls hl => ?_)
        have hl : mt_L ls 3 [(2, (.inl (x2 + 1))), (0, (.inr (.inr (some b0)))), (1, (.inl x1))] := hl
        refine lv_goto (tgt := 2) F.1 F.2.1 d_S_placeOf_23 (by decide) ?_
        refine W.widen (k := 0) (n := 0) (Nat.le_of_ble_eq_true rfl) (Nat.le_of_ble_eq_true rfl) ?_
        exact ih _ _ _ _ _ _ hI (mt_sub hl [1, 2, 0] rfl) h
set_option maxHeartbeats 4000000 in
set_option maxRecDepth 100000 in
theorem c_S_placeOf (l : Launch) (D : va_G) (dA : Nat → ClassId) (A : Nat → Prop) (b0 : Nat) (a1 : Int32) (S : mc_S) (out : (Int32 × mc_S)) (hf : f_S_placeOf b0 a1 S = some out) : Met l y_S_placeOf (cd_S_placeOf :: ALL) rm_S_placeOf (va_Pc [va_rf (some b0), .int a1] (mw_B D dA CL (TY dA) ZZ A S)) (va_Qi (fun x (_ : Unit) => x = out.1) (fun _ t => mw_R D dA CL A out.2 t) A) 0 0 A := by
  refine mw_ofW (cc := b_S_placeOf) (maxL := 3) (ret := (some .int)) [(.inr (.inr (some b0))), (.inl a1)] rfl (by decide +kernel) (Nat.le_of_ble_eq_true rfl) (L := [(0, (.inr (.inr (some b0)))), (1, (.inl a1))]) rfl (fun p e s m args below meth c F hr hlk hnm hK ls hl hI => ?_)
  have h := hf
  unfold f_S_placeOf at h
  refine lv_iconst (v := 0) F.1 F.2.1 d_S_placeOf_0 (by decide) ?_
  refine mt_istore_n F hl rfl (Nat.le_of_ble_eq_true rfl) rfl d_S_placeOf_1 (fun ls hl => ?_)
  have hl : mt_L ls 3 [(2, (.inl 0)), (0, (.inr (.inr (some b0)))), (1, (.inl a1))] := hl
  refine W.widen (k := 0) (n := 0) (Nat.le_of_ble_eq_true rfl) (Nat.le_of_ble_eq_true rfl) ?_
  exact (s_S_placeOf l D dA A b0 F hr hlk hnm hK out 5000) _ _ _ _ _ _ hI (mt_sub hl [1, 2, 0] rfl) h
abbrev rm_S_holds : Room := { frames := 0, cells := 0, slots := 0, locals := 0 }
set_option maxHeartbeats 4000000 in
set_option maxRecDepth 100000 in
theorem c_S_holds (l : Launch) (D : va_G) (dA : Nat → ClassId) (A : Nat → Prop) (b0 : Nat) (a1 : Int32) (S : mc_S) (out : (Int32 × mc_S)) (hf : f_S_holds b0 a1 S = some out) : Met l y_S_holds (cd_S_holds :: ALL) rm_S_holds (va_Pc [va_rf (some b0), .int a1] (mw_B D dA CL (TY dA) ZZ A S)) (va_Qi (fun x (_ : Unit) => x = out.1) (fun _ t => mw_R D dA CL A out.2 t) A) 0 0 A := by
  refine mw_ofW (cc := b_S_holds) (maxL := 2) (ret := (some .boolean)) [(.inr (.inr (some b0))), (.inl a1)] rfl (by decide +kernel) (Nat.le_of_ble_eq_true rfl) (L := [(0, (.inr (.inr (some b0)))), (1, (.inl a1))]) rfl (fun p e s m args below meth c F hr hlk hnm hK ls hl hI => ?_)
  have h := hf
  unfold f_S_holds at h
  refine mt_iload_n F hl 1 rfl rfl d_S_holds_0 ?_
  refine lv_if_lt (tgt := 16) F.1 F.2.1 d_S_holds_1 (by decide) (fun hc => ?_) (fun hc => ?_)
  · rw [if_pos hc] at h
    refine lv_iconst (v := 0) F.1 F.2.1 d_S_holds_16 (by decide) ?_
    exact mw_zret F hI hr hlk rfl h (Nat.le_of_ble_eq_true rfl) (Nat.le_of_ble_eq_true rfl) d_S_holds_17
  · rw [if_neg hc] at h
    refine mt_iload_n F hl 1 rfl rfl d_S_holds_4 ?_
    refine mt_aload_n F hl 0 rfl rfl d_S_holds_5 ?_
    obtain ⟨v1, e_v1, h⟩ := mw_bind h
    refine mw_getI F hK hI (in_1 _) (hc_1) 3 (by decide) (mA k_9) rfl e_v1 d_S_holds_6 ?_
    refine lv_icmp_ge (tgt := 16) F.1 F.2.1 d_S_holds_9 (by decide) (fun hc => ?_) (fun hc => ?_)
    · rw [if_pos hc] at h
      refine lv_iconst (v := 0) F.1 F.2.1 d_S_holds_16 (by decide) ?_
      exact mw_zret F hI hr hlk rfl h (Nat.le_of_ble_eq_true rfl) (Nat.le_of_ble_eq_true rfl) d_S_holds_17
    · rw [if_neg hc] at h
      refine lv_iconst (v := 1) F.1 F.2.1 d_S_holds_12 (by decide) ?_
      refine lv_goto (tgt := 17) F.1 F.2.1 d_S_holds_13 (by decide) ?_
      exact mw_zret F hI hr hlk rfl h (Nat.le_of_ble_eq_true rfl) (Nat.le_of_ble_eq_true rfl) d_S_holds_17
abbrev rm_S_removeAt : Room := { frames := 1, cells := 0, slots := 0, locals := 21 }
set_option maxHeartbeats 4000000 in
set_option maxRecDepth 100000 in
theorem s_S_removeAt (l : Launch) (D : va_G) (dA : Nat → ClassId) (A : Nat → Prop) (b0 : Nat) {p : Program} {e : Env} {s : State} {m : MethodId} {args : Array Value} {below : List Frame} {meth : Method} {c : Code} (F : CallFix p m c b_S_removeAt 3 s args (cd_S_removeAt :: ALL) y_S_removeAt.cls) (hr : meth.sig.returnType = none) (hlk : meth.locks = false) (hnm : meth.name = y_S_removeAt.name) (hK : mw_K D CL (TY dA) ZZ s) (out : mc_S) : ∀ n : Nat, (∀ (x1 : Int32) (x2 : Int32) (S : mc_S) (H : Heap) (locs : List Loc) (ls : Array Slot), mw_I D dA CL A S s.heap H locs → mt_L ls 3 [(0, (.inr (.inr (some b0)))), (1, (.inl x1)), (2, (.inl x2))] → g_S_removeAt b0 n x1 x2 S = some out → W p l e rm_S_removeAt s m args below meth c H locs (0) (0) (MQ below (va_Qv (fun (_ : Unit) => True) (fun _ t => mw_R D dA CL A out t) A) args s 0 0 A) (F0 m 21 ls [])) := by
  intro n
  induction n with
  | zero =>
    intro x1 x2 S H locs ls hI hl h; have h : (none : Option mc_S) = some out := h; cases h
  | succ k0 ih =>
    intro x1 x2 S H locs ls hI hl h
    have h : q_S_removeAt_0 b0 (g_S_removeAt b0 k0) x1 x2 S = some out := h
    unfold q_S_removeAt_0 at h
    refine mt_iload_n F hl 2 rfl rfl d_S_removeAt_21 ?_
    refine mt_aload_n F hl 0 rfl rfl d_S_removeAt_22 ?_
    obtain ⟨v1, e_v1, h⟩ := mw_bind h
    refine mw_getI F hK hI (in_1 _) (hc_1) 3 (by decide) (mA k_9) rfl e_v1 d_S_removeAt_23 ?_
    refine lv_icmp_ge (tgt := 63) F.1 F.2.1 d_S_removeAt_26 (by decide) (fun hc => ?_) (fun hc => ?_)
    · rw [if_pos hc] at h
      exact mw_vret F hI hr hlk h (Nat.le_of_ble_eq_true rfl) (Nat.le_of_ble_eq_true rfl) d_S_removeAt_63
    · rw [if_neg hc] at h
      refine mt_aload_n F hl 0 rfl rfl d_S_removeAt_29 ?_
      obtain ⟨v2, e_v2, h⟩ := mw_bind h
      refine mw_getR F hK hI (in_1 _) (hc_1) 1 (by decide) (mA k_11) rfl e_v2 d_S_removeAt_30 ?_
      refine mt_iload_n F hl 2 rfl rfl d_S_removeAt_33 ?_
      refine mt_aload_n F hl 0 rfl rfl d_S_removeAt_34 ?_
      obtain ⟨v3, e_v3, h⟩ := mw_bind h
      refine mw_getR F hK hI (in_1 _) (hc_1) 1 (by decide) (mA k_11) rfl e_v3 d_S_removeAt_35 ?_
      refine mt_iload_n F hl 2 rfl rfl d_S_removeAt_38 ?_
      refine lv_iconst (v := 1) F.1 F.2.1 d_S_removeAt_39 (by decide) ?_
      refine lv_iadd F.1 F.2.1 d_S_removeAt_40 ?_
      obtain ⟨v4, e_v4, h⟩ := mw_bind h
      refine mw_iald F hK hI (t0 := 0) rfl e_v4 d_S_removeAt_41 ?_
      obtain ⟨S5, e_S5, h⟩ := mw_bind h
      refine mw_iast F hK hI (t0 := 0) rfl e_S5 d_S_removeAt_42 (fun H locs hI => ?_)
      refine mt_aload_n F hl 0 rfl rfl d_S_removeAt_43 ?_
      obtain ⟨v6, e_v6, h⟩ := mw_bind h
      refine mw_getR F hK hI (in_1 _) (hc_1) 2 (by decide) (mA k_13) rfl e_v6 d_S_removeAt_44 ?_
      refine mt_iload_n F hl 2 rfl rfl d_S_removeAt_47 ?_
      refine mt_aload_n F hl 0 rfl rfl d_S_removeAt_48 ?_
      obtain ⟨v7, e_v7, h⟩ := mw_bind h
      refine mw_getR F hK hI (in_1 _) (hc_1) 2 (by decide) (mA k_13) rfl e_v7 d_S_removeAt_49 ?_
      refine mt_iload_n F hl 2 rfl rfl d_S_removeAt_52 ?_
      refine lv_iconst (v := 1) F.1 F.2.1 d_S_removeAt_53 (by decide) ?_
      refine lv_iadd F.1 F.2.1 d_S_removeAt_54 ?_
      obtain ⟨v8, e_v8, h⟩ := mw_bind h
      refine mw_lald F hK hI (t0 := 1) rfl e_v8 d_S_removeAt_55 ?_
      obtain ⟨S9, e_S9, h⟩ := mw_bind h
      refine mw_last F hK hI (t0 := 1) rfl e_S9 d_S_removeAt_56 (fun H locs hI => ?_)
      refine mt_iinc (v := (x2 + 1)) F hl 2 rfl (by rw [show Int32.ofInt 1 = (1 : Int32) from by decide]) (Nat.le_of_ble_eq_true rfl) rfl d_S_removeAt_57 (fun ls hl => ?_)
      have hl : mt_L ls 3 [(2, (.inl (x2 + 1))), (0, (.inr (.inr (some b0)))), (1, (.inl x1))] := hl
      refine lv_goto (tgt := 21) F.1 F.2.1 d_S_removeAt_60 (by decide) ?_
      refine W.widen (k := 0) (n := 0) (Nat.le_of_ble_eq_true rfl) (Nat.le_of_ble_eq_true rfl) ?_
      exact ih _ _ _ _ _ _ hI (mt_sub hl [1, 2, 0] rfl) h
set_option maxHeartbeats 4000000 in
set_option maxRecDepth 100000 in
theorem c_S_removeAt (l : Launch) (D : va_G) (dA : Nat → ClassId) (A : Nat → Prop) (b0 : Nat) (a1 : Int32) (S : mc_S) (out : mc_S) (hf : f_S_removeAt b0 a1 S = some out) : Met l y_S_removeAt (cd_S_removeAt :: ALL) rm_S_removeAt (va_Pc [va_rf (some b0), .int a1] (mw_B D dA CL (TY dA) ZZ A S)) (va_Qv (fun (_ : Unit) => True) (fun _ t => mw_R D dA CL A out t) A) 0 0 A := by
  refine mw_ofW (cc := b_S_removeAt) (maxL := 3) (ret := none) [(.inr (.inr (some b0))), (.inl a1)] rfl (by decide +kernel) (Nat.le_of_ble_eq_true rfl) (L := [(0, (.inr (.inr (some b0)))), (1, (.inl a1))]) rfl (fun p e s m args below meth c F hr hlk hnm hK ls hl hI => ?_)
  have h := hf
  unfold f_S_removeAt at h
  refine mt_aload_n F hl 0 rfl rfl d_S_removeAt_0 ?_
  refine mt_iload_n F hl 1 rfl rfl d_S_removeAt_1 ?_
  obtain ⟨b1, e_b1, h⟩ := mw_bind h
  obtain ⟨o2, e_o2, h⟩ := mw_bind h
  refine mw_calli hI (mw_runV F hK hI (c_S_holds l D dA A _ _ _ _ e_o2) (cwV 1 F.2.2.2.2 (gd_V k_97 k_98 k_99 k_100 k_33) rfl rfl rfl hd_S_holds ⟨Nat.le_of_ble_eq_true rfl, Nat.le_of_ble_eq_true rfl⟩) (hc_1) e_b1 rfl hl.1 rfl (Nat.zero_le _) d_S_removeAt_2 ⟨(Nat.le_of_ble_eq_true rfl), (Nat.le_of_ble_eq_true rfl)⟩) (fun H locs hI => ?_)
  refine lv_if_ne (tgt := 9) F.1 F.2.1 d_S_removeAt_5 (by decide) (fun hc => ?_) (fun hc => ?_)
  · rw [if_neg hc] at h
    refine mt_aload_n F hl 0 rfl rfl d_S_removeAt_9 ?_
    refine lv_dup F.1 F.2.1 d_S_removeAt_10 (mw_cat _) ?_
    obtain ⟨v3, e_v3, h⟩ := mw_bind h
    refine mw_getI F hK hI (in_1 _) (hc_1) 3 (by decide) (mA k_9) rfl e_v3 d_S_removeAt_11 ?_
    refine lv_iconst (v := 1) F.1 F.2.1 d_S_removeAt_14 (by decide) ?_
    refine lv_isub F.1 F.2.1 d_S_removeAt_15 ?_
    obtain ⟨S4, e_S4, h⟩ := mw_bind h
    refine mw_put F hK hI (in_1 _) ty_1 ok_1 nm_1 (hc_1) 3 (by decide) (mA k_9) rfl rfl rfl rfl e_S4 d_S_removeAt_16 (fun H locs hI => ?_)
    refine mt_iload_n F hl 1 rfl rfl d_S_removeAt_19 ?_
    refine mt_istore_n F hl rfl (Nat.le_of_ble_eq_true rfl) rfl d_S_removeAt_20 (fun ls hl => ?_)
    have hl : mt_L ls 3 [(2, (.inl a1)), (0, (.inr (.inr (some b0)))), (1, (.inl a1))] := hl
    refine W.widen (k := 0) (n := 0) (Nat.le_of_ble_eq_true rfl) (Nat.le_of_ble_eq_true rfl) ?_
    exact (s_S_removeAt l D dA A b0 F hr hlk hnm hK out 5000) _ _ _ _ _ _ hI (mt_sub hl [1, 2, 0] rfl) h
  · rw [if_pos hc] at h
    exact mw_vret F hI hr hlk h (Nat.le_of_ble_eq_true rfl) (Nat.le_of_ble_eq_true rfl) d_S_removeAt_8
end
section
abbrev rm_S_append : Room := { frames := 0, cells := 0, slots := 0, locals := 0 }
set_option maxHeartbeats 4000000 in
set_option maxRecDepth 100000 in
theorem c_S_append (l : Launch) (D : va_G) (dA : Nat → ClassId) (A : Nat → Prop) (b0 : Nat) (a1 : Int32) (a2 : Int64) (S : mc_S) (out : (Int32 × mc_S)) (hf : f_S_append b0 a1 a2 S = some out) : Met l y_S_append (cd_S_append :: ALL) rm_S_append (va_Pc [va_rf (some b0), .int a1, .long a2] (mw_B D dA CL (TY dA) ZZ A S)) (va_Qi (fun x (_ : Unit) => x = out.1) (fun _ t => mw_R D dA CL A out.2 t) A) 0 0 A := by
  refine mw_ofW (cc := b_S_append) (maxL := 4) (ret := (some .int)) [(.inr (.inr (some b0))), (.inl a1), (.inr (.inl a2))] rfl (by decide +kernel) (Nat.le_of_ble_eq_true rfl) (L := [(0, (.inr (.inr (some b0)))), (1, (.inl a1)), (2, (.inr (.inl a2)))]) rfl (fun p e s m args below meth c F hr hlk hnm hK ls hl hI => ?_)
  have h := hf
  unfold f_S_append at h
  refine mt_aload_n F hl 0 rfl rfl d_S_append_0 ?_
  obtain ⟨v1, e_v1, h⟩ := mw_bind h
  refine mw_getI F hK hI (in_1 _) (hc_1) 3 (by decide) (mA k_9) rfl e_v1 d_S_append_1 ?_
  refine mt_aload_n F hl 0 rfl rfl d_S_append_4 ?_
  obtain ⟨v2, e_v2, h⟩ := mw_bind h
  refine mw_getR F hK hI (in_1 _) (hc_1) 2 (by decide) (mA k_13) rfl e_v2 d_S_append_5 ?_
  obtain ⟨v3, e_v3, h⟩ := mw_bind h
  refine mw_alen F hK hI (t0 := 1) rfl e_v3 d_S_append_8 ?_
  refine lv_icmp_lt (tgt := 15) F.1 F.2.1 d_S_append_9 (by decide) (fun hc => ?_) (fun hc => ?_)
  · rw [if_pos hc] at h
    refine mt_aload_n F hl 0 rfl rfl d_S_append_15 ?_
    obtain ⟨v4, e_v4, h⟩ := mw_bind h
    refine mw_getR F hK hI (in_1 _) (hc_1) 1 (by decide) (mA k_11) rfl e_v4 d_S_append_16 ?_
    refine mt_aload_n F hl 0 rfl rfl d_S_append_19 ?_
    obtain ⟨v5, e_v5, h⟩ := mw_bind h
    refine mw_getI F hK hI (in_1 _) (hc_1) 3 (by decide) (mA k_9) rfl e_v5 d_S_append_20 ?_
    refine mt_iload_n F hl 1 rfl rfl d_S_append_23 ?_
    obtain ⟨S6, e_S6, h⟩ := mw_bind h
    refine mw_iast F hK hI (t0 := 0) rfl e_S6 d_S_append_24 (fun H locs hI => ?_)
    refine mt_aload_n F hl 0 rfl rfl d_S_append_25 ?_
    obtain ⟨v7, e_v7, h⟩ := mw_bind h
    refine mw_getR F hK hI (in_1 _) (hc_1) 2 (by decide) (mA k_13) rfl e_v7 d_S_append_26 ?_
    refine mt_aload_n F hl 0 rfl rfl d_S_append_29 ?_
    obtain ⟨v8, e_v8, h⟩ := mw_bind h
    refine mw_getI F hK hI (in_1 _) (hc_1) 3 (by decide) (mA k_9) rfl e_v8 d_S_append_30 ?_
    refine mt_lload_n F hl 2 rfl rfl d_S_append_33 ?_
    obtain ⟨S9, e_S9, h⟩ := mw_bind h
    refine mw_last F hK hI (t0 := 1) rfl e_S9 d_S_append_34 (fun H locs hI => ?_)
    refine mt_aload_n F hl 0 rfl rfl d_S_append_35 ?_
    refine lv_dup F.1 F.2.1 d_S_append_36 (mw_cat _) ?_
    obtain ⟨v10, e_v10, h⟩ := mw_bind h
    refine mw_getI F hK hI (in_1 _) (hc_1) 3 (by decide) (mA k_9) rfl e_v10 d_S_append_37 ?_
    refine lv_iconst (v := 1) F.1 F.2.1 d_S_append_40 (by decide) ?_
    refine lv_iadd F.1 F.2.1 d_S_append_41 ?_
    obtain ⟨S11, e_S11, h⟩ := mw_bind h
    refine mw_put F hK hI (in_1 _) ty_1 ok_1 nm_1 (hc_1) 3 (by decide) (mA k_9) rfl rfl rfl rfl e_S11 d_S_append_42 (fun H locs hI => ?_)
    refine mt_aload_n F hl 0 rfl rfl d_S_append_45 ?_
    obtain ⟨v12, e_v12, h⟩ := mw_bind h
    refine mw_getI F hK hI (in_1 _) (hc_1) 3 (by decide) (mA k_9) rfl e_v12 d_S_append_46 ?_
    exact mw_iret F hI hr hlk h (Nat.le_of_ble_eq_true rfl) (Nat.le_of_ble_eq_true rfl) d_S_append_49
  · rw [if_neg hc] at h
    refine lv_bipush (v := (-3)) F.1 F.2.1 d_S_append_12 (by decide) ?_
    exact mw_iret F hI hr hlk h (Nat.le_of_ble_eq_true rfl) (Nat.le_of_ble_eq_true rfl) d_S_append_14
abbrev rm_S_assign : Room := { frames := 2, cells := 0, slots := 0, locals := 43 }
set_option maxHeartbeats 4000000 in
set_option maxRecDepth 100000 in
theorem c_S_assign (l : Launch) (D : va_G) (dA : Nat → ClassId) (A : Nat → Prop) (b0 : Nat) (a1 : Int32) (a2 : Int64) (S : mc_S) (out : (Int32 × mc_S)) (hf : f_S_assign b0 a1 a2 S = some out) : Met l y_S_assign (cd_S_assign :: ALL) rm_S_assign (va_Pc [va_rf (some b0), .int a1, .long a2] (mw_B D dA CL (TY dA) ZZ A S)) (va_Qi (fun x (_ : Unit) => x = out.1) (fun _ t => mw_R D dA CL A out.2 t) A) 0 0 A := by
  refine mw_ofW (cc := b_S_assign) (maxL := 5) (ret := (some .int)) [(.inr (.inr (some b0))), (.inl a1), (.inr (.inl a2))] rfl (by decide +kernel) (Nat.le_of_ble_eq_true rfl) (L := [(0, (.inr (.inr (some b0)))), (1, (.inl a1)), (2, (.inr (.inl a2)))]) rfl (fun p e s m args below meth c F hr hlk hnm hK ls hl hI => ?_)
  have h := hf
  unfold f_S_assign at h
  refine mt_aload_n F hl 0 rfl rfl d_S_assign_0 ?_
  refine mt_iload_n F hl 1 rfl rfl d_S_assign_1 ?_
  obtain ⟨b1, e_b1, h⟩ := mw_bind h
  obtain ⟨o2, e_o2, h⟩ := mw_bind h
  refine mw_calli hI (mw_runV F hK hI (c_S_placeOf l D dA A _ _ _ _ e_o2) (cwV 1 F.2.2.2.2 (gd_V k_101 k_102 k_103 k_104 k_33) rfl rfl rfl hd_S_placeOf ⟨Nat.le_of_ble_eq_true rfl, Nat.le_of_ble_eq_true rfl⟩) (hc_1) e_b1 rfl hl.1 rfl (Nat.zero_le _) d_S_assign_2 ⟨(Nat.le_of_ble_eq_true rfl), (Nat.le_of_ble_eq_true rfl)⟩) (fun H locs hI => ?_)
  refine mt_istore F hl (Nat.le_of_ble_eq_true rfl) rfl d_S_assign_5 (fun ls hl => ?_)
  have hl : mt_L ls 5 [(4, (.inl o2.1)), (0, (.inr (.inr (some b0)))), (1, (.inl a1)), (2, (.inr (.inl a2)))] := hl
  refine mt_lload_n F hl 3 rfl rfl d_S_assign_7 ?_
  refine lv_ldc2 (v := 1099511627776) F.1 F.2.1 F.2.2.2.1 (F.2.2.2.2 _ (mA k_105)) d_S_assign_8 ?_
  refine W.lcmp F.1 F.2.1 d_S_assign_11 ?_
  refine lv_if_ne (tgt := 26) F.1 F.2.1 d_S_assign_12 (by decide) (fun hc => ?_) (fun hc => ?_)
  · rw [if_neg hc] at h
    refine mt_iload F hl 0 rfl d_S_assign_26 ?_
    refine mt_aload_n F hl 1 rfl rfl d_S_assign_28 ?_
    obtain ⟨v3, e_v3, h⟩ := mw_bind h
    refine mw_getI F hK hI (in_1 _) (hc_1) 3 (by decide) (mA k_9) rfl e_v3 d_S_assign_29 ?_
    refine lv_icmp_ne (tgt := 42) F.1 F.2.1 d_S_assign_32 (by decide) (fun hc => ?_) (fun hc => ?_)
    · rw [if_neg hc] at h
      refine mt_aload_n F hl 1 rfl rfl d_S_assign_42 ?_
      obtain ⟨v4, e_v4, h⟩ := mw_bind h
      refine mw_getR F hK hI (in_1 _) (hc_1) 2 (by decide) (mA k_13) rfl e_v4 d_S_assign_43 ?_
      refine mt_iload F hl 0 rfl d_S_assign_46 ?_
      refine mt_lload_n F hl 3 rfl rfl d_S_assign_48 ?_
      obtain ⟨S5, e_S5, h⟩ := mw_bind h
      refine mw_last F hK hI (t0 := 1) rfl e_S5 d_S_assign_49 (fun H locs hI => ?_)
      refine mt_aload_n F hl 1 rfl rfl d_S_assign_50 ?_
      obtain ⟨v6, e_v6, h⟩ := mw_bind h
      refine mw_getI F hK hI (in_1 _) (hc_1) 3 (by decide) (mA k_9) rfl e_v6 d_S_assign_51 ?_
      exact mw_iret F hI hr hlk h (Nat.le_of_ble_eq_true rfl) (Nat.le_of_ble_eq_true rfl) d_S_assign_54
    · rw [if_pos hc] at h
      refine mt_aload_n F hl 1 rfl rfl d_S_assign_35 ?_
      refine mt_iload_n F hl 2 rfl rfl d_S_assign_36 ?_
      refine mt_lload_n F hl 3 rfl rfl d_S_assign_37 ?_
      obtain ⟨b7, e_b7, h⟩ := mw_bind h
      obtain ⟨o8, e_o8, h⟩ := mw_bind h
      refine mw_calli hI (mw_runV F hK hI (c_S_append l D dA A _ _ _ _ _ e_o8) (cwV 2 F.2.2.2.2 (gd_V k_106 k_107 k_108 k_109 k_33) rfl rfl rfl hd_S_append ⟨Nat.le_of_ble_eq_true rfl, Nat.le_of_ble_eq_true rfl⟩) (hc_1) e_b7 rfl hl.1 rfl (Nat.zero_le _) d_S_assign_38 ⟨(Nat.le_of_ble_eq_true rfl), (Nat.le_of_ble_eq_true rfl)⟩) (fun H locs hI => ?_)
      exact mw_iret F hI hr hlk h (Nat.le_of_ble_eq_true rfl) (Nat.le_of_ble_eq_true rfl) d_S_assign_41
  · rw [if_pos hc] at h
    refine mt_aload_n F hl 1 rfl rfl d_S_assign_15 ?_
    refine mt_iload F hl 0 rfl d_S_assign_16 ?_
    obtain ⟨b9, e_b9, h⟩ := mw_bind h
    obtain ⟨S10, e_S10, h⟩ := mw_bind h
    refine mw_callv hI (mw_runV F hK hI (c_S_removeAt l D dA A _ _ _ _ e_S10) (cwV 1 F.2.2.2.2 (gd_V k_110 k_111 k_112 k_113 k_33) rfl rfl rfl hd_S_removeAt ⟨Nat.le_of_ble_eq_true rfl, Nat.le_of_ble_eq_true rfl⟩) (hc_1) e_b9 rfl hl.1 rfl (Nat.zero_le _) d_S_assign_18 ⟨(Nat.le_of_ble_eq_true rfl), (Nat.le_of_ble_eq_true rfl)⟩) (fun H locs hI => ?_)
    refine mt_aload_n F hl 1 rfl rfl d_S_assign_21 ?_
    obtain ⟨v11, e_v11, h⟩ := mw_bind h
    refine mw_getI F hK hI (in_1 _) (hc_1) 3 (by decide) (mA k_9) rfl e_v11 d_S_assign_22 ?_
    exact mw_iret F hI hr hlk h (Nat.le_of_ble_eq_true rfl) (Nat.le_of_ble_eq_true rfl) d_S_assign_25
abbrev rm_K_set : Room := { frames := 4, cells := 3, slots := 44, locals := 78 }
set_option maxHeartbeats 4000000 in
set_option maxRecDepth 100000 in
theorem c_K_set (l : Launch) (D : va_G) (dA : Nat → ClassId) (A : Nat → Prop) (b0 : Nat) (a1 : Int32) (a2 : Int32) (a3 : Int32) (a4 : Int32) (S : mc_S) (out : (Int32 × mc_S)) (hf : f_K_set b0 a1 a2 a3 a4 S = some out) : Met l y_K_set (cd_K_set :: ALL) rm_K_set (va_Pc [va_rf (some b0), .int a1, .int a2, .int a3, .int a4] (mw_B D dA CL (TY dA) ZZ A S)) (va_Qi (fun x (_ : Unit) => x = out.1) (fun _ t => mw_R D dA CL A out.2 t) A) 3 44 A := by
  refine mw_ofW (cc := b_K_set) (maxL := 8) (ret := (some .int)) [(.inr (.inr (some b0))), (.inl a1), (.inl a2), (.inl a3), (.inl a4)] rfl (by decide +kernel) (Nat.le_of_ble_eq_true rfl) (L := [(0, (.inr (.inr (some b0)))), (1, (.inl a1)), (2, (.inl a2)), (3, (.inl a3)), (4, (.inl a4))]) rfl (fun p e s m args below meth c F hr hlk hnm hK ls hl hI => ?_)
  have h := hf
  unfold f_K_set at h
  refine mt_aload_n F hl 0 rfl rfl d_K_set_0 ?_
  refine mt_iload_n F hl 3 rfl rfl d_K_set_1 ?_
  refine mt_iload F hl 4 rfl d_K_set_2 ?_
  obtain ⟨b1, e_b1, h⟩ := mw_bind h
  obtain ⟨o2, e_o2, h⟩ := mw_bind h
  refine mw_calll hI (mw_runV F hK hI (c_K_valueOf l D dA A _ _ _ _ _ e_o2) (cwV 2 F.2.2.2.2 (gd_V k_114 k_115 k_116 k_117 k_78) rfl rfl rfl hd_K_valueOf ⟨Nat.le_of_ble_eq_true rfl, Nat.le_of_ble_eq_true rfl⟩) (hc_0) e_b1 rfl hl.1 rfl (Nat.zero_le _) d_K_set_4 ⟨(Nat.le_of_ble_eq_true rfl), (Nat.le_of_ble_eq_true rfl)⟩) (fun H locs hI => ?_)
  refine mt_lstore F hl (Nat.le_of_ble_eq_true rfl) rfl d_K_set_7 (fun ls hl => ?_)
  have hl : mt_L ls 8 [(5, (.inr (.inl o2.1))), (0, (.inr (.inr (some b0)))), (1, (.inl a1)), (2, (.inl a2)), (3, (.inl a3)), (4, (.inl a4))] := hl
  refine mt_aload_n F hl 1 rfl rfl d_K_set_9 ?_
  refine mt_iload_n F hl 2 rfl rfl d_K_set_10 ?_
  refine lv_iconst (v := 1) F.1 F.2.1 d_K_set_11 (by decide) ?_
  obtain ⟨b3, e_b3, h⟩ := mw_bind h
  obtain ⟨o4, e_o4, h⟩ := mw_bind h
  refine mw_callq hI (mw_runV F hK hI (c_K_own l D dA A _ _ _ _ _ e_o4) (cwV 2 F.2.2.2.2 (gd_V k_118 k_119 k_120 k_121 k_78) rfl rfl rfl hd_K_own ⟨Nat.le_of_ble_eq_true rfl, Nat.le_of_ble_eq_true rfl⟩) (hc_0) e_b3 rfl hl.1 rfl (Nat.zero_le _) d_K_set_12 ⟨(Nat.le_of_ble_eq_true rfl), (Nat.le_of_ble_eq_true rfl)⟩) (fun H locs hI => ?_)
  refine mt_astore F hl (Nat.le_of_ble_eq_true rfl) rfl d_K_set_15 (fun ls hl => ?_)
  have hl : mt_L ls 8 [(7, (.inr (.inr o4.1))), (5, (.inr (.inl o2.1))), (0, (.inr (.inr (some b0)))), (1, (.inl a1)), (2, (.inl a2)), (3, (.inl a3)), (4, (.inl a4))] := hl
  refine mt_lload F hl 1 rfl d_K_set_17 ?_
  refine lv_ldc2 (v := (-1099511627776)) F.1 F.2.1 F.2.2.2.1 (F.2.2.2.2 _ (mA k_70)) d_K_set_19 ?_
  refine W.lcmp F.1 F.2.1 d_K_set_22 ?_
  refine lv_if_eq (tgt := 31) F.1 F.2.1 d_K_set_23 (by decide) (fun hc => ?_) (fun hc => ?_)
  · rw [if_pos hc] at h
    refine lv_iconst (v := (-1)) F.1 F.2.1 d_K_set_31 (by decide) ?_
    refine lv_goto (tgt := 43) F.1 F.2.1 d_K_set_32 (by decide) ?_
    exact mw_iret F hI hr hlk h (Nat.le_of_ble_eq_true rfl) (Nat.le_of_ble_eq_true rfl) d_K_set_43
  · rw [if_neg hc] at h
    refine mt_aload F hl 0 rfl d_K_set_26 ?_
    refine mw_ifnonnull (tgt := 35) F d_K_set_28 (by decide) (fun hc => ?_) (fun hc => ?_)
    · rw [if_neg hc] at h
      refine mt_aload F hl 0 rfl d_K_set_35 ?_
      refine mt_iload_n F hl 4 rfl rfl d_K_set_37 ?_
      refine mt_lload F hl 1 rfl d_K_set_38 ?_
      obtain ⟨b5, e_b5, h⟩ := mw_bind h
      obtain ⟨o6, e_o6, h⟩ := mw_bind h
      refine mw_calli hI (mw_runV F hK hI (c_S_assign l D dA A _ _ _ _ _ e_o6) (cwV 2 F.2.2.2.2 (gd_V k_122 k_123 k_124 k_125 k_33) rfl rfl rfl hd_S_assign ⟨Nat.le_of_ble_eq_true rfl, Nat.le_of_ble_eq_true rfl⟩) (hc_1) e_b5 rfl hl.1 rfl (Nat.zero_le _) d_K_set_40 ⟨(Nat.le_of_ble_eq_true rfl), (Nat.le_of_ble_eq_true rfl)⟩) (fun H locs hI => ?_)
      exact mw_iret F hI hr hlk h (Nat.le_of_ble_eq_true rfl) (Nat.le_of_ble_eq_true rfl) d_K_set_43
    · rw [if_pos hc] at h
      refine lv_iconst (v := (-1)) F.1 F.2.1 d_K_set_31 (by decide) ?_
      refine lv_goto (tgt := 43) F.1 F.2.1 d_K_set_32 (by decide) ?_
      exact mw_iret F hI hr hlk h (Nat.le_of_ble_eq_true rfl) (Nat.le_of_ble_eq_true rfl) d_K_set_43
abbrev rm_M_in : Room := { frames := 0, cells := 0, slots := 0, locals := 0 }
set_option maxHeartbeats 4000000 in
set_option maxRecDepth 100000 in
theorem c_M_in (l : Launch) (D : va_G) (dA : Nat → ClassId) (A : Nat → Prop) (a1 : Int64) (a2 : Int64) (a3 : Int64) (S : mc_S) (out : (Int32 × mc_S)) (hf : f_M_in a1 a2 a3 S = some out) : Met l y_M_in (cd_M_in :: ALL) rm_M_in (va_Pc [.long a1, .long a2, .long a3] (mw_B D dA CL (TY dA) ZZ A S)) (va_Qi (fun x (_ : Unit) => x = out.1) (fun _ t => mw_R D dA CL A out.2 t) A) 0 0 A := by
  refine mw_ofW (cc := b_M_in) (maxL := 6) (ret := (some .boolean)) [(.inr (.inl a1)), (.inr (.inl a2)), (.inr (.inl a3))] rfl (by decide +kernel) (Nat.le_of_ble_eq_true rfl) (L := [(0, (.inr (.inl a1))), (2, (.inr (.inl a2))), (4, (.inr (.inl a3)))]) rfl (fun p e s m args below meth c F hr hlk hnm hK ls hl hI => ?_)
  have h := hf
  unfold f_M_in at h
  refine mt_lload_n F hl 0 rfl rfl d_M_in_0 ?_
  refine mt_lload_n F hl 1 rfl rfl d_M_in_1 ?_
  refine W.lcmp F.1 F.2.1 d_M_in_2 ?_
  refine lv_if_lt (tgt := 17) F.1 F.2.1 d_M_in_3 (by decide) (fun hc => ?_) (fun hc => ?_)
  · rw [if_pos hc] at h
    refine lv_iconst (v := 0) F.1 F.2.1 d_M_in_17 (by decide) ?_
    exact mw_zret F hI hr hlk rfl h (Nat.le_of_ble_eq_true rfl) (Nat.le_of_ble_eq_true rfl) d_M_in_18
  · rw [if_neg hc] at h
    refine mt_lload_n F hl 0 rfl rfl d_M_in_6 ?_
    refine mt_lload F hl 2 rfl d_M_in_7 ?_
    refine W.lcmp F.1 F.2.1 d_M_in_9 ?_
    refine lv_if_gt (tgt := 17) F.1 F.2.1 d_M_in_10 (by decide) (fun hc => ?_) (fun hc => ?_)
    · rw [if_pos hc] at h
      refine lv_iconst (v := 0) F.1 F.2.1 d_M_in_17 (by decide) ?_
      exact mw_zret F hI hr hlk rfl h (Nat.le_of_ble_eq_true rfl) (Nat.le_of_ble_eq_true rfl) d_M_in_18
    · rw [if_neg hc] at h
      refine lv_iconst (v := 1) F.1 F.2.1 d_M_in_13 (by decide) ?_
      refine lv_goto (tgt := 18) F.1 F.2.1 d_M_in_14 (by decide) ?_
      exact mw_zret F hI hr hlk rfl h (Nat.le_of_ble_eq_true rfl) (Nat.le_of_ble_eq_true rfl) d_M_in_18
abbrev rm_M_is : Room := { frames := 1, cells := 0, slots := 0, locals := 25 }
set_option maxHeartbeats 4000000 in
set_option maxRecDepth 100000 in
theorem c_M_is (l : Launch) (D : va_G) (dA : Nat → ClassId) (A : Nat → Prop) (b0 : Nat) (a1 : Int32) (a2 : Int32) (S : mc_S) (out : (Int32 × mc_S)) (hf : f_M_is b0 a1 a2 S = some out) : Met l y_M_is (cd_M_is :: ALL) rm_M_is (va_Pc [va_rf (some b0), .int a1, .int a2] (mw_B D dA CL (TY dA) ZZ A S)) (va_Qi (fun x (_ : Unit) => x = out.1) (fun _ t => mw_R D dA CL A out.2 t) A) 0 0 A := by
  refine mw_ofW (cc := b_M_is) (maxL := 3) (ret := (some .boolean)) [(.inr (.inr (some b0))), (.inl a1), (.inl a2)] rfl (by decide +kernel) (Nat.le_of_ble_eq_true rfl) (L := [(0, (.inr (.inr (some b0)))), (1, (.inl a1)), (2, (.inl a2))]) rfl (fun p e s m args below meth c F hr hlk hnm hK ls hl hI => ?_)
  have h := hf
  unfold f_M_is at h
  refine mt_iload_n F hl 1 rfl rfl d_M_is_0 ?_
  refine lv_i2l F.1 F.2.1 d_M_is_1 rfl ?_
  refine lv_lconst (v := 0) F.1 F.2.1 d_M_is_2 (by decide) ?_
  refine lv_ldc2 (v := 99) F.1 F.2.1 F.2.2.2.1 (F.2.2.2.2 _ (mA k_126)) d_M_is_3 ?_
  obtain ⟨o1, e_o1, h⟩ := mw_bind h
  refine mw_calli hI (mw_runS F hK hI (c_M_in l D dA A _ _ _ _ _ e_o1) (cwS 3 F.2.2.2.2 (gd_S k_127 k_128 k_129 k_130) rfl rfl rfl hd_M_in ⟨Nat.le_of_ble_eq_true rfl, Nat.le_of_ble_eq_true rfl⟩) rfl hl.1 rfl (Nat.zero_le _) d_M_is_6 ⟨(Nat.le_of_ble_eq_true rfl), (Nat.le_of_ble_eq_true rfl)⟩) (fun H locs hI => ?_)
  refine lv_if_eq (tgt := 29) F.1 F.2.1 d_M_is_9 (by decide) (fun hc => ?_) (fun hc => ?_)
  · rw [if_pos hc] at h
    refine lv_iconst (v := 0) F.1 F.2.1 d_M_is_29 (by decide) ?_
    exact mw_zret F hI hr hlk rfl h (Nat.le_of_ble_eq_true rfl) (Nat.le_of_ble_eq_true rfl) d_M_is_30
  · rw [if_neg hc] at h
    refine mt_aload_n F hl 0 rfl rfl d_M_is_12 ?_
    obtain ⟨v2, e_v2, h⟩ := mw_bind h
    refine mw_getR F hK hI (in_4 _) (hc_4) 0 (by decide) (mA k_56) rfl e_v2 d_M_is_13 ?_
    obtain ⟨v3, e_v3, h⟩ := mw_bind h
    refine mw_getR F hK hI (in_5 _) (hc_5) 0 (by decide) (mA k_63) rfl e_v3 d_M_is_16 ?_
    refine mt_iload_n F hl 1 rfl rfl d_M_is_19 ?_
    obtain ⟨v4, e_v4, h⟩ := mw_bind h
    refine mw_iald F hK hI (t0 := 0) rfl e_v4 d_M_is_20 ?_
    refine mt_iload_n F hl 2 rfl rfl d_M_is_21 ?_
    refine lv_icmp_ne (tgt := 29) F.1 F.2.1 d_M_is_22 (by decide) (fun hc => ?_) (fun hc => ?_)
    · rw [if_neg hc] at h
      refine lv_iconst (v := 0) F.1 F.2.1 d_M_is_29 (by decide) ?_
      exact mw_zret F hI hr hlk rfl h (Nat.le_of_ble_eq_true rfl) (Nat.le_of_ble_eq_true rfl) d_M_is_30
    · rw [if_pos hc] at h
      refine lv_iconst (v := 1) F.1 F.2.1 d_M_is_25 (by decide) ?_
      refine lv_goto (tgt := 30) F.1 F.2.1 d_M_is_26 (by decide) ?_
      exact mw_zret F hI hr hlk rfl h (Nat.le_of_ble_eq_true rfl) (Nat.le_of_ble_eq_true rfl) d_M_is_30
abbrev rm_M_isThere : Room := { frames := 1, cells := 0, slots := 0, locals := 25 }
set_option maxHeartbeats 4000000 in
set_option maxRecDepth 100000 in
theorem c_M_isThere (l : Launch) (D : va_G) (dA : Nat → ClassId) (A : Nat → Prop) (b0 : Nat) (a1 : Int32) (S : mc_S) (out : (Int32 × mc_S)) (hf : f_M_isThere b0 a1 S = some out) : Met l y_M_isThere (cd_M_isThere :: ALL) rm_M_isThere (va_Pc [va_rf (some b0), .int a1] (mw_B D dA CL (TY dA) ZZ A S)) (va_Qi (fun x (_ : Unit) => x = out.1) (fun _ t => mw_R D dA CL A out.2 t) A) 0 0 A := by
  refine mw_ofW (cc := b_M_isThere) (maxL := 2) (ret := (some .boolean)) [(.inr (.inr (some b0))), (.inl a1)] rfl (by decide +kernel) (Nat.le_of_ble_eq_true rfl) (L := [(0, (.inr (.inr (some b0)))), (1, (.inl a1))]) rfl (fun p e s m args below meth c F hr hlk hnm hK ls hl hI => ?_)
  have h := hf
  unfold f_M_isThere at h
  refine mt_iload_n F hl 1 rfl rfl d_M_isThere_0 ?_
  refine lv_i2l F.1 F.2.1 d_M_isThere_1 rfl ?_
  refine lv_lconst (v := 0) F.1 F.2.1 d_M_isThere_2 (by decide) ?_
  refine lv_ldc2 (v := 99) F.1 F.2.1 F.2.2.2.1 (F.2.2.2.2 _ (mA k_126)) d_M_isThere_3 ?_
  obtain ⟨o1, e_o1, h⟩ := mw_bind h
  refine mw_calli hI (mw_runS F hK hI (c_M_in l D dA A _ _ _ _ _ e_o1) (cwS 3 F.2.2.2.2 (gd_S k_127 k_128 k_129 k_130) rfl rfl rfl hd_M_in ⟨Nat.le_of_ble_eq_true rfl, Nat.le_of_ble_eq_true rfl⟩) rfl hl.1 rfl (Nat.zero_le _) d_M_isThere_6 ⟨(Nat.le_of_ble_eq_true rfl), (Nat.le_of_ble_eq_true rfl)⟩) (fun H locs hI => ?_)
  refine lv_if_eq (tgt := 28) F.1 F.2.1 d_M_isThere_9 (by decide) (fun hc => ?_) (fun hc => ?_)
  · rw [if_pos hc] at h
    refine lv_iconst (v := 0) F.1 F.2.1 d_M_isThere_28 (by decide) ?_
    exact mw_zret F hI hr hlk rfl h (Nat.le_of_ble_eq_true rfl) (Nat.le_of_ble_eq_true rfl) d_M_isThere_29
  · rw [if_neg hc] at h
    refine mt_aload_n F hl 0 rfl rfl d_M_isThere_12 ?_
    obtain ⟨v2, e_v2, h⟩ := mw_bind h
    refine mw_getR F hK hI (in_4 _) (hc_4) 0 (by decide) (mA k_56) rfl e_v2 d_M_isThere_13 ?_
    obtain ⟨v3, e_v3, h⟩ := mw_bind h
    refine mw_getR F hK hI (in_5 _) (hc_5) 0 (by decide) (mA k_63) rfl e_v3 d_M_isThere_16 ?_
    refine mt_iload_n F hl 1 rfl rfl d_M_isThere_19 ?_
    obtain ⟨v4, e_v4, h⟩ := mw_bind h
    refine mw_iald F hK hI (t0 := 0) rfl e_v4 d_M_isThere_20 ?_
    refine lv_if_eq (tgt := 28) F.1 F.2.1 d_M_isThere_21 (by decide) (fun hc => ?_) (fun hc => ?_)
    · rw [if_pos hc] at h
      refine lv_iconst (v := 0) F.1 F.2.1 d_M_isThere_28 (by decide) ?_
      exact mw_zret F hI hr hlk rfl h (Nat.le_of_ble_eq_true rfl) (Nat.le_of_ble_eq_true rfl) d_M_isThere_29
    · rw [if_neg hc] at h
      refine lv_iconst (v := 1) F.1 F.2.1 d_M_isThere_24 (by decide) ?_
      refine lv_goto (tgt := 29) F.1 F.2.1 d_M_isThere_25 (by decide) ?_
      exact mw_zret F hI hr hlk rfl h (Nat.le_of_ble_eq_true rfl) (Nat.le_of_ble_eq_true rfl) d_M_isThere_29
abbrev rm_M_isValue : Room := { frames := 2, cells := 0, slots := 0, locals := 46 }
set_option maxHeartbeats 4000000 in
set_option maxRecDepth 100000 in
theorem c_M_isValue (l : Launch) (D : va_G) (dA : Nat → ClassId) (A : Nat → Prop) (b0 : Nat) (a1 : Int32) (a2 : Int32) (S : mc_S) (out : (Int32 × mc_S)) (hf : f_M_isValue b0 a1 a2 S = some out) : Met l y_M_isValue (cd_M_isValue :: ALL) rm_M_isValue (va_Pc [va_rf (some b0), .int a1, .int a2] (mw_B D dA CL (TY dA) ZZ A S)) (va_Qi (fun x (_ : Unit) => x = out.1) (fun _ t => mw_R D dA CL A out.2 t) A) 0 0 A := by
  refine mw_ofW (cc := b_M_isValue) (maxL := 3) (ret := (some .boolean)) [(.inr (.inr (some b0))), (.inl a1), (.inl a2)] rfl (by decide +kernel) (Nat.le_of_ble_eq_true rfl) (L := [(0, (.inr (.inr (some b0)))), (1, (.inl a1)), (2, (.inl a2))]) rfl (fun p e s m args below meth c F hr hlk hnm hK ls hl hI => ?_)
  have h := hf
  unfold f_M_isValue at h
  refine mt_iload_n F hl 1 rfl rfl d_M_isValue_0 ?_
  refine lv_if_eq (tgt := 22) F.1 F.2.1 d_M_isValue_1 (by decide) (fun hc => ?_) (fun hc => ?_)
  · rw [if_pos hc] at h
    refine lv_iconst (v := 1) F.1 F.2.1 d_M_isValue_22 (by decide) ?_
    refine lv_goto (tgt := 27) F.1 F.2.1 d_M_isValue_23 (by decide) ?_
    exact mw_zret F hI hr hlk rfl h (Nat.le_of_ble_eq_true rfl) (Nat.le_of_ble_eq_true rfl) d_M_isValue_27
  · rw [if_neg hc] at h
    refine mt_iload_n F hl 1 rfl rfl d_M_isValue_4 ?_
    refine lv_iconst (v := 1) F.1 F.2.1 d_M_isValue_5 (by decide) ?_
    refine lv_icmp_eq (tgt := 22) F.1 F.2.1 d_M_isValue_6 (by decide) (fun hc => ?_) (fun hc => ?_)
    · rw [if_pos hc] at h
      refine lv_iconst (v := 1) F.1 F.2.1 d_M_isValue_22 (by decide) ?_
      refine lv_goto (tgt := 27) F.1 F.2.1 d_M_isValue_23 (by decide) ?_
      exact mw_zret F hI hr hlk rfl h (Nat.le_of_ble_eq_true rfl) (Nat.le_of_ble_eq_true rfl) d_M_isValue_27
    · rw [if_neg hc] at h
      refine mt_iload_n F hl 1 rfl rfl d_M_isValue_9 ?_
      refine lv_iconst (v := 2) F.1 F.2.1 d_M_isValue_10 (by decide) ?_
      refine lv_icmp_ne (tgt := 26) F.1 F.2.1 d_M_isValue_11 (by decide) (fun hc => ?_) (fun hc => ?_)
      · rw [if_neg hc] at h
        refine lv_iconst (v := 0) F.1 F.2.1 d_M_isValue_26 (by decide) ?_
        exact mw_zret F hI hr hlk rfl h (Nat.le_of_ble_eq_true rfl) (Nat.le_of_ble_eq_true rfl) d_M_isValue_27
      · rw [if_pos hc] at h
        refine mt_aload_n F hl 0 rfl rfl d_M_isValue_14 ?_
        refine mt_iload_n F hl 2 rfl rfl d_M_isValue_15 ?_
        obtain ⟨b1, e_b1, h⟩ := mw_bind h
        obtain ⟨o2, e_o2, h⟩ := mw_bind h
        refine mw_calli hI (mw_runV F hK hI (c_M_isThere l D dA A _ _ _ _ e_o2) (cwV 1 F.2.2.2.2 (gd_V k_131 k_132 k_133 k_134 k_130) rfl rfl rfl hd_M_isThere ⟨Nat.le_of_ble_eq_true rfl, Nat.le_of_ble_eq_true rfl⟩) (hc_4) e_b1 rfl hl.1 rfl (Nat.zero_le _) d_M_isValue_16 ⟨(Nat.le_of_ble_eq_true rfl), (Nat.le_of_ble_eq_true rfl)⟩) (fun H locs hI => ?_)
        refine lv_if_eq (tgt := 26) F.1 F.2.1 d_M_isValue_19 (by decide) (fun hc => ?_) (fun hc => ?_)
        · rw [if_pos hc] at h
          refine lv_iconst (v := 0) F.1 F.2.1 d_M_isValue_26 (by decide) ?_
          exact mw_zret F hI hr hlk rfl h (Nat.le_of_ble_eq_true rfl) (Nat.le_of_ble_eq_true rfl) d_M_isValue_27
        · rw [if_neg hc] at h
          refine lv_iconst (v := 1) F.1 F.2.1 d_M_isValue_22 (by decide) ?_
          refine lv_goto (tgt := 27) F.1 F.2.1 d_M_isValue_23 (by decide) ?_
          exact mw_zret F hI hr hlk rfl h (Nat.le_of_ble_eq_true rfl) (Nat.le_of_ble_eq_true rfl) d_M_isValue_27
abbrev rm_N_findField : Room := { frames := 0, cells := 0, slots := 0, locals := 0 }
set_option maxHeartbeats 4000000 in
set_option maxRecDepth 100000 in
theorem s_N_findField (l : Launch) (D : va_G) (dA : Nat → ClassId) (A : Nat → Prop) (b0 : Nat) {p : Program} {e : Env} {s : State} {m : MethodId} {args : Array Value} {below : List Frame} {meth : Method} {c : Code} (F : CallFix p m c b_N_findField 4 s args (cd_N_findField :: ALL) y_N_findField.cls) (hr : meth.sig.returnType = (some .int)) (hlk : meth.locks = false) (hnm : meth.name = y_N_findField.name) (hK : mw_K D CL (TY dA) ZZ s) (out : (Int32 × mc_S)) : ∀ n : Nat, (∀ (x1 : Int32) (x2 : Int32) (x3 : Int32) (S : mc_S) (H : Heap) (locs : List Loc) (ls : Array Slot), mw_I D dA CL A S s.heap H locs → mt_L ls 4 [(0, (.inr (.inr (some b0)))), (1, (.inl x1)), (2, (.inl x2)), (3, (.inl x3))] → g_N_findField b0 n x1 x2 x3 S = some out → W p l e rm_N_findField s m args below meth c H locs (0) (0) (MQ below (va_Qi (fun x (_ : Unit) => x = out.1) (fun _ t => mw_R D dA CL A out.2 t) A) args s 0 0 A) (F0 m 2 ls [])) := by
  intro n
  induction n with
  | zero =>
    intro x1 x2 x3 S H locs ls hI hl h; have h : (none : Option (Int32 × mc_S)) = some out := h; cases h
  | succ k0 ih =>
    intro x1 x2 x3 S H locs ls hI hl h
    have h : q_N_findField_0 b0 (g_N_findField b0 k0) x1 x2 x3 S = some out := h
    unfold q_N_findField_0 at h
    refine mt_iload_n F hl 3 rfl rfl d_N_findField_2 ?_
    refine mt_aload_n F hl 0 rfl rfl d_N_findField_3 ?_
    obtain ⟨v1, e_v1, h⟩ := mw_bind h
    refine mw_getR F hK hI (in_5 _) (hc_5) 1 (by decide) (mA k_45) rfl e_v1 d_N_findField_4 ?_
    refine mt_iload_n F hl 1 rfl rfl d_N_findField_7 ?_
    obtain ⟨v2, e_v2, h⟩ := mw_bind h
    refine mw_iald F hK hI (t0 := 0) rfl e_v2 d_N_findField_8 ?_
    refine lv_icmp_ge (tgt := 35) F.1 F.2.1 d_N_findField_9 (by decide) (fun hc => ?_) (fun hc => ?_)
    · rw [if_pos hc] at h
      refine lv_iconst (v := (-1)) F.1 F.2.1 d_N_findField_35 (by decide) ?_
      exact mw_iret F hI hr hlk h (Nat.le_of_ble_eq_true rfl) (Nat.le_of_ble_eq_true rfl) d_N_findField_36
    · rw [if_neg hc] at h
      refine mt_aload_n F hl 0 rfl rfl d_N_findField_12 ?_
      obtain ⟨v3, e_v3, h⟩ := mw_bind h
      refine mw_getR F hK hI (in_5 _) (hc_5) 2 (by decide) (mA k_46) rfl e_v3 d_N_findField_13 ?_
      refine lv_bipush (v := 8) F.1 F.2.1 d_N_findField_16 (by decide) ?_
      refine mt_iload_n F hl 1 rfl rfl d_N_findField_18 ?_
      refine lv_imul F.1 F.2.1 d_N_findField_19 ?_
      refine mt_iload_n F hl 3 rfl rfl d_N_findField_20 ?_
      refine lv_iadd F.1 F.2.1 d_N_findField_21 ?_
      obtain ⟨v4, e_v4, h⟩ := mw_bind h
      refine mw_iald F hK hI (t0 := 0) rfl e_v4 d_N_findField_22 ?_
      refine mt_iload_n F hl 2 rfl rfl d_N_findField_23 ?_
      refine lv_icmp_ne (tgt := 29) F.1 F.2.1 d_N_findField_24 (by decide) (fun hc => ?_) (fun hc => ?_)
      · rw [if_neg hc] at h
        refine mt_iinc (v := (x3 + 1)) F hl 3 rfl (by rw [show Int32.ofInt 1 = (1 : Int32) from by decide]) (Nat.le_of_ble_eq_true rfl) rfl d_N_findField_29 (fun ls hl => ?_)
        have hl : mt_L ls 4 [(3, (.inl (x3 + 1))), (0, (.inr (.inr (some b0)))), (1, (.inl x1)), (2, (.inl x2))] := hl
        refine lv_goto (tgt := 2) F.1 F.2.1 d_N_findField_32 (by decide) ?_
        refine W.widen (k := 0) (n := 0) (Nat.le_of_ble_eq_true rfl) (Nat.le_of_ble_eq_true rfl) ?_
        exact ih _ _ _ _ _ _ _ hI (mt_sub hl [1, 2, 3, 0] rfl) h
      · rw [if_pos hc] at h
        refine mt_iload_n F hl 3 rfl rfl d_N_findField_27 ?_
        exact mw_iret F hI hr hlk h (Nat.le_of_ble_eq_true rfl) (Nat.le_of_ble_eq_true rfl) d_N_findField_28
set_option maxHeartbeats 4000000 in
set_option maxRecDepth 100000 in
theorem c_N_findField (l : Launch) (D : va_G) (dA : Nat → ClassId) (A : Nat → Prop) (b0 : Nat) (a1 : Int32) (a2 : Int32) (S : mc_S) (out : (Int32 × mc_S)) (hf : f_N_findField b0 a1 a2 S = some out) : Met l y_N_findField (cd_N_findField :: ALL) rm_N_findField (va_Pc [va_rf (some b0), .int a1, .int a2] (mw_B D dA CL (TY dA) ZZ A S)) (va_Qi (fun x (_ : Unit) => x = out.1) (fun _ t => mw_R D dA CL A out.2 t) A) 0 0 A := by
  refine mw_ofW (cc := b_N_findField) (maxL := 4) (ret := (some .int)) [(.inr (.inr (some b0))), (.inl a1), (.inl a2)] rfl (by decide +kernel) (Nat.le_of_ble_eq_true rfl) (L := [(0, (.inr (.inr (some b0)))), (1, (.inl a1)), (2, (.inl a2))]) rfl (fun p e s m args below meth c F hr hlk hnm hK ls hl hI => ?_)
  have h := hf
  unfold f_N_findField at h
  refine lv_iconst (v := 0) F.1 F.2.1 d_N_findField_0 (by decide) ?_
  refine mt_istore_n F hl rfl (Nat.le_of_ble_eq_true rfl) rfl d_N_findField_1 (fun ls hl => ?_)
  have hl : mt_L ls 4 [(3, (.inl 0)), (0, (.inr (.inr (some b0)))), (1, (.inl a1)), (2, (.inl a2))] := hl
  refine W.widen (k := 0) (n := 0) (Nat.le_of_ble_eq_true rfl) (Nat.le_of_ble_eq_true rfl) ?_
  exact (s_N_findField l D dA A b0 F hr hlk hnm hK out 5000) _ _ _ _ _ _ _ hI (mt_sub hl [1, 2, 3, 0] rfl) h
abbrev rm_M_value : Room := { frames := 0, cells := 0, slots := 0, locals := 0 }
set_option maxHeartbeats 4000000 in
set_option maxRecDepth 100000 in
theorem c_M_value (l : Launch) (D : va_G) (dA : Nat → ClassId) (A : Nat → Prop) (a1 : Int32) (a2 : Int32) (S : mc_S) (out : (Int64 × mc_S)) (hf : f_M_value a1 a2 S = some out) : Met l y_M_value (cd_M_value :: ALL) rm_M_value (va_Pc [.int a1, .int a2] (mw_B D dA CL (TY dA) ZZ A S)) (va_Ql (fun x (_ : Unit) => x = out.1) (fun _ t => mw_R D dA CL A out.2 t) A) 0 0 A := by
  refine mw_ofW (cc := b_M_value) (maxL := 2) (ret := (some .long)) [(.inl a1), (.inl a2)] rfl (by decide +kernel) (Nat.le_of_ble_eq_true rfl) (L := [(0, (.inl a1)), (1, (.inl a2))]) rfl (fun p e s m args below meth c F hr hlk hnm hK ls hl hI => ?_)
  have h := hf
  unfold f_M_value at h
  refine mt_iload_n F hl 0 rfl rfl d_M_value_0 ?_
  refine lv_if_ne (tgt := 10) F.1 F.2.1 d_M_value_1 (by decide) (fun hc => ?_) (fun hc => ?_)
  · rw [if_neg hc] at h
    refine mt_iload_n F hl 0 rfl rfl d_M_value_10 ?_
    refine lv_iconst (v := 1) F.1 F.2.1 d_M_value_11 (by decide) ?_
    refine lv_icmp_ne (tgt := 20) F.1 F.2.1 d_M_value_12 (by decide) (fun hc => ?_) (fun hc => ?_)
    · rw [if_neg hc] at h
      refine lv_ldc2 (v := 1099511627777) F.1 F.2.1 F.2.2.2.1 (F.2.2.2.2 _ (mA k_135)) d_M_value_20 ?_
      refine mt_iload_n F hl 1 rfl rfl d_M_value_23 ?_
      refine lv_i2l F.1 F.2.1 d_M_value_24 rfl ?_
      refine lv_ladd F.1 F.2.1 d_M_value_25 ?_
      exact mw_lret F hI hr hlk h (Nat.le_of_ble_eq_true rfl) (Nat.le_of_ble_eq_true rfl) d_M_value_26
    · rw [if_pos hc] at h
      refine mt_iload_n F hl 1 rfl rfl d_M_value_15 ?_
      refine lv_i2l F.1 F.2.1 d_M_value_16 rfl ?_
      refine lv_goto (tgt := 26) F.1 F.2.1 d_M_value_17 (by decide) ?_
      exact mw_lret F hI hr hlk h (Nat.le_of_ble_eq_true rfl) (Nat.le_of_ble_eq_true rfl) d_M_value_26
  · rw [if_pos hc] at h
    refine lv_ldc2 (v := 1099511627776) F.1 F.2.1 F.2.2.2.1 (F.2.2.2.2 _ (mA k_136)) d_M_value_4 ?_
    refine lv_goto (tgt := 26) F.1 F.2.1 d_M_value_7 (by decide) ?_
    exact mw_lret F hI hr hlk h (Nat.le_of_ble_eq_true rfl) (Nat.le_of_ble_eq_true rfl) d_M_value_26
abbrev rm_M_set : Room := { frames := 3, cells := 0, slots := 0, locals := 68 }
set_option maxHeartbeats 4000000 in
set_option maxRecDepth 100000 in
theorem s_M_set (l : Launch) (D : va_G) (dA : Nat → ClassId) (A : Nat → Prop) (b0 : Nat) {p : Program} {e : Env} {s : State} {m : MethodId} {args : Array Value} {below : List Frame} {meth : Method} {c : Code} (F : CallFix p m c b_M_set 9 s args (cd_M_set :: ALL) y_M_set.cls) (hr : meth.sig.returnType = (some .int)) (hlk : meth.locks = false) (hnm : meth.name = y_M_set.name) (hK : mw_K D CL (TY dA) ZZ s) (out : (Int32 × mc_S)) : ∀ n : Nat, (∀ (x1 : Int32) (x2 : Int32) (x3 : Int32) (x4 : Int32) (x5 : Int32) (x6 : Int32) (x7 : Int32) (x8 : Int32) (S : mc_S) (H : Heap) (locs : List Loc) (ls : Array Slot), mw_I D dA CL A S s.heap H locs → mt_L ls 9 [(0, (.inr (.inr (some b0)))), (1, (.inl x1)), (2, (.inl x2)), (3, (.inl x3)), (4, (.inl x4)), (5, (.inl x5)), (6, (.inl x6)), (7, (.inl x7)), (8, (.inl x8))] → g_M_set b0 n x1 x2 x3 x4 x5 x6 x7 x8 S = some out → W p l e rm_M_set s m args below meth c H locs (0) (0) (MQ below (va_Qi (fun x (_ : Unit) => x = out.1) (fun _ t => mw_R D dA CL A out.2 t) A) args s 0 0 A) (F0 m 80 ls [])) := by
  intro n
  induction n with
  | zero =>
    intro x1 x2 x3 x4 x5 x6 x7 x8 S H locs ls hI hl h; have h : (none : Option (Int32 × mc_S)) = some out := h; cases h
  | succ k0 ih =>
    intro x1 x2 x3 x4 x5 x6 x7 x8 S H locs ls hI hl h
    have h : q_M_set_0 b0 (g_M_set b0 k0) x1 x2 x3 x4 x5 x6 x7 x8 S = some out := h
    unfold q_M_set_0 at h
    refine mt_iload F hl 8 rfl d_M_set_80 ?_
    refine mt_aload_n F hl 0 rfl rfl d_M_set_82 ?_
    obtain ⟨v1, e_v1, h⟩ := mw_bind h
    refine mw_getR F hK hI (in_4 _) (hc_4) 0 (by decide) (mA k_56) rfl e_v1 d_M_set_83 ?_
    obtain ⟨v2, e_v2, h⟩ := mw_bind h
    refine mw_getR F hK hI (in_5 _) (hc_5) 1 (by decide) (mA k_64) rfl e_v2 d_M_set_86 ?_
    refine mt_iload_n F hl 1 rfl rfl d_M_set_89 ?_
    obtain ⟨v3, e_v3, h⟩ := mw_bind h
    refine mw_iald F hK hI (t0 := 0) rfl e_v3 d_M_set_90 ?_
    refine lv_icmp_ge (tgt := 156) F.1 F.2.1 d_M_set_91 (by decide) (fun hc => ?_) (fun hc => ?_)
    · rw [if_pos hc] at h
      refine mt_aload_n F hl 0 rfl rfl d_M_set_156 ?_
      obtain ⟨v4, e_v4, h⟩ := mw_bind h
      refine mw_getR F hK hI (in_4 _) (hc_4) 0 (by decide) (mA k_56) rfl e_v4 d_M_set_157 ?_
      obtain ⟨v5, e_v5, h⟩ := mw_bind h
      refine mw_getR F hK hI (in_5 _) (hc_5) 1 (by decide) (mA k_64) rfl e_v5 d_M_set_160 ?_
      refine mt_iload_n F hl 1 rfl rfl d_M_set_163 ?_
      obtain ⟨v6, e_v6, h⟩ := mw_bind h
      refine mw_iald F hK hI (t0 := 0) rfl e_v6 d_M_set_164 ?_
      exact mw_iret F hI hr hlk h (Nat.le_of_ble_eq_true rfl) (Nat.le_of_ble_eq_true rfl) d_M_set_165
    · rw [if_neg hc] at h
      refine mt_aload_n F hl 0 rfl rfl d_M_set_94 ?_
      obtain ⟨v7, e_v7, h⟩ := mw_bind h
      refine mw_getR F hK hI (in_4 _) (hc_4) 0 (by decide) (mA k_56) rfl e_v7 d_M_set_95 ?_
      obtain ⟨v8, e_v8, h⟩ := mw_bind h
      refine mw_getR F hK hI (in_5 _) (hc_5) 2 (by decide) (mA k_153) rfl e_v8 d_M_set_98 ?_
      refine mt_iload F hl 6 rfl d_M_set_101 ?_
      refine mt_iload F hl 8 rfl d_M_set_103 ?_
      refine lv_iadd F.1 F.2.1 d_M_set_105 ?_
      refine mt_aload_n F hl 0 rfl rfl d_M_set_106 ?_
      obtain ⟨v9, e_v9, h⟩ := mw_bind h
      refine mw_getR F hK hI (in_4 _) (hc_4) 0 (by decide) (mA k_56) rfl e_v9 d_M_set_107 ?_
      obtain ⟨v10, e_v10, h⟩ := mw_bind h
      refine mw_getR F hK hI (in_5 _) (hc_5) 2 (by decide) (mA k_153) rfl e_v10 d_M_set_110 ?_
      refine mt_iload F hl 6 rfl d_M_set_113 ?_
      refine mt_iload F hl 8 rfl d_M_set_115 ?_
      refine lv_iadd F.1 F.2.1 d_M_set_117 ?_
      refine lv_iconst (v := 1) F.1 F.2.1 d_M_set_118 (by decide) ?_
      refine lv_iadd F.1 F.2.1 d_M_set_119 ?_
      obtain ⟨v11, e_v11, h⟩ := mw_bind h
      refine mw_iald F hK hI (t0 := 0) rfl e_v11 d_M_set_120 ?_
      obtain ⟨S12, e_S12, h⟩ := mw_bind h
      refine mw_iast F hK hI (t0 := 0) rfl e_S12 d_M_set_121 (fun H locs hI => ?_)
      refine mt_aload_n F hl 0 rfl rfl d_M_set_122 ?_
      obtain ⟨v13, e_v13, h⟩ := mw_bind h
      refine mw_getR F hK hI (in_4 _) (hc_4) 0 (by decide) (mA k_56) rfl e_v13 d_M_set_123 ?_
      obtain ⟨v14, e_v14, h⟩ := mw_bind h
      refine mw_getR F hK hI (in_5 _) (hc_5) 4 (by decide) (mA k_149) rfl e_v14 d_M_set_126 ?_
      refine mt_iload F hl 7 rfl d_M_set_129 ?_
      refine mt_iload F hl 8 rfl d_M_set_131 ?_
      refine lv_iadd F.1 F.2.1 d_M_set_133 ?_
      refine mt_aload_n F hl 0 rfl rfl d_M_set_134 ?_
      obtain ⟨v15, e_v15, h⟩ := mw_bind h
      refine mw_getR F hK hI (in_4 _) (hc_4) 0 (by decide) (mA k_56) rfl e_v15 d_M_set_135 ?_
      obtain ⟨v16, e_v16, h⟩ := mw_bind h
      refine mw_getR F hK hI (in_5 _) (hc_5) 4 (by decide) (mA k_149) rfl e_v16 d_M_set_138 ?_
      refine mt_iload F hl 7 rfl d_M_set_141 ?_
      refine mt_iload F hl 8 rfl d_M_set_143 ?_
      refine lv_iadd F.1 F.2.1 d_M_set_145 ?_
      refine lv_iconst (v := 1) F.1 F.2.1 d_M_set_146 (by decide) ?_
      refine lv_iadd F.1 F.2.1 d_M_set_147 ?_
      obtain ⟨v17, e_v17, h⟩ := mw_bind h
      refine mw_lald F hK hI (t0 := 1) rfl e_v17 d_M_set_148 ?_
      obtain ⟨S18, e_S18, h⟩ := mw_bind h
      refine mw_last F hK hI (t0 := 1) rfl e_S18 d_M_set_149 (fun H locs hI => ?_)
      refine mt_iinc (v := (x8 + 1)) F hl 8 rfl (by rw [show Int32.ofInt 1 = (1 : Int32) from by decide]) (Nat.le_of_ble_eq_true rfl) rfl d_M_set_150 (fun ls hl => ?_)
      have hl : mt_L ls 9 [(8, (.inl (x8 + 1))), (0, (.inr (.inr (some b0)))), (1, (.inl x1)), (2, (.inl x2)), (3, (.inl x3)), (4, (.inl x4)), (5, (.inl x5)), (6, (.inl x6)), (7, (.inl x7))] := hl
      refine lv_goto (tgt := 80) F.1 F.2.1 d_M_set_153 (by decide) ?_
      refine W.widen (k := 0) (n := 0) (Nat.le_of_ble_eq_true rfl) (Nat.le_of_ble_eq_true rfl) ?_
      exact ih _ _ _ _ _ _ _ _ _ _ _ _ hI (mt_sub hl [1, 2, 3, 4, 5, 6, 7, 8, 0] rfl) h
set_option maxHeartbeats 4000000 in
set_option maxRecDepth 100000 in
theorem c_M_set (l : Launch) (D : va_G) (dA : Nat → ClassId) (A : Nat → Prop) (b0 : Nat) (a1 : Int32) (a2 : Int32) (a3 : Int32) (a4 : Int32) (S : mc_S) (out : (Int32 × mc_S)) (hf : f_M_set b0 a1 a2 a3 a4 S = some out) : Met l y_M_set (cd_M_set :: ALL) rm_M_set (va_Pc [va_rf (some b0), .int a1, .int a2, .int a3, .int a4] (mw_B D dA CL (TY dA) ZZ A S)) (va_Qi (fun x (_ : Unit) => x = out.1) (fun _ t => mw_R D dA CL A out.2 t) A) 0 0 A := by
  refine mw_ofW (cc := b_M_set) (maxL := 9) (ret := (some .int)) [(.inr (.inr (some b0))), (.inl a1), (.inl a2), (.inl a3), (.inl a4)] rfl (by decide +kernel) (Nat.le_of_ble_eq_true rfl) (L := [(0, (.inr (.inr (some b0)))), (1, (.inl a1)), (2, (.inl a2)), (3, (.inl a3)), (4, (.inl a4))]) rfl (fun p e s m args below meth c F hr hlk hnm hK ls hl hI => ?_)
  have h := hf
  unfold f_M_set at h
  refine mt_aload_n F hl 0 rfl rfl d_M_set_0 ?_
  refine mt_iload_n F hl 1 rfl rfl d_M_set_1 ?_
  refine lv_iconst (v := 1) F.1 F.2.1 d_M_set_2 (by decide) ?_
  obtain ⟨b1, e_b1, h⟩ := mw_bind h
  obtain ⟨o2, e_o2, h⟩ := mw_bind h
  refine mw_calli hI (mw_runV F hK hI (c_M_is l D dA A _ _ _ _ _ e_o2) (cwV 2 F.2.2.2.2 (gd_V k_137 k_138 k_139 k_140 k_130) rfl rfl rfl hd_M_is ⟨Nat.le_of_ble_eq_true rfl, Nat.le_of_ble_eq_true rfl⟩) (hc_4) e_b1 rfl hl.1 rfl (Nat.zero_le _) d_M_set_3 ⟨(Nat.le_of_ble_eq_true rfl), (Nat.le_of_ble_eq_true rfl)⟩) (fun H locs hI => ?_)
  refine lv_if_eq (tgt := 19) F.1 F.2.1 d_M_set_6 (by decide) (fun hc => ?_) (fun hc => ?_)
  · rw [if_pos hc] at h
    refine lv_iconst (v := (-1)) F.1 F.2.1 d_M_set_19 (by decide) ?_
    exact mw_iret F hI hr hlk h (Nat.le_of_ble_eq_true rfl) (Nat.le_of_ble_eq_true rfl) d_M_set_20
  · rw [if_neg hc] at h
    refine mt_aload_n F hl 0 rfl rfl d_M_set_9 ?_
    refine mt_iload_n F hl 3 rfl rfl d_M_set_10 ?_
    refine mt_iload F hl 4 rfl d_M_set_11 ?_
    obtain ⟨b3, e_b3, h⟩ := mw_bind h
    obtain ⟨o4, e_o4, h⟩ := mw_bind h
    refine mw_calli hI (mw_runV F hK hI (c_M_isValue l D dA A _ _ _ _ _ e_o4) (cwV 2 F.2.2.2.2 (gd_V k_141 k_142 k_143 k_144 k_130) rfl rfl rfl hd_M_isValue ⟨Nat.le_of_ble_eq_true rfl, Nat.le_of_ble_eq_true rfl⟩) (hc_4) e_b3 rfl hl.1 rfl (Nat.zero_le _) d_M_set_13 ⟨(Nat.le_of_ble_eq_true rfl), (Nat.le_of_ble_eq_true rfl)⟩) (fun H locs hI => ?_)
    refine lv_if_ne (tgt := 21) F.1 F.2.1 d_M_set_16 (by decide) (fun hc => ?_) (fun hc => ?_)
    · rw [if_neg hc] at h
      refine mt_aload_n F hl 0 rfl rfl d_M_set_21 ?_
      obtain ⟨v5, e_v5, h⟩ := mw_bind h
      refine mw_getR F hK hI (in_4 _) (hc_4) 0 (by decide) (mA k_56) rfl e_v5 d_M_set_22 ?_
      refine mt_iload_n F hl 1 rfl rfl d_M_set_25 ?_
      refine mt_iload_n F hl 2 rfl rfl d_M_set_26 ?_
      obtain ⟨b6, e_b6, h⟩ := mw_bind h
      obtain ⟨o7, e_o7, h⟩ := mw_bind h
      refine mw_calli hI (mw_runV F hK hI (c_N_findField l D dA A _ _ _ _ _ e_o7) (cwV 2 F.2.2.2.2 (gd_V k_145 k_146 k_147 k_148 k_53) rfl rfl rfl hd_N_findField ⟨Nat.le_of_ble_eq_true rfl, Nat.le_of_ble_eq_true rfl⟩) (hc_5) e_b6 rfl hl.1 rfl (Nat.zero_le _) d_M_set_27 ⟨(Nat.le_of_ble_eq_true rfl), (Nat.le_of_ble_eq_true rfl)⟩) (fun H locs hI => ?_)
      refine mt_istore F hl (Nat.le_of_ble_eq_true rfl) rfl d_M_set_30 (fun ls hl => ?_)
      have hl : mt_L ls 9 [(5, (.inl o7.1)), (0, (.inr (.inr (some b0)))), (1, (.inl a1)), (2, (.inl a2)), (3, (.inl a3)), (4, (.inl a4))] := hl
      refine lv_bipush (v := 8) F.1 F.2.1 d_M_set_32 (by decide) ?_
      refine mt_iload_n F hl 2 rfl rfl d_M_set_34 ?_
      refine lv_imul F.1 F.2.1 d_M_set_35 ?_
      refine mt_istore F hl (Nat.le_of_ble_eq_true rfl) rfl d_M_set_36 (fun ls hl => ?_)
      have hl : mt_L ls 9 [(6, (.inl (8 * a1))), (5, (.inl o7.1)), (0, (.inr (.inr (some b0)))), (1, (.inl a1)), (2, (.inl a2)), (3, (.inl a3)), (4, (.inl a4))] := hl
      refine lv_bipush (v := 20) F.1 F.2.1 d_M_set_38 (by decide) ?_
      refine mt_iload_n F hl 3 rfl rfl d_M_set_40 ?_
      refine lv_imul F.1 F.2.1 d_M_set_41 ?_
      refine mt_istore F hl (Nat.le_of_ble_eq_true rfl) rfl d_M_set_42 (fun ls hl => ?_)
      have hl : mt_L ls 9 [(7, (.inl (20 * a1))), (6, (.inl (8 * a1))), (5, (.inl o7.1)), (0, (.inr (.inr (some b0)))), (1, (.inl a1)), (2, (.inl a2)), (3, (.inl a3)), (4, (.inl a4))] := hl
      refine mt_iload_n F hl 6 rfl rfl d_M_set_44 ?_
      refine lv_if_ne (tgt := 166) F.1 F.2.1 d_M_set_45 (by decide) (fun hc => ?_) (fun hc => ?_)
      · rw [if_neg hc] at h
        refine mt_iload F hl 2 rfl d_M_set_166 ?_
        refine lv_if_ge (tgt := 226) F.1 F.2.1 d_M_set_168 (by decide) (fun hc => ?_) (fun hc => ?_)
        · rw [if_pos hc] at h
          refine mt_aload_n F hl 3 rfl rfl d_M_set_226 ?_
          obtain ⟨v8, e_v8, h⟩ := mw_bind h
          refine mw_getR F hK hI (in_4 _) (hc_4) 0 (by decide) (mA k_56) rfl e_v8 d_M_set_227 ?_
          obtain ⟨v9, e_v9, h⟩ := mw_bind h
          refine mw_getR F hK hI (in_5 _) (hc_5) 4 (by decide) (mA k_149) rfl e_v9 d_M_set_230 ?_
          refine mt_iload F hl 0 rfl d_M_set_233 ?_
          refine mt_iload F hl 2 rfl d_M_set_235 ?_
          refine lv_iadd F.1 F.2.1 d_M_set_237 ?_
          refine mt_iload_n F hl 6 rfl rfl d_M_set_238 ?_
          refine mt_iload F hl 7 rfl d_M_set_239 ?_
          obtain ⟨o10, e_o10, h⟩ := mw_bind h
          refine mw_calll hI (mw_runS F hK hI (c_M_value l D dA A _ _ _ _ e_o10) (cwS 2 F.2.2.2.2 (gd_S k_150 k_151 k_152 k_130) rfl rfl rfl hd_M_value ⟨Nat.le_of_ble_eq_true rfl, Nat.le_of_ble_eq_true rfl⟩) rfl hl.1 rfl (by simp [mw_cat, mw_cI, mw_cL]) d_M_set_241 ⟨(Nat.le_of_ble_eq_true rfl), (Nat.le_of_ble_eq_true rfl)⟩) (fun H locs hI => ?_)
          obtain ⟨S11, e_S11, h⟩ := mw_bind h
          refine mw_last F hK hI (t0 := 1) rfl e_S11 d_M_set_244 (fun H locs hI => ?_)
          refine mt_aload_n F hl 3 rfl rfl d_M_set_245 ?_
          obtain ⟨v12, e_v12, h⟩ := mw_bind h
          refine mw_getR F hK hI (in_4 _) (hc_4) 0 (by decide) (mA k_56) rfl e_v12 d_M_set_246 ?_
          obtain ⟨v13, e_v13, h⟩ := mw_bind h
          refine mw_getR F hK hI (in_5 _) (hc_5) 1 (by decide) (mA k_64) rfl e_v13 d_M_set_249 ?_
          refine mt_iload_n F hl 4 rfl rfl d_M_set_252 ?_
          obtain ⟨v14, e_v14, h⟩ := mw_bind h
          refine mw_iald F hK hI (t0 := 0) rfl e_v14 d_M_set_253 ?_
          exact mw_iret F hI hr hlk h (Nat.le_of_ble_eq_true rfl) (Nat.le_of_ble_eq_true rfl) d_M_set_254
        · rw [if_neg hc] at h
          refine mt_aload_n F hl 3 rfl rfl d_M_set_171 ?_
          obtain ⟨v15, e_v15, h⟩ := mw_bind h
          refine mw_getR F hK hI (in_4 _) (hc_4) 0 (by decide) (mA k_56) rfl e_v15 d_M_set_172 ?_
          obtain ⟨v16, e_v16, h⟩ := mw_bind h
          refine mw_getR F hK hI (in_5 _) (hc_5) 1 (by decide) (mA k_64) rfl e_v16 d_M_set_175 ?_
          refine mt_iload_n F hl 4 rfl rfl d_M_set_178 ?_
          obtain ⟨v17, e_v17, h⟩ := mw_bind h
          refine mw_iald F hK hI (t0 := 0) rfl e_v17 d_M_set_179 ?_
          refine lv_bipush (v := 8) F.1 F.2.1 d_M_set_180 (by decide) ?_
          refine lv_icmp_ne (tgt := 188) F.1 F.2.1 d_M_set_182 (by decide) (fun hc => ?_) (fun hc => ?_)
          · rw [if_neg hc] at h
            refine mt_aload_n F hl 3 rfl rfl d_M_set_188 ?_
            obtain ⟨v18, e_v18, h⟩ := mw_bind h
            refine mw_getR F hK hI (in_4 _) (hc_4) 0 (by decide) (mA k_56) rfl e_v18 d_M_set_189 ?_
            obtain ⟨v19, e_v19, h⟩ := mw_bind h
            refine mw_getR F hK hI (in_5 _) (hc_5) 1 (by decide) (mA k_64) rfl e_v19 d_M_set_192 ?_
            refine mt_iload_n F hl 4 rfl rfl d_M_set_195 ?_
            obtain ⟨v20, e_v20, h⟩ := mw_bind h
            refine mw_iald F hK hI (t0 := 0) rfl e_v20 d_M_set_196 ?_
            refine mt_istore F hl (Nat.le_of_ble_eq_true rfl) rfl d_M_set_197 (fun ls hl => ?_)
            have hl : mt_L ls 9 [(5, (.inl v20)), (7, (.inl (20 * a1))), (6, (.inl (8 * a1))), (0, (.inr (.inr (some b0)))), (1, (.inl a1)), (2, (.inl a2)), (3, (.inl a3)), (4, (.inl a4))] := hl
            refine mt_aload_n F hl 3 rfl rfl d_M_set_199 ?_
            obtain ⟨v21, e_v21, h⟩ := mw_bind h
            refine mw_getR F hK hI (in_4 _) (hc_4) 0 (by decide) (mA k_56) rfl e_v21 d_M_set_200 ?_
            obtain ⟨v22, e_v22, h⟩ := mw_bind h
            refine mw_getR F hK hI (in_5 _) (hc_5) 1 (by decide) (mA k_64) rfl e_v22 d_M_set_203 ?_
            refine mt_iload_n F hl 4 rfl rfl d_M_set_206 ?_
            refine lv_dup2_11 F.1 F.2.1 d_M_set_207 rfl (mw_cat _) ?_
            obtain ⟨v23, e_v23, h⟩ := mw_bind h
            refine mw_iald F hK hI (t0 := 0) rfl e_v23 d_M_set_208 ?_
            refine lv_iconst (v := 1) F.1 F.2.1 d_M_set_209 (by decide) ?_
            refine lv_iadd F.1 F.2.1 d_M_set_210 ?_
            obtain ⟨S24, e_S24, h⟩ := mw_bind h
            refine mw_iast F hK hI (t0 := 0) rfl e_S24 d_M_set_211 (fun H locs hI => ?_)
            refine mt_aload_n F hl 3 rfl rfl d_M_set_212 ?_
            obtain ⟨v25, e_v25, h⟩ := mw_bind h
            refine mw_getR F hK hI (in_4 _) (hc_4) 0 (by decide) (mA k_56) rfl e_v25 d_M_set_213 ?_
            obtain ⟨v26, e_v26, h⟩ := mw_bind h
            refine mw_getR F hK hI (in_5 _) (hc_5) 2 (by decide) (mA k_153) rfl e_v26 d_M_set_216 ?_
            refine mt_iload F hl 2 rfl d_M_set_219 ?_
            refine mt_iload F hl 0 rfl d_M_set_221 ?_
            refine lv_iadd F.1 F.2.1 d_M_set_223 ?_
            refine mt_iload_n F hl 5 rfl rfl d_M_set_224 ?_
            obtain ⟨S27, e_S27, h⟩ := mw_bind h
            refine mw_iast F hK hI (t0 := 0) rfl e_S27 d_M_set_225 (fun H locs hI => ?_)
            refine mt_aload_n F hl 3 rfl rfl d_M_set_226 ?_
            obtain ⟨v28, e_v28, h⟩ := mw_bind h
            refine mw_getR F hK hI (in_4 _) (hc_4) 0 (by decide) (mA k_56) rfl e_v28 d_M_set_227 ?_
            obtain ⟨v29, e_v29, h⟩ := mw_bind h
            refine mw_getR F hK hI (in_5 _) (hc_5) 4 (by decide) (mA k_149) rfl e_v29 d_M_set_230 ?_
            refine mt_iload F hl 1 rfl d_M_set_233 ?_
            refine mt_iload F hl 0 rfl d_M_set_235 ?_
            refine lv_iadd F.1 F.2.1 d_M_set_237 ?_
            refine mt_iload_n F hl 6 rfl rfl d_M_set_238 ?_
            refine mt_iload F hl 7 rfl d_M_set_239 ?_
            obtain ⟨o30, e_o30, h⟩ := mw_bind h
            refine mw_calll hI (mw_runS F hK hI (c_M_value l D dA A _ _ _ _ e_o30) (cwS 2 F.2.2.2.2 (gd_S k_150 k_151 k_152 k_130) rfl rfl rfl hd_M_value ⟨Nat.le_of_ble_eq_true rfl, Nat.le_of_ble_eq_true rfl⟩) rfl hl.1 rfl (by simp [mw_cat, mw_cI, mw_cL]) d_M_set_241 ⟨(Nat.le_of_ble_eq_true rfl), (Nat.le_of_ble_eq_true rfl)⟩) (fun H locs hI => ?_)
            obtain ⟨S31, e_S31, h⟩ := mw_bind h
            refine mw_last F hK hI (t0 := 1) rfl e_S31 d_M_set_244 (fun H locs hI => ?_)
            refine mt_aload_n F hl 3 rfl rfl d_M_set_245 ?_
            obtain ⟨v32, e_v32, h⟩ := mw_bind h
            refine mw_getR F hK hI (in_4 _) (hc_4) 0 (by decide) (mA k_56) rfl e_v32 d_M_set_246 ?_
            obtain ⟨v33, e_v33, h⟩ := mw_bind h
            refine mw_getR F hK hI (in_5 _) (hc_5) 1 (by decide) (mA k_64) rfl e_v33 d_M_set_249 ?_
            refine mt_iload_n F hl 4 rfl rfl d_M_set_252 ?_
            obtain ⟨v34, e_v34, h⟩ := mw_bind h
            refine mw_iald F hK hI (t0 := 0) rfl e_v34 d_M_set_253 ?_
            exact mw_iret F hI hr hlk h (Nat.le_of_ble_eq_true rfl) (Nat.le_of_ble_eq_true rfl) d_M_set_254
          · rw [if_pos hc] at h
            refine lv_bipush (v := (-3)) F.1 F.2.1 d_M_set_185 (by decide) ?_
            exact mw_iret F hI hr hlk h (Nat.le_of_ble_eq_true rfl) (Nat.le_of_ble_eq_true rfl) d_M_set_187
      · rw [if_pos hc] at h
        refine mt_iload F hl 2 rfl d_M_set_48 ?_
        refine lv_if_ge (tgt := 63) F.1 F.2.1 d_M_set_50 (by decide) (fun hc => ?_) (fun hc => ?_)
        · rw [if_pos hc] at h
          refine mt_aload_n F hl 3 rfl rfl d_M_set_63 ?_
          obtain ⟨v35, e_v35, h⟩ := mw_bind h
          refine mw_getR F hK hI (in_4 _) (hc_4) 0 (by decide) (mA k_56) rfl e_v35 d_M_set_64 ?_
          obtain ⟨v36, e_v36, h⟩ := mw_bind h
          refine mw_getR F hK hI (in_5 _) (hc_5) 1 (by decide) (mA k_64) rfl e_v36 d_M_set_67 ?_
          refine mt_iload_n F hl 4 rfl rfl d_M_set_70 ?_
          refine lv_dup2_11 F.1 F.2.1 d_M_set_71 rfl (mw_cat _) ?_
          obtain ⟨v37, e_v37, h⟩ := mw_bind h
          refine mw_iald F hK hI (t0 := 0) rfl e_v37 d_M_set_72 ?_
          refine lv_iconst (v := 1) F.1 F.2.1 d_M_set_73 (by decide) ?_
          refine lv_isub F.1 F.2.1 d_M_set_74 ?_
          obtain ⟨S38, e_S38, h⟩ := mw_bind h
          refine mw_iast F hK hI (t0 := 0) rfl e_S38 d_M_set_75 (fun H locs hI => ?_)
          refine mt_iload F hl 2 rfl d_M_set_76 ?_
          refine mt_istore F hl (Nat.le_of_ble_eq_true rfl) rfl d_M_set_78 (fun ls hl => ?_)
          have hl : mt_L ls 9 [(8, (.inl o7.1)), (7, (.inl (20 * a1))), (6, (.inl (8 * a1))), (5, (.inl o7.1)), (0, (.inr (.inr (some b0)))), (1, (.inl a1)), (2, (.inl a2)), (3, (.inl a3)), (4, (.inl a4))] := hl
          refine W.widen (k := 0) (n := 0) (Nat.le_of_ble_eq_true rfl) (Nat.le_of_ble_eq_true rfl) ?_
          exact (s_M_set l D dA A b0 F hr hlk hnm hK out 5000) _ _ _ _ _ _ _ _ _ _ _ _ hI (mt_sub hl [4, 5, 6, 7, 8, 3, 2, 1, 0] rfl) h
        · rw [if_neg hc] at h
          refine mt_aload_n F hl 3 rfl rfl d_M_set_53 ?_
          obtain ⟨v39, e_v39, h⟩ := mw_bind h
          refine mw_getR F hK hI (in_4 _) (hc_4) 0 (by decide) (mA k_56) rfl e_v39 d_M_set_54 ?_
          obtain ⟨v40, e_v40, h⟩ := mw_bind h
          refine mw_getR F hK hI (in_5 _) (hc_5) 1 (by decide) (mA k_64) rfl e_v40 d_M_set_57 ?_
          refine mt_iload_n F hl 4 rfl rfl d_M_set_60 ?_
          obtain ⟨v41, e_v41, h⟩ := mw_bind h
          refine mw_iald F hK hI (t0 := 0) rfl e_v41 d_M_set_61 ?_
          exact mw_iret F hI hr hlk h (Nat.le_of_ble_eq_true rfl) (Nat.le_of_ble_eq_true rfl) d_M_set_62
    · rw [if_pos hc] at h
      refine lv_iconst (v := (-1)) F.1 F.2.1 d_M_set_19 (by decide) ?_
      exact mw_iret F hI hr hlk h (Nat.le_of_ble_eq_true rfl) (Nat.le_of_ble_eq_true rfl) d_M_set_20
abbrev rm_S_named : Room := { frames := 1, cells := 0, slots := 0, locals := 22 }
set_option maxHeartbeats 4000000 in
set_option maxRecDepth 100000 in
theorem c_S_named (l : Launch) (D : va_G) (dA : Nat → ClassId) (A : Nat → Prop) (b0 : Nat) (a1 : Int32) (S : mc_S) (out : (Int64 × mc_S)) (hf : f_S_named b0 a1 S = some out) : Met l y_S_named (cd_S_named :: ALL) rm_S_named (va_Pc [va_rf (some b0), .int a1] (mw_B D dA CL (TY dA) ZZ A S)) (va_Ql (fun x (_ : Unit) => x = out.1) (fun _ t => mw_R D dA CL A out.2 t) A) 0 0 A := by
  refine mw_ofW (cc := b_S_named) (maxL := 3) (ret := (some .long)) [(.inr (.inr (some b0))), (.inl a1)] rfl (by decide +kernel) (Nat.le_of_ble_eq_true rfl) (L := [(0, (.inr (.inr (some b0)))), (1, (.inl a1))]) rfl (fun p e s m args below meth c F hr hlk hnm hK ls hl hI => ?_)
  have h := hf
  unfold f_S_named at h
  refine mt_aload_n F hl 0 rfl rfl d_S_named_0 ?_
  refine mt_iload_n F hl 1 rfl rfl d_S_named_1 ?_
  obtain ⟨b1, e_b1, h⟩ := mw_bind h
  obtain ⟨o2, e_o2, h⟩ := mw_bind h
  refine mw_calli hI (mw_runV F hK hI (c_S_placeOf l D dA A _ _ _ _ e_o2) (cwV 1 F.2.2.2.2 (gd_V k_101 k_102 k_103 k_104 k_33) rfl rfl rfl hd_S_placeOf ⟨Nat.le_of_ble_eq_true rfl, Nat.le_of_ble_eq_true rfl⟩) (hc_1) e_b1 rfl hl.1 rfl (Nat.zero_le _) d_S_named_2 ⟨(Nat.le_of_ble_eq_true rfl), (Nat.le_of_ble_eq_true rfl)⟩) (fun H locs hI => ?_)
  refine mt_istore_n F hl rfl (Nat.le_of_ble_eq_true rfl) rfl d_S_named_5 (fun ls hl => ?_)
  have hl : mt_L ls 3 [(2, (.inl o2.1)), (0, (.inr (.inr (some b0)))), (1, (.inl a1))] := hl
  refine mt_iload_n F hl 0 rfl rfl d_S_named_6 ?_
  refine mt_aload_n F hl 1 rfl rfl d_S_named_7 ?_
  obtain ⟨v3, e_v3, h⟩ := mw_bind h
  refine mw_getI F hK hI (in_1 _) (hc_1) 3 (by decide) (mA k_9) rfl e_v3 d_S_named_8 ?_
  refine lv_icmp_ge (tgt := 23) F.1 F.2.1 d_S_named_11 (by decide) (fun hc => ?_) (fun hc => ?_)
  · rw [if_pos hc] at h
    refine lv_ldc2 (v := 1099511627776) F.1 F.2.1 F.2.2.2.1 (F.2.2.2.2 _ (mA k_105)) d_S_named_23 ?_
    exact mw_lret F hI hr hlk h (Nat.le_of_ble_eq_true rfl) (Nat.le_of_ble_eq_true rfl) d_S_named_26
  · rw [if_neg hc] at h
    refine mt_aload_n F hl 1 rfl rfl d_S_named_14 ?_
    obtain ⟨v4, e_v4, h⟩ := mw_bind h
    refine mw_getR F hK hI (in_1 _) (hc_1) 2 (by decide) (mA k_13) rfl e_v4 d_S_named_15 ?_
    refine mt_iload_n F hl 0 rfl rfl d_S_named_18 ?_
    obtain ⟨v5, e_v5, h⟩ := mw_bind h
    refine mw_lald F hK hI (t0 := 1) rfl e_v5 d_S_named_19 ?_
    refine lv_goto (tgt := 26) F.1 F.2.1 d_S_named_20 (by decide) ?_
    exact mw_lret F hI hr hlk h (Nat.le_of_ble_eq_true rfl) (Nat.le_of_ble_eq_true rfl) d_S_named_26
abbrev rm_K_get : Room := { frames := 2, cells := 0, slots := 0, locals := 44 }
set_option maxHeartbeats 4000000 in
set_option maxRecDepth 100000 in
theorem c_K_get (l : Launch) (D : va_G) (dA : Nat → ClassId) (A : Nat → Prop) (b0 : Nat) (a1 : Int32) (a2 : Int32) (S : mc_S) (out : (Int64 × mc_S)) (hf : f_K_get b0 a1 a2 S = some out) : Met l y_K_get (cd_K_get :: ALL) rm_K_get (va_Pc [va_rf (some b0), .int a1, .int a2] (mw_B D dA CL (TY dA) ZZ A S)) (va_Ql (fun x (_ : Unit) => x = out.1) (fun _ t => mw_R D dA CL A out.2 t) A) 0 0 A := by
  refine mw_ofW (cc := b_K_get) (maxL := 4) (ret := (some .long)) [(.inr (.inr (some b0))), (.inl a1), (.inl a2)] rfl (by decide +kernel) (Nat.le_of_ble_eq_true rfl) (L := [(0, (.inr (.inr (some b0)))), (1, (.inl a1)), (2, (.inl a2))]) rfl (fun p e s m args below meth c F hr hlk hnm hK ls hl hI => ?_)
  have h := hf
  unfold f_K_get at h
  refine mt_aload_n F hl 0 rfl rfl d_K_get_0 ?_
  obtain ⟨v1, e_v1, h⟩ := mw_bind h
  refine mw_getR F hK hI (in_0 _) (hc_0) 0 (by decide) (mA k_42) rfl e_v1 d_K_get_1 ?_
  refine mt_iload_n F hl 1 rfl rfl d_K_get_4 ?_
  refine lv_iconst (v := 1) F.1 F.2.1 d_K_get_5 (by decide) ?_
  obtain ⟨b2, e_b2, h⟩ := mw_bind h
  obtain ⟨o3, e_o3, h⟩ := mw_bind h
  refine mw_callq hI (mw_runV F hK hI (c_T_find l D dA A _ _ _ _ _ e_o3) (cwV 2 F.2.2.2.2 (gd_V k_85 k_86 k_87 k_88 k_38) rfl rfl rfl hd_T_find ⟨Nat.le_of_ble_eq_true rfl, Nat.le_of_ble_eq_true rfl⟩) (hc_2) e_b2 rfl hl.1 rfl (Nat.zero_le _) d_K_get_6 ⟨(Nat.le_of_ble_eq_true rfl), (Nat.le_of_ble_eq_true rfl)⟩) (fun H locs hI => ?_)
  refine mt_astore_n F hl rfl (Nat.le_of_ble_eq_true rfl) rfl d_K_get_9 (fun ls hl => ?_)
  have hl : mt_L ls 4 [(3, (.inr (.inr o3.1))), (0, (.inr (.inr (some b0)))), (1, (.inl a1)), (2, (.inl a2))] := hl
  refine mt_aload_n F hl 0 rfl rfl d_K_get_10 ?_
  refine mw_ifnonnull (tgt := 20) F d_K_get_11 (by decide) (fun hc => ?_) (fun hc => ?_)
  · rw [if_neg hc] at h
    refine mt_aload_n F hl 0 rfl rfl d_K_get_20 ?_
    refine mt_iload_n F hl 3 rfl rfl d_K_get_21 ?_
    obtain ⟨b4, e_b4, h⟩ := mw_bind h
    obtain ⟨o5, e_o5, h⟩ := mw_bind h
    refine mw_calll hI (mw_runV F hK hI (c_S_named l D dA A _ _ _ _ e_o5) (cwV 1 F.2.2.2.2 (gd_V k_154 k_155 k_156 k_157 k_33) rfl rfl rfl hd_S_named ⟨Nat.le_of_ble_eq_true rfl, Nat.le_of_ble_eq_true rfl⟩) (hc_1) e_b4 rfl hl.1 rfl (Nat.zero_le _) d_K_get_22 ⟨(Nat.le_of_ble_eq_true rfl), (Nat.le_of_ble_eq_true rfl)⟩) (fun H locs hI => ?_)
    exact mw_lret F hI hr hlk h (Nat.le_of_ble_eq_true rfl) (Nat.le_of_ble_eq_true rfl) d_K_get_25
  · rw [if_pos hc] at h
    refine lv_ldc2 (v := (-1099511627776)) F.1 F.2.1 F.2.2.2.1 (F.2.2.2.2 _ (mA k_70)) d_K_get_14 ?_
    refine lv_goto (tgt := 25) F.1 F.2.1 d_K_get_17 (by decide) ?_
    exact mw_lret F hI hr hlk h (Nat.le_of_ble_eq_true rfl) (Nat.le_of_ble_eq_true rfl) d_K_get_25
abbrev rm_M_get : Room := { frames := 2, cells := 0, slots := 0, locals := 47 }
set_option maxHeartbeats 4000000 in
set_option maxRecDepth 100000 in
theorem c_M_get (l : Launch) (D : va_G) (dA : Nat → ClassId) (A : Nat → Prop) (b0 : Nat) (a1 : Int32) (a2 : Int32) (S : mc_S) (out : (Int64 × mc_S)) (hf : f_M_get b0 a1 a2 S = some out) : Met l y_M_get (cd_M_get :: ALL) rm_M_get (va_Pc [va_rf (some b0), .int a1, .int a2] (mw_B D dA CL (TY dA) ZZ A S)) (va_Ql (fun x (_ : Unit) => x = out.1) (fun _ t => mw_R D dA CL A out.2 t) A) 0 0 A := by
  refine mw_ofW (cc := b_M_get) (maxL := 4) (ret := (some .long)) [(.inr (.inr (some b0))), (.inl a1), (.inl a2)] rfl (by decide +kernel) (Nat.le_of_ble_eq_true rfl) (L := [(0, (.inr (.inr (some b0)))), (1, (.inl a1)), (2, (.inl a2))]) rfl (fun p e s m args below meth c F hr hlk hnm hK ls hl hI => ?_)
  have h := hf
  unfold f_M_get at h
  refine mt_aload_n F hl 0 rfl rfl d_M_get_0 ?_
  refine mt_iload_n F hl 1 rfl rfl d_M_get_1 ?_
  refine lv_iconst (v := 1) F.1 F.2.1 d_M_get_2 (by decide) ?_
  obtain ⟨b1, e_b1, h⟩ := mw_bind h
  obtain ⟨o2, e_o2, h⟩ := mw_bind h
  refine mw_calli hI (mw_runV F hK hI (c_M_is l D dA A _ _ _ _ _ e_o2) (cwV 2 F.2.2.2.2 (gd_V k_137 k_138 k_139 k_140 k_130) rfl rfl rfl hd_M_is ⟨Nat.le_of_ble_eq_true rfl, Nat.le_of_ble_eq_true rfl⟩) (hc_4) e_b1 rfl hl.1 rfl (Nat.zero_le _) d_M_get_3 ⟨(Nat.le_of_ble_eq_true rfl), (Nat.le_of_ble_eq_true rfl)⟩) (fun H locs hI => ?_)
  refine lv_if_ne (tgt := 13) F.1 F.2.1 d_M_get_6 (by decide) (fun hc => ?_) (fun hc => ?_)
  · rw [if_neg hc] at h
    refine mt_aload_n F hl 0 rfl rfl d_M_get_13 ?_
    obtain ⟨v3, e_v3, h⟩ := mw_bind h
    refine mw_getR F hK hI (in_4 _) (hc_4) 0 (by decide) (mA k_56) rfl e_v3 d_M_get_14 ?_
    refine mt_iload_n F hl 1 rfl rfl d_M_get_17 ?_
    refine mt_iload_n F hl 2 rfl rfl d_M_get_18 ?_
    obtain ⟨b4, e_b4, h⟩ := mw_bind h
    obtain ⟨o5, e_o5, h⟩ := mw_bind h
    refine mw_calli hI (mw_runV F hK hI (c_N_findField l D dA A _ _ _ _ _ e_o5) (cwV 2 F.2.2.2.2 (gd_V k_145 k_146 k_147 k_148 k_53) rfl rfl rfl hd_N_findField ⟨Nat.le_of_ble_eq_true rfl, Nat.le_of_ble_eq_true rfl⟩) (hc_5) e_b4 rfl hl.1 rfl (Nat.zero_le _) d_M_get_19 ⟨(Nat.le_of_ble_eq_true rfl), (Nat.le_of_ble_eq_true rfl)⟩) (fun H locs hI => ?_)
    refine mt_istore_n F hl rfl (Nat.le_of_ble_eq_true rfl) rfl d_M_get_22 (fun ls hl => ?_)
    have hl : mt_L ls 4 [(3, (.inl o5.1)), (0, (.inr (.inr (some b0)))), (1, (.inl a1)), (2, (.inl a2))] := hl
    refine mt_iload_n F hl 0 rfl rfl d_M_get_23 ?_
    refine lv_if_ge (tgt := 33) F.1 F.2.1 d_M_get_24 (by decide) (fun hc => ?_) (fun hc => ?_)
    · rw [if_pos hc] at h
      refine mt_aload_n F hl 1 rfl rfl d_M_get_33 ?_
      obtain ⟨v6, e_v6, h⟩ := mw_bind h
      refine mw_getR F hK hI (in_4 _) (hc_4) 0 (by decide) (mA k_56) rfl e_v6 d_M_get_34 ?_
      obtain ⟨v7, e_v7, h⟩ := mw_bind h
      refine mw_getR F hK hI (in_5 _) (hc_5) 4 (by decide) (mA k_149) rfl e_v7 d_M_get_37 ?_
      refine lv_bipush (v := 20) F.1 F.2.1 d_M_get_40 (by decide) ?_
      refine mt_iload_n F hl 2 rfl rfl d_M_get_42 ?_
      refine lv_imul F.1 F.2.1 d_M_get_43 ?_
      refine mt_iload_n F hl 0 rfl rfl d_M_get_44 ?_
      refine lv_iadd F.1 F.2.1 d_M_get_45 ?_
      obtain ⟨v8, e_v8, h⟩ := mw_bind h
      refine mw_lald F hK hI (t0 := 1) rfl e_v8 d_M_get_46 ?_
      exact mw_lret F hI hr hlk h (Nat.le_of_ble_eq_true rfl) (Nat.le_of_ble_eq_true rfl) d_M_get_47
    · rw [if_neg hc] at h
      refine lv_ldc2 (v := 1099511627776) F.1 F.2.1 F.2.2.2.1 (F.2.2.2.2 _ (mA k_136)) d_M_get_27 ?_
      refine lv_goto (tgt := 47) F.1 F.2.1 d_M_get_30 (by decide) ?_
      exact mw_lret F hI hr hlk h (Nat.le_of_ble_eq_true rfl) (Nat.le_of_ble_eq_true rfl) d_M_get_47
  · rw [if_pos hc] at h
    refine lv_ldc2 (v := (-1099511627776)) F.1 F.2.1 F.2.2.2.1 (F.2.2.2.2 _ (mA k_158)) d_M_get_9 ?_
    exact mw_lret F hI hr hlk h (Nat.le_of_ble_eq_true rfl) (Nat.le_of_ble_eq_true rfl) d_M_get_12
abbrev rm_K_push : Room := { frames := 4, cells := 3, slots := 44, locals := 78 }
set_option maxHeartbeats 4000000 in
set_option maxRecDepth 100000 in
theorem c_K_push (l : Launch) (D : va_G) (dA : Nat → ClassId) (A : Nat → Prop) (b0 : Nat) (a1 : Int32) (a2 : Int32) (a3 : Int32) (S : mc_S) (out : (Int32 × mc_S)) (hf : f_K_push b0 a1 a2 a3 S = some out) : Met l y_K_push (cd_K_push :: ALL) rm_K_push (va_Pc [va_rf (some b0), .int a1, .int a2, .int a3] (mw_B D dA CL (TY dA) ZZ A S)) (va_Qi (fun x (_ : Unit) => x = out.1) (fun _ t => mw_R D dA CL A out.2 t) A) 3 44 A := by
  refine mw_ofW (cc := b_K_push) (maxL := 7) (ret := (some .int)) [(.inr (.inr (some b0))), (.inl a1), (.inl a2), (.inl a3)] rfl (by decide +kernel) (Nat.le_of_ble_eq_true rfl) (L := [(0, (.inr (.inr (some b0)))), (1, (.inl a1)), (2, (.inl a2)), (3, (.inl a3))]) rfl (fun p e s m args below meth c F hr hlk hnm hK ls hl hI => ?_)
  have h := hf
  unfold f_K_push at h
  refine mt_aload_n F hl 0 rfl rfl d_K_push_0 ?_
  refine mt_iload_n F hl 2 rfl rfl d_K_push_1 ?_
  refine mt_iload_n F hl 3 rfl rfl d_K_push_2 ?_
  obtain ⟨b1, e_b1, h⟩ := mw_bind h
  obtain ⟨o2, e_o2, h⟩ := mw_bind h
  refine mw_calll hI (mw_runV F hK hI (c_K_valueOf l D dA A _ _ _ _ _ e_o2) (cwV 2 F.2.2.2.2 (gd_V k_114 k_115 k_116 k_117 k_78) rfl rfl rfl hd_K_valueOf ⟨Nat.le_of_ble_eq_true rfl, Nat.le_of_ble_eq_true rfl⟩) (hc_0) e_b1 rfl hl.1 rfl (Nat.zero_le _) d_K_push_3 ⟨(Nat.le_of_ble_eq_true rfl), (Nat.le_of_ble_eq_true rfl)⟩) (fun H locs hI => ?_)
  refine mt_lstore F hl (Nat.le_of_ble_eq_true rfl) rfl d_K_push_6 (fun ls hl => ?_)
  have hl : mt_L ls 7 [(4, (.inr (.inl o2.1))), (0, (.inr (.inr (some b0)))), (1, (.inl a1)), (2, (.inl a2)), (3, (.inl a3))] := hl
  refine mt_aload_n F hl 1 rfl rfl d_K_push_8 ?_
  refine mt_iload_n F hl 2 rfl rfl d_K_push_9 ?_
  refine lv_iconst (v := 2) F.1 F.2.1 d_K_push_10 (by decide) ?_
  obtain ⟨b3, e_b3, h⟩ := mw_bind h
  obtain ⟨o4, e_o4, h⟩ := mw_bind h
  refine mw_callq hI (mw_runV F hK hI (c_K_own l D dA A _ _ _ _ _ e_o4) (cwV 2 F.2.2.2.2 (gd_V k_118 k_119 k_120 k_121 k_78) rfl rfl rfl hd_K_own ⟨Nat.le_of_ble_eq_true rfl, Nat.le_of_ble_eq_true rfl⟩) (hc_0) e_b3 rfl hl.1 rfl (Nat.zero_le _) d_K_push_11 ⟨(Nat.le_of_ble_eq_true rfl), (Nat.le_of_ble_eq_true rfl)⟩) (fun H locs hI => ?_)
  refine mt_astore F hl (Nat.le_of_ble_eq_true rfl) rfl d_K_push_14 (fun ls hl => ?_)
  have hl : mt_L ls 7 [(6, (.inr (.inr o4.1))), (4, (.inr (.inl o2.1))), (0, (.inr (.inr (some b0)))), (1, (.inl a1)), (2, (.inl a2)), (3, (.inl a3))] := hl
  refine mt_lload F hl 1 rfl d_K_push_16 ?_
  refine lv_ldc2 (v := (-1099511627776)) F.1 F.2.1 F.2.2.2.1 (F.2.2.2.2 _ (mA k_70)) d_K_push_18 ?_
  refine W.lcmp F.1 F.2.1 d_K_push_21 ?_
  refine lv_if_eq (tgt := 30) F.1 F.2.1 d_K_push_22 (by decide) (fun hc => ?_) (fun hc => ?_)
  · rw [if_pos hc] at h
    refine lv_iconst (v := (-1)) F.1 F.2.1 d_K_push_30 (by decide) ?_
    refine lv_goto (tgt := 42) F.1 F.2.1 d_K_push_31 (by decide) ?_
    exact mw_iret F hI hr hlk h (Nat.le_of_ble_eq_true rfl) (Nat.le_of_ble_eq_true rfl) d_K_push_42
  · rw [if_neg hc] at h
    refine mt_aload F hl 0 rfl d_K_push_25 ?_
    refine mw_ifnonnull (tgt := 34) F d_K_push_27 (by decide) (fun hc => ?_) (fun hc => ?_)
    · rw [if_neg hc] at h
      refine mt_aload F hl 0 rfl d_K_push_34 ?_
      refine lv_iconst (v := 0) F.1 F.2.1 d_K_push_36 (by decide) ?_
      refine mt_lload F hl 1 rfl d_K_push_37 ?_
      obtain ⟨b5, e_b5, h⟩ := mw_bind h
      obtain ⟨o6, e_o6, h⟩ := mw_bind h
      refine mw_calli hI (mw_runV F hK hI (c_S_append l D dA A _ _ _ _ _ e_o6) (cwV 2 F.2.2.2.2 (gd_V k_106 k_159 k_108 k_109 k_33) rfl rfl rfl hd_S_append ⟨Nat.le_of_ble_eq_true rfl, Nat.le_of_ble_eq_true rfl⟩) (hc_1) e_b5 rfl hl.1 rfl (Nat.zero_le _) d_K_push_39 ⟨(Nat.le_of_ble_eq_true rfl), (Nat.le_of_ble_eq_true rfl)⟩) (fun H locs hI => ?_)
      exact mw_iret F hI hr hlk h (Nat.le_of_ble_eq_true rfl) (Nat.le_of_ble_eq_true rfl) d_K_push_42
    · rw [if_pos hc] at h
      refine lv_iconst (v := (-1)) F.1 F.2.1 d_K_push_30 (by decide) ?_
      refine lv_goto (tgt := 42) F.1 F.2.1 d_K_push_31 (by decide) ?_
      exact mw_iret F hI hr hlk h (Nat.le_of_ble_eq_true rfl) (Nat.le_of_ble_eq_true rfl) d_K_push_42
abbrev rm_M_push : Room := { frames := 3, cells := 0, slots := 0, locals := 68 }
set_option maxHeartbeats 4000000 in
set_option maxRecDepth 100000 in
theorem c_M_push (l : Launch) (D : va_G) (dA : Nat → ClassId) (A : Nat → Prop) (b0 : Nat) (a1 : Int32) (a2 : Int32) (a3 : Int32) (S : mc_S) (out : (Int32 × mc_S)) (hf : f_M_push b0 a1 a2 a3 S = some out) : Met l y_M_push (cd_M_push :: ALL) rm_M_push (va_Pc [va_rf (some b0), .int a1, .int a2, .int a3] (mw_B D dA CL (TY dA) ZZ A S)) (va_Qi (fun x (_ : Unit) => x = out.1) (fun _ t => mw_R D dA CL A out.2 t) A) 0 0 A := by
  refine mw_ofW (cc := b_M_push) (maxL := 4) (ret := (some .int)) [(.inr (.inr (some b0))), (.inl a1), (.inl a2), (.inl a3)] rfl (by decide +kernel) (Nat.le_of_ble_eq_true rfl) (L := [(0, (.inr (.inr (some b0)))), (1, (.inl a1)), (2, (.inl a2)), (3, (.inl a3))]) rfl (fun p e s m args below meth c F hr hlk hnm hK ls hl hI => ?_)
  have h := hf
  unfold f_M_push at h
  refine mt_aload_n F hl 0 rfl rfl d_M_push_0 ?_
  refine mt_iload_n F hl 1 rfl rfl d_M_push_1 ?_
  refine lv_iconst (v := 2) F.1 F.2.1 d_M_push_2 (by decide) ?_
  obtain ⟨b1, e_b1, h⟩ := mw_bind h
  obtain ⟨o2, e_o2, h⟩ := mw_bind h
  refine mw_calli hI (mw_runV F hK hI (c_M_is l D dA A _ _ _ _ _ e_o2) (cwV 2 F.2.2.2.2 (gd_V k_137 k_138 k_139 k_140 k_130) rfl rfl rfl hd_M_is ⟨Nat.le_of_ble_eq_true rfl, Nat.le_of_ble_eq_true rfl⟩) (hc_4) e_b1 rfl hl.1 rfl (Nat.zero_le _) d_M_push_3 ⟨(Nat.le_of_ble_eq_true rfl), (Nat.le_of_ble_eq_true rfl)⟩) (fun H locs hI => ?_)
  refine lv_if_eq (tgt := 18) F.1 F.2.1 d_M_push_6 (by decide) (fun hc => ?_) (fun hc => ?_)
  · rw [if_pos hc] at h
    refine lv_iconst (v := (-1)) F.1 F.2.1 d_M_push_18 (by decide) ?_
    exact mw_iret F hI hr hlk h (Nat.le_of_ble_eq_true rfl) (Nat.le_of_ble_eq_true rfl) d_M_push_19
  · rw [if_neg hc] at h
    refine mt_aload_n F hl 0 rfl rfl d_M_push_9 ?_
    refine mt_iload_n F hl 2 rfl rfl d_M_push_10 ?_
    refine mt_iload_n F hl 3 rfl rfl d_M_push_11 ?_
    obtain ⟨b3, e_b3, h⟩ := mw_bind h
    obtain ⟨o4, e_o4, h⟩ := mw_bind h
    refine mw_calli hI (mw_runV F hK hI (c_M_isValue l D dA A _ _ _ _ _ e_o4) (cwV 2 F.2.2.2.2 (gd_V k_141 k_142 k_143 k_144 k_130) rfl rfl rfl hd_M_isValue ⟨Nat.le_of_ble_eq_true rfl, Nat.le_of_ble_eq_true rfl⟩) (hc_4) e_b3 rfl hl.1 rfl (Nat.zero_le _) d_M_push_12 ⟨(Nat.le_of_ble_eq_true rfl), (Nat.le_of_ble_eq_true rfl)⟩) (fun H locs hI => ?_)
    refine lv_if_ne (tgt := 20) F.1 F.2.1 d_M_push_15 (by decide) (fun hc => ?_) (fun hc => ?_)
    · rw [if_neg hc] at h
      refine mt_aload_n F hl 0 rfl rfl d_M_push_20 ?_
      obtain ⟨v5, e_v5, h⟩ := mw_bind h
      refine mw_getR F hK hI (in_4 _) (hc_4) 0 (by decide) (mA k_56) rfl e_v5 d_M_push_21 ?_
      obtain ⟨v6, e_v6, h⟩ := mw_bind h
      refine mw_getR F hK hI (in_5 _) (hc_5) 1 (by decide) (mA k_64) rfl e_v6 d_M_push_24 ?_
      refine mt_iload_n F hl 1 rfl rfl d_M_push_27 ?_
      obtain ⟨v7, e_v7, h⟩ := mw_bind h
      refine mw_iald F hK hI (t0 := 0) rfl e_v7 d_M_push_28 ?_
      refine lv_bipush (v := 20) F.1 F.2.1 d_M_push_29 (by decide) ?_
      refine lv_icmp_ne (tgt := 37) F.1 F.2.1 d_M_push_31 (by decide) (fun hc => ?_) (fun hc => ?_)
      · rw [if_neg hc] at h
        refine mt_aload_n F hl 0 rfl rfl d_M_push_37 ?_
        obtain ⟨v8, e_v8, h⟩ := mw_bind h
        refine mw_getR F hK hI (in_4 _) (hc_4) 0 (by decide) (mA k_56) rfl e_v8 d_M_push_38 ?_
        obtain ⟨v9, e_v9, h⟩ := mw_bind h
        refine mw_getR F hK hI (in_5 _) (hc_5) 4 (by decide) (mA k_149) rfl e_v9 d_M_push_41 ?_
        refine lv_bipush (v := 20) F.1 F.2.1 d_M_push_44 (by decide) ?_
        refine mt_iload_n F hl 1 rfl rfl d_M_push_46 ?_
        refine lv_imul F.1 F.2.1 d_M_push_47 ?_
        refine mt_aload_n F hl 0 rfl rfl d_M_push_48 ?_
        obtain ⟨v10, e_v10, h⟩ := mw_bind h
        refine mw_getR F hK hI (in_4 _) (hc_4) 0 (by decide) (mA k_56) rfl e_v10 d_M_push_49 ?_
        obtain ⟨v11, e_v11, h⟩ := mw_bind h
        refine mw_getR F hK hI (in_5 _) (hc_5) 1 (by decide) (mA k_64) rfl e_v11 d_M_push_52 ?_
        refine mt_iload_n F hl 1 rfl rfl d_M_push_55 ?_
        obtain ⟨v12, e_v12, h⟩ := mw_bind h
        refine mw_iald F hK hI (t0 := 0) rfl e_v12 d_M_push_56 ?_
        refine lv_iadd F.1 F.2.1 d_M_push_57 ?_
        refine mt_iload_n F hl 2 rfl rfl d_M_push_58 ?_
        refine mt_iload_n F hl 3 rfl rfl d_M_push_59 ?_
        obtain ⟨o13, e_o13, h⟩ := mw_bind h
        refine mw_calll hI (mw_runS F hK hI (c_M_value l D dA A _ _ _ _ e_o13) (cwS 2 F.2.2.2.2 (gd_S k_150 k_151 k_152 k_130) rfl rfl rfl hd_M_value ⟨Nat.le_of_ble_eq_true rfl, Nat.le_of_ble_eq_true rfl⟩) rfl hl.1 rfl (by simp [mw_cat, mw_cI, mw_cL]) d_M_push_60 ⟨(Nat.le_of_ble_eq_true rfl), (Nat.le_of_ble_eq_true rfl)⟩) (fun H locs hI => ?_)
        obtain ⟨S14, e_S14, h⟩ := mw_bind h
        refine mw_last F hK hI (t0 := 1) rfl e_S14 d_M_push_63 (fun H locs hI => ?_)
        refine mt_aload_n F hl 0 rfl rfl d_M_push_64 ?_
        obtain ⟨v15, e_v15, h⟩ := mw_bind h
        refine mw_getR F hK hI (in_4 _) (hc_4) 0 (by decide) (mA k_56) rfl e_v15 d_M_push_65 ?_
        obtain ⟨v16, e_v16, h⟩ := mw_bind h
        refine mw_getR F hK hI (in_5 _) (hc_5) 1 (by decide) (mA k_64) rfl e_v16 d_M_push_68 ?_
        refine mt_iload_n F hl 1 rfl rfl d_M_push_71 ?_
        refine lv_dup2_11 F.1 F.2.1 d_M_push_72 rfl (mw_cat _) ?_
        obtain ⟨v17, e_v17, h⟩ := mw_bind h
        refine mw_iald F hK hI (t0 := 0) rfl e_v17 d_M_push_73 ?_
        refine lv_iconst (v := 1) F.1 F.2.1 d_M_push_74 (by decide) ?_
        refine lv_iadd F.1 F.2.1 d_M_push_75 ?_
        obtain ⟨S18, e_S18, h⟩ := mw_bind h
        refine mw_iast F hK hI (t0 := 0) rfl e_S18 d_M_push_76 (fun H locs hI => ?_)
        refine mt_aload_n F hl 0 rfl rfl d_M_push_77 ?_
        obtain ⟨v19, e_v19, h⟩ := mw_bind h
        refine mw_getR F hK hI (in_4 _) (hc_4) 0 (by decide) (mA k_56) rfl e_v19 d_M_push_78 ?_
        obtain ⟨v20, e_v20, h⟩ := mw_bind h
        refine mw_getR F hK hI (in_5 _) (hc_5) 1 (by decide) (mA k_64) rfl e_v20 d_M_push_81 ?_
        refine mt_iload_n F hl 1 rfl rfl d_M_push_84 ?_
        obtain ⟨v21, e_v21, h⟩ := mw_bind h
        refine mw_iald F hK hI (t0 := 0) rfl e_v21 d_M_push_85 ?_
        exact mw_iret F hI hr hlk h (Nat.le_of_ble_eq_true rfl) (Nat.le_of_ble_eq_true rfl) d_M_push_86
      · rw [if_pos hc] at h
        refine lv_bipush (v := (-3)) F.1 F.2.1 d_M_push_34 (by decide) ?_
        exact mw_iret F hI hr hlk h (Nat.le_of_ble_eq_true rfl) (Nat.le_of_ble_eq_true rfl) d_M_push_36
    · rw [if_pos hc] at h
      refine lv_iconst (v := (-1)) F.1 F.2.1 d_M_push_18 (by decide) ?_
      exact mw_iret F hI hr hlk h (Nat.le_of_ble_eq_true rfl) (Nat.le_of_ble_eq_true rfl) d_M_push_19
abbrev rm_S_takeLast : Room := { frames := 0, cells := 0, slots := 0, locals := 0 }
set_option maxHeartbeats 4000000 in
set_option maxRecDepth 100000 in
theorem c_S_takeLast (l : Launch) (D : va_G) (dA : Nat → ClassId) (A : Nat → Prop) (b0 : Nat) (S : mc_S) (out : (Int64 × mc_S)) (hf : f_S_takeLast b0 S = some out) : Met l y_S_takeLast (cd_S_takeLast :: ALL) rm_S_takeLast (va_Pc [va_rf (some b0)] (mw_B D dA CL (TY dA) ZZ A S)) (va_Ql (fun x (_ : Unit) => x = out.1) (fun _ t => mw_R D dA CL A out.2 t) A) 0 0 A := by
  refine mw_ofW (cc := b_S_takeLast) (maxL := 1) (ret := (some .long)) [(.inr (.inr (some b0)))] rfl (by decide +kernel) (Nat.le_of_ble_eq_true rfl) (L := [(0, (.inr (.inr (some b0))))]) rfl (fun p e s m args below meth c F hr hlk hnm hK ls hl hI => ?_)
  have h := hf
  unfold f_S_takeLast at h
  refine mt_aload_n F hl 0 rfl rfl d_S_takeLast_0 ?_
  obtain ⟨v1, e_v1, h⟩ := mw_bind h
  refine mw_getI F hK hI (in_1 _) (hc_1) 3 (by decide) (mA k_9) rfl e_v1 d_S_takeLast_1 ?_
  refine lv_if_ne (tgt := 11) F.1 F.2.1 d_S_takeLast_4 (by decide) (fun hc => ?_) (fun hc => ?_)
  · rw [if_neg hc] at h
    refine mt_aload_n F hl 0 rfl rfl d_S_takeLast_11 ?_
    refine lv_dup F.1 F.2.1 d_S_takeLast_12 (mw_cat _) ?_
    obtain ⟨v2, e_v2, h⟩ := mw_bind h
    refine mw_getI F hK hI (in_1 _) (hc_1) 3 (by decide) (mA k_9) rfl e_v2 d_S_takeLast_13 ?_
    refine lv_iconst (v := 1) F.1 F.2.1 d_S_takeLast_16 (by decide) ?_
    refine lv_isub F.1 F.2.1 d_S_takeLast_17 ?_
    obtain ⟨S3, e_S3, h⟩ := mw_bind h
    refine mw_put F hK hI (in_1 _) ty_1 ok_1 nm_1 (hc_1) 3 (by decide) (mA k_9) rfl rfl rfl rfl e_S3 d_S_takeLast_18 (fun H locs hI => ?_)
    refine mt_aload_n F hl 0 rfl rfl d_S_takeLast_21 ?_
    obtain ⟨v4, e_v4, h⟩ := mw_bind h
    refine mw_getR F hK hI (in_1 _) (hc_1) 2 (by decide) (mA k_13) rfl e_v4 d_S_takeLast_22 ?_
    refine mt_aload_n F hl 0 rfl rfl d_S_takeLast_25 ?_
    obtain ⟨v5, e_v5, h⟩ := mw_bind h
    refine mw_getI F hK hI (in_1 _) (hc_1) 3 (by decide) (mA k_9) rfl e_v5 d_S_takeLast_26 ?_
    obtain ⟨v6, e_v6, h⟩ := mw_bind h
    refine mw_lald F hK hI (t0 := 1) rfl e_v6 d_S_takeLast_29 ?_
    exact mw_lret F hI hr hlk h (Nat.le_of_ble_eq_true rfl) (Nat.le_of_ble_eq_true rfl) d_S_takeLast_30
  · rw [if_pos hc] at h
    refine lv_ldc2 (v := (-1099511627776)) F.1 F.2.1 F.2.2.2.1 (F.2.2.2.2 _ (mA k_160)) d_S_takeLast_7 ?_
    exact mw_lret F hI hr hlk h (Nat.le_of_ble_eq_true rfl) (Nat.le_of_ble_eq_true rfl) d_S_takeLast_10
end
section
abbrev rm_K_pop : Room := { frames := 4, cells := 3, slots := 44, locals := 78 }
set_option maxHeartbeats 4000000 in
set_option maxRecDepth 100000 in
theorem c_K_pop (l : Launch) (D : va_G) (dA : Nat → ClassId) (A : Nat → Prop) (b0 : Nat) (a1 : Int32) (S : mc_S) (out : (Int64 × mc_S)) (hf : f_K_pop b0 a1 S = some out) : Met l y_K_pop (cd_K_pop :: ALL) rm_K_pop (va_Pc [va_rf (some b0), .int a1] (mw_B D dA CL (TY dA) ZZ A S)) (va_Ql (fun x (_ : Unit) => x = out.1) (fun _ t => mw_R D dA CL A out.2 t) A) 3 44 A := by
  refine mw_ofW (cc := b_K_pop) (maxL := 3) (ret := (some .long)) [(.inr (.inr (some b0))), (.inl a1)] rfl (by decide +kernel) (Nat.le_of_ble_eq_true rfl) (L := [(0, (.inr (.inr (some b0)))), (1, (.inl a1))]) rfl (fun p e s m args below meth c F hr hlk hnm hK ls hl hI => ?_)
  have h := hf
  unfold f_K_pop at h
  refine mt_aload_n F hl 0 rfl rfl d_K_pop_0 ?_
  refine mt_iload_n F hl 1 rfl rfl d_K_pop_1 ?_
  refine lv_iconst (v := 2) F.1 F.2.1 d_K_pop_2 (by decide) ?_
  obtain ⟨b1, e_b1, h⟩ := mw_bind h
  obtain ⟨o2, e_o2, h⟩ := mw_bind h
  refine mw_callq hI (mw_runV F hK hI (c_K_own l D dA A _ _ _ _ _ e_o2) (cwV 2 F.2.2.2.2 (gd_V k_118 k_119 k_120 k_121 k_78) rfl rfl rfl hd_K_own ⟨Nat.le_of_ble_eq_true rfl, Nat.le_of_ble_eq_true rfl⟩) (hc_0) e_b1 rfl hl.1 rfl (Nat.zero_le _) d_K_pop_3 ⟨(Nat.le_of_ble_eq_true rfl), (Nat.le_of_ble_eq_true rfl)⟩) (fun H locs hI => ?_)
  refine mt_astore_n F hl rfl (Nat.le_of_ble_eq_true rfl) rfl d_K_pop_6 (fun ls hl => ?_)
  have hl : mt_L ls 3 [(2, (.inr (.inr o2.1))), (0, (.inr (.inr (some b0)))), (1, (.inl a1))] := hl
  refine mt_aload_n F hl 0 rfl rfl d_K_pop_7 ?_
  refine mw_ifnonnull (tgt := 17) F d_K_pop_8 (by decide) (fun hc => ?_) (fun hc => ?_)
  · rw [if_neg hc] at h
    refine mt_aload_n F hl 0 rfl rfl d_K_pop_17 ?_
    obtain ⟨b3, e_b3, h⟩ := mw_bind h
    obtain ⟨o4, e_o4, h⟩ := mw_bind h
    refine mw_calll hI (mw_runV F hK hI (c_S_takeLast l D dA A _ _ _ e_o4) (cwV 0 F.2.2.2.2 (gd_V k_161 k_162 k_163 k_164 k_33) rfl rfl rfl hd_S_takeLast ⟨Nat.le_of_ble_eq_true rfl, Nat.le_of_ble_eq_true rfl⟩) (hc_1) e_b3 rfl hl.1 rfl (Nat.zero_le _) d_K_pop_18 ⟨(Nat.le_of_ble_eq_true rfl), (Nat.le_of_ble_eq_true rfl)⟩) (fun H locs hI => ?_)
    exact mw_lret F hI hr hlk h (Nat.le_of_ble_eq_true rfl) (Nat.le_of_ble_eq_true rfl) d_K_pop_21
  · rw [if_pos hc] at h
    refine lv_ldc2 (v := (-1099511627776)) F.1 F.2.1 F.2.2.2.1 (F.2.2.2.2 _ (mA k_70)) d_K_pop_11 ?_
    refine lv_goto (tgt := 21) F.1 F.2.1 d_K_pop_14 (by decide) ?_
    exact mw_lret F hI hr hlk h (Nat.le_of_ble_eq_true rfl) (Nat.le_of_ble_eq_true rfl) d_K_pop_21
abbrev rm_M_pop : Room := { frames := 2, cells := 0, slots := 0, locals := 47 }
set_option maxHeartbeats 4000000 in
set_option maxRecDepth 100000 in
theorem c_M_pop (l : Launch) (D : va_G) (dA : Nat → ClassId) (A : Nat → Prop) (b0 : Nat) (a1 : Int32) (S : mc_S) (out : (Int64 × mc_S)) (hf : f_M_pop b0 a1 S = some out) : Met l y_M_pop (cd_M_pop :: ALL) rm_M_pop (va_Pc [va_rf (some b0), .int a1] (mw_B D dA CL (TY dA) ZZ A S)) (va_Ql (fun x (_ : Unit) => x = out.1) (fun _ t => mw_R D dA CL A out.2 t) A) 0 0 A := by
  refine mw_ofW (cc := b_M_pop) (maxL := 2) (ret := (some .long)) [(.inr (.inr (some b0))), (.inl a1)] rfl (by decide +kernel) (Nat.le_of_ble_eq_true rfl) (L := [(0, (.inr (.inr (some b0)))), (1, (.inl a1))]) rfl (fun p e s m args below meth c F hr hlk hnm hK ls hl hI => ?_)
  have h := hf
  unfold f_M_pop at h
  refine mt_aload_n F hl 0 rfl rfl d_M_pop_0 ?_
  refine mt_iload_n F hl 1 rfl rfl d_M_pop_1 ?_
  refine lv_iconst (v := 2) F.1 F.2.1 d_M_pop_2 (by decide) ?_
  obtain ⟨b1, e_b1, h⟩ := mw_bind h
  obtain ⟨o2, e_o2, h⟩ := mw_bind h
  refine mw_calli hI (mw_runV F hK hI (c_M_is l D dA A _ _ _ _ _ e_o2) (cwV 2 F.2.2.2.2 (gd_V k_137 k_138 k_139 k_140 k_130) rfl rfl rfl hd_M_is ⟨Nat.le_of_ble_eq_true rfl, Nat.le_of_ble_eq_true rfl⟩) (hc_4) e_b1 rfl hl.1 rfl (Nat.zero_le _) d_M_pop_3 ⟨(Nat.le_of_ble_eq_true rfl), (Nat.le_of_ble_eq_true rfl)⟩) (fun H locs hI => ?_)
  refine lv_if_eq (tgt := 21) F.1 F.2.1 d_M_pop_6 (by decide) (fun hc => ?_) (fun hc => ?_)
  · rw [if_pos hc] at h
    refine lv_ldc2 (v := (-1099511627776)) F.1 F.2.1 F.2.2.2.1 (F.2.2.2.2 _ (mA k_158)) d_M_pop_21 ?_
    exact mw_lret F hI hr hlk h (Nat.le_of_ble_eq_true rfl) (Nat.le_of_ble_eq_true rfl) d_M_pop_24
  · rw [if_neg hc] at h
    refine mt_aload_n F hl 0 rfl rfl d_M_pop_9 ?_
    obtain ⟨v3, e_v3, h⟩ := mw_bind h
    refine mw_getR F hK hI (in_4 _) (hc_4) 0 (by decide) (mA k_56) rfl e_v3 d_M_pop_10 ?_
    obtain ⟨v4, e_v4, h⟩ := mw_bind h
    refine mw_getR F hK hI (in_5 _) (hc_5) 1 (by decide) (mA k_64) rfl e_v4 d_M_pop_13 ?_
    refine mt_iload_n F hl 1 rfl rfl d_M_pop_16 ?_
    obtain ⟨v5, e_v5, h⟩ := mw_bind h
    refine mw_iald F hK hI (t0 := 0) rfl e_v5 d_M_pop_17 ?_
    refine lv_if_ne (tgt := 25) F.1 F.2.1 d_M_pop_18 (by decide) (fun hc => ?_) (fun hc => ?_)
    · rw [if_neg hc] at h
      refine mt_aload_n F hl 0 rfl rfl d_M_pop_25 ?_
      obtain ⟨v6, e_v6, h⟩ := mw_bind h
      refine mw_getR F hK hI (in_4 _) (hc_4) 0 (by decide) (mA k_56) rfl e_v6 d_M_pop_26 ?_
      obtain ⟨v7, e_v7, h⟩ := mw_bind h
      refine mw_getR F hK hI (in_5 _) (hc_5) 1 (by decide) (mA k_64) rfl e_v7 d_M_pop_29 ?_
      refine mt_iload_n F hl 1 rfl rfl d_M_pop_32 ?_
      refine lv_dup2_11 F.1 F.2.1 d_M_pop_33 rfl (mw_cat _) ?_
      obtain ⟨v8, e_v8, h⟩ := mw_bind h
      refine mw_iald F hK hI (t0 := 0) rfl e_v8 d_M_pop_34 ?_
      refine lv_iconst (v := 1) F.1 F.2.1 d_M_pop_35 (by decide) ?_
      refine lv_isub F.1 F.2.1 d_M_pop_36 ?_
      obtain ⟨S9, e_S9, h⟩ := mw_bind h
      refine mw_iast F hK hI (t0 := 0) rfl e_S9 d_M_pop_37 (fun H locs hI => ?_)
      refine mt_aload_n F hl 0 rfl rfl d_M_pop_38 ?_
      obtain ⟨v10, e_v10, h⟩ := mw_bind h
      refine mw_getR F hK hI (in_4 _) (hc_4) 0 (by decide) (mA k_56) rfl e_v10 d_M_pop_39 ?_
      obtain ⟨v11, e_v11, h⟩ := mw_bind h
      refine mw_getR F hK hI (in_5 _) (hc_5) 4 (by decide) (mA k_149) rfl e_v11 d_M_pop_42 ?_
      refine lv_bipush (v := 20) F.1 F.2.1 d_M_pop_45 (by decide) ?_
      refine mt_iload_n F hl 1 rfl rfl d_M_pop_47 ?_
      refine lv_imul F.1 F.2.1 d_M_pop_48 ?_
      refine mt_aload_n F hl 0 rfl rfl d_M_pop_49 ?_
      obtain ⟨v12, e_v12, h⟩ := mw_bind h
      refine mw_getR F hK hI (in_4 _) (hc_4) 0 (by decide) (mA k_56) rfl e_v12 d_M_pop_50 ?_
      obtain ⟨v13, e_v13, h⟩ := mw_bind h
      refine mw_getR F hK hI (in_5 _) (hc_5) 1 (by decide) (mA k_64) rfl e_v13 d_M_pop_53 ?_
      refine mt_iload_n F hl 1 rfl rfl d_M_pop_56 ?_
      obtain ⟨v14, e_v14, h⟩ := mw_bind h
      refine mw_iald F hK hI (t0 := 0) rfl e_v14 d_M_pop_57 ?_
      refine lv_iadd F.1 F.2.1 d_M_pop_58 ?_
      obtain ⟨v15, e_v15, h⟩ := mw_bind h
      refine mw_lald F hK hI (t0 := 1) rfl e_v15 d_M_pop_59 ?_
      exact mw_lret F hI hr hlk h (Nat.le_of_ble_eq_true rfl) (Nat.le_of_ble_eq_true rfl) d_M_pop_60
    · rw [if_pos hc] at h
      refine lv_ldc2 (v := (-1099511627776)) F.1 F.2.1 F.2.2.2.1 (F.2.2.2.2 _ (mA k_158)) d_M_pop_21 ?_
      exact mw_lret F hI hr hlk h (Nat.le_of_ble_eq_true rfl) (Nat.le_of_ble_eq_true rfl) d_M_pop_24
abbrev rm_K_put : Room := { frames := 4, cells := 3, slots := 44, locals := 78 }
set_option maxHeartbeats 4000000 in
set_option maxRecDepth 100000 in
theorem c_K_put (l : Launch) (D : va_G) (dA : Nat → ClassId) (A : Nat → Prop) (b0 : Nat) (a1 : Int32) (a2 : Int32) (a3 : Int32) (a4 : Int32) (S : mc_S) (out : (Int32 × mc_S)) (hf : f_K_put b0 a1 a2 a3 a4 S = some out) : Met l y_K_put (cd_K_put :: ALL) rm_K_put (va_Pc [va_rf (some b0), .int a1, .int a2, .int a3, .int a4] (mw_B D dA CL (TY dA) ZZ A S)) (va_Qi (fun x (_ : Unit) => x = out.1) (fun _ t => mw_R D dA CL A out.2 t) A) 3 44 A := by
  refine mw_ofW (cc := b_K_put) (maxL := 8) (ret := (some .int)) [(.inr (.inr (some b0))), (.inl a1), (.inl a2), (.inl a3), (.inl a4)] rfl (by decide +kernel) (Nat.le_of_ble_eq_true rfl) (L := [(0, (.inr (.inr (some b0)))), (1, (.inl a1)), (2, (.inl a2)), (3, (.inl a3)), (4, (.inl a4))]) rfl (fun p e s m args below meth c F hr hlk hnm hK ls hl hI => ?_)
  have h := hf
  unfold f_K_put at h
  refine mt_aload_n F hl 0 rfl rfl d_K_put_0 ?_
  refine mt_iload_n F hl 3 rfl rfl d_K_put_1 ?_
  refine mt_iload F hl 4 rfl d_K_put_2 ?_
  obtain ⟨b1, e_b1, h⟩ := mw_bind h
  obtain ⟨o2, e_o2, h⟩ := mw_bind h
  refine mw_calll hI (mw_runV F hK hI (c_K_valueOf l D dA A _ _ _ _ _ e_o2) (cwV 2 F.2.2.2.2 (gd_V k_114 k_115 k_116 k_117 k_78) rfl rfl rfl hd_K_valueOf ⟨Nat.le_of_ble_eq_true rfl, Nat.le_of_ble_eq_true rfl⟩) (hc_0) e_b1 rfl hl.1 rfl (Nat.zero_le _) d_K_put_4 ⟨(Nat.le_of_ble_eq_true rfl), (Nat.le_of_ble_eq_true rfl)⟩) (fun H locs hI => ?_)
  refine mt_lstore F hl (Nat.le_of_ble_eq_true rfl) rfl d_K_put_7 (fun ls hl => ?_)
  have hl : mt_L ls 8 [(5, (.inr (.inl o2.1))), (0, (.inr (.inr (some b0)))), (1, (.inl a1)), (2, (.inl a2)), (3, (.inl a3)), (4, (.inl a4))] := hl
  refine mt_aload_n F hl 1 rfl rfl d_K_put_9 ?_
  refine mt_iload_n F hl 2 rfl rfl d_K_put_10 ?_
  refine lv_iconst (v := 2) F.1 F.2.1 d_K_put_11 (by decide) ?_
  obtain ⟨b3, e_b3, h⟩ := mw_bind h
  obtain ⟨o4, e_o4, h⟩ := mw_bind h
  refine mw_callq hI (mw_runV F hK hI (c_K_own l D dA A _ _ _ _ _ e_o4) (cwV 2 F.2.2.2.2 (gd_V k_118 k_119 k_120 k_121 k_78) rfl rfl rfl hd_K_own ⟨Nat.le_of_ble_eq_true rfl, Nat.le_of_ble_eq_true rfl⟩) (hc_0) e_b3 rfl hl.1 rfl (Nat.zero_le _) d_K_put_12 ⟨(Nat.le_of_ble_eq_true rfl), (Nat.le_of_ble_eq_true rfl)⟩) (fun H locs hI => ?_)
  refine mt_astore F hl (Nat.le_of_ble_eq_true rfl) rfl d_K_put_15 (fun ls hl => ?_)
  have hl : mt_L ls 8 [(7, (.inr (.inr o4.1))), (5, (.inr (.inl o2.1))), (0, (.inr (.inr (some b0)))), (1, (.inl a1)), (2, (.inl a2)), (3, (.inl a3)), (4, (.inl a4))] := hl
  refine mt_lload F hl 1 rfl d_K_put_17 ?_
  refine lv_ldc2 (v := (-1099511627776)) F.1 F.2.1 F.2.2.2.1 (F.2.2.2.2 _ (mA k_70)) d_K_put_19 ?_
  refine W.lcmp F.1 F.2.1 d_K_put_22 ?_
  refine lv_if_eq (tgt := 40) F.1 F.2.1 d_K_put_23 (by decide) (fun hc => ?_) (fun hc => ?_)
  · rw [if_pos hc] at h
    refine lv_iconst (v := (-1)) F.1 F.2.1 d_K_put_40 (by decide) ?_
    exact mw_iret F hI hr hlk h (Nat.le_of_ble_eq_true rfl) (Nat.le_of_ble_eq_true rfl) d_K_put_41
  · rw [if_neg hc] at h
    refine mt_aload F hl 0 rfl d_K_put_26 ?_
    refine mw_ifnull (tgt := 40) F d_K_put_28 (by decide) (fun hc => ?_) (fun hc => ?_)
    · rw [if_pos hc] at h
      refine lv_iconst (v := (-1)) F.1 F.2.1 d_K_put_40 (by decide) ?_
      exact mw_iret F hI hr hlk h (Nat.le_of_ble_eq_true rfl) (Nat.le_of_ble_eq_true rfl) d_K_put_41
    · rw [if_neg hc] at h
      refine mt_aload F hl 0 rfl d_K_put_31 ?_
      refine mt_iload_n F hl 4 rfl rfl d_K_put_33 ?_
      obtain ⟨b5, e_b5, h⟩ := mw_bind h
      obtain ⟨o6, e_o6, h⟩ := mw_bind h
      refine mw_calli hI (mw_runV F hK hI (c_S_holds l D dA A _ _ _ _ e_o6) (cwV 1 F.2.2.2.2 (gd_V k_97 k_165 k_99 k_100 k_33) rfl rfl rfl hd_S_holds ⟨Nat.le_of_ble_eq_true rfl, Nat.le_of_ble_eq_true rfl⟩) (hc_1) e_b5 rfl hl.1 rfl (Nat.zero_le _) d_K_put_34 ⟨(Nat.le_of_ble_eq_true rfl), (Nat.le_of_ble_eq_true rfl)⟩) (fun H locs hI => ?_)
      refine lv_if_ne (tgt := 42) F.1 F.2.1 d_K_put_37 (by decide) (fun hc => ?_) (fun hc => ?_)
      · rw [if_neg hc] at h
        refine mt_aload F hl 0 rfl d_K_put_42 ?_
        obtain ⟨v7, e_v7, h⟩ := mw_bind h
        refine mw_getR F hK hI (in_1 _) (hc_1) 2 (by decide) (mA k_166) rfl e_v7 d_K_put_44 ?_
        refine mt_iload_n F hl 4 rfl rfl d_K_put_47 ?_
        refine mt_lload F hl 1 rfl d_K_put_48 ?_
        obtain ⟨S8, e_S8, h⟩ := mw_bind h
        refine mw_last F hK hI (t0 := 1) rfl e_S8 d_K_put_50 (fun H locs hI => ?_)
        refine lv_iconst (v := 0) F.1 F.2.1 d_K_put_51 (by decide) ?_
        exact mw_iret F hI hr hlk h (Nat.le_of_ble_eq_true rfl) (Nat.le_of_ble_eq_true rfl) d_K_put_52
      · rw [if_pos hc] at h
        refine lv_iconst (v := (-1)) F.1 F.2.1 d_K_put_40 (by decide) ?_
        exact mw_iret F hI hr hlk h (Nat.le_of_ble_eq_true rfl) (Nat.le_of_ble_eq_true rfl) d_K_put_41
abbrev rm_M_put : Room := { frames := 3, cells := 0, slots := 0, locals := 68 }
set_option maxHeartbeats 4000000 in
set_option maxRecDepth 100000 in
theorem c_M_put (l : Launch) (D : va_G) (dA : Nat → ClassId) (A : Nat → Prop) (b0 : Nat) (a1 : Int32) (a2 : Int32) (a3 : Int32) (a4 : Int32) (S : mc_S) (out : (Int32 × mc_S)) (hf : f_M_put b0 a1 a2 a3 a4 S = some out) : Met l y_M_put (cd_M_put :: ALL) rm_M_put (va_Pc [va_rf (some b0), .int a1, .int a2, .int a3, .int a4] (mw_B D dA CL (TY dA) ZZ A S)) (va_Qi (fun x (_ : Unit) => x = out.1) (fun _ t => mw_R D dA CL A out.2 t) A) 0 0 A := by
  refine mw_ofW (cc := b_M_put) (maxL := 5) (ret := (some .int)) [(.inr (.inr (some b0))), (.inl a1), (.inl a2), (.inl a3), (.inl a4)] rfl (by decide +kernel) (Nat.le_of_ble_eq_true rfl) (L := [(0, (.inr (.inr (some b0)))), (1, (.inl a1)), (2, (.inl a2)), (3, (.inl a3)), (4, (.inl a4))]) rfl (fun p e s m args below meth c F hr hlk hnm hK ls hl hI => ?_)
  have h := hf
  unfold f_M_put at h
  refine mt_aload_n F hl 0 rfl rfl d_M_put_0 ?_
  refine mt_iload_n F hl 1 rfl rfl d_M_put_1 ?_
  refine lv_iconst (v := 2) F.1 F.2.1 d_M_put_2 (by decide) ?_
  obtain ⟨b1, e_b1, h⟩ := mw_bind h
  obtain ⟨o2, e_o2, h⟩ := mw_bind h
  refine mw_calli hI (mw_runV F hK hI (c_M_is l D dA A _ _ _ _ _ e_o2) (cwV 2 F.2.2.2.2 (gd_V k_137 k_138 k_139 k_140 k_130) rfl rfl rfl hd_M_is ⟨Nat.le_of_ble_eq_true rfl, Nat.le_of_ble_eq_true rfl⟩) (hc_4) e_b1 rfl hl.1 rfl (Nat.zero_le _) d_M_put_3 ⟨(Nat.le_of_ble_eq_true rfl), (Nat.le_of_ble_eq_true rfl)⟩) (fun H locs hI => ?_)
  refine lv_if_eq (tgt := 40) F.1 F.2.1 d_M_put_6 (by decide) (fun hc => ?_) (fun hc => ?_)
  · rw [if_pos hc] at h
    refine lv_iconst (v := (-1)) F.1 F.2.1 d_M_put_40 (by decide) ?_
    exact mw_iret F hI hr hlk h (Nat.le_of_ble_eq_true rfl) (Nat.le_of_ble_eq_true rfl) d_M_put_41
  · rw [if_neg hc] at h
    refine mt_iload_n F hl 2 rfl rfl d_M_put_9 ?_
    refine lv_i2l F.1 F.2.1 d_M_put_10 rfl ?_
    refine lv_lconst (v := 0) F.1 F.2.1 d_M_put_11 (by decide) ?_
    refine mt_aload_n F hl 0 rfl rfl d_M_put_12 ?_
    obtain ⟨v3, e_v3, h⟩ := mw_bind h
    refine mw_getR F hK hI (in_4 _) (hc_4) 0 (by decide) (mA k_56) rfl e_v3 d_M_put_13 ?_
    obtain ⟨v4, e_v4, h⟩ := mw_bind h
    refine mw_getR F hK hI (in_5 _) (hc_5) 1 (by decide) (mA k_64) rfl e_v4 d_M_put_16 ?_
    refine mt_iload_n F hl 1 rfl rfl d_M_put_19 ?_
    obtain ⟨v5, e_v5, h⟩ := mw_bind h
    refine mw_iald F hK hI (t0 := 0) rfl e_v5 d_M_put_20 ?_
    refine lv_iconst (v := 1) F.1 F.2.1 d_M_put_21 (by decide) ?_
    refine lv_isub F.1 F.2.1 d_M_put_22 ?_
    refine lv_i2l F.1 F.2.1 d_M_put_23 rfl ?_
    obtain ⟨o6, e_o6, h⟩ := mw_bind h
    refine mw_calli hI (mw_runS F hK hI (c_M_in l D dA A _ _ _ _ _ e_o6) (cwS 3 F.2.2.2.2 (gd_S k_127 k_128 k_129 k_130) rfl rfl rfl hd_M_in ⟨Nat.le_of_ble_eq_true rfl, Nat.le_of_ble_eq_true rfl⟩) rfl hl.1 rfl (Nat.zero_le _) d_M_put_24 ⟨(Nat.le_of_ble_eq_true rfl), (Nat.le_of_ble_eq_true rfl)⟩) (fun H locs hI => ?_)
    refine lv_if_eq (tgt := 40) F.1 F.2.1 d_M_put_27 (by decide) (fun hc => ?_) (fun hc => ?_)
    · rw [if_pos hc] at h
      refine lv_iconst (v := (-1)) F.1 F.2.1 d_M_put_40 (by decide) ?_
      exact mw_iret F hI hr hlk h (Nat.le_of_ble_eq_true rfl) (Nat.le_of_ble_eq_true rfl) d_M_put_41
    · rw [if_neg hc] at h
      refine mt_aload_n F hl 0 rfl rfl d_M_put_30 ?_
      refine mt_iload_n F hl 3 rfl rfl d_M_put_31 ?_
      refine mt_iload F hl 4 rfl d_M_put_32 ?_
      obtain ⟨b7, e_b7, h⟩ := mw_bind h
      obtain ⟨o8, e_o8, h⟩ := mw_bind h
      refine mw_calli hI (mw_runV F hK hI (c_M_isValue l D dA A _ _ _ _ _ e_o8) (cwV 2 F.2.2.2.2 (gd_V k_141 k_142 k_143 k_144 k_130) rfl rfl rfl hd_M_isValue ⟨Nat.le_of_ble_eq_true rfl, Nat.le_of_ble_eq_true rfl⟩) (hc_4) e_b7 rfl hl.1 rfl (Nat.zero_le _) d_M_put_34 ⟨(Nat.le_of_ble_eq_true rfl), (Nat.le_of_ble_eq_true rfl)⟩) (fun H locs hI => ?_)
      refine lv_if_ne (tgt := 42) F.1 F.2.1 d_M_put_37 (by decide) (fun hc => ?_) (fun hc => ?_)
      · rw [if_neg hc] at h
        refine mt_aload_n F hl 0 rfl rfl d_M_put_42 ?_
        obtain ⟨v9, e_v9, h⟩ := mw_bind h
        refine mw_getR F hK hI (in_4 _) (hc_4) 0 (by decide) (mA k_56) rfl e_v9 d_M_put_43 ?_
        obtain ⟨v10, e_v10, h⟩ := mw_bind h
        refine mw_getR F hK hI (in_5 _) (hc_5) 4 (by decide) (mA k_149) rfl e_v10 d_M_put_46 ?_
        refine lv_bipush (v := 20) F.1 F.2.1 d_M_put_49 (by decide) ?_
        refine mt_iload_n F hl 1 rfl rfl d_M_put_51 ?_
        refine lv_imul F.1 F.2.1 d_M_put_52 ?_
        refine mt_iload_n F hl 2 rfl rfl d_M_put_53 ?_
        refine lv_iadd F.1 F.2.1 d_M_put_54 ?_
        refine mt_iload_n F hl 3 rfl rfl d_M_put_55 ?_
        refine mt_iload F hl 4 rfl d_M_put_56 ?_
        obtain ⟨o11, e_o11, h⟩ := mw_bind h
        refine mw_calll hI (mw_runS F hK hI (c_M_value l D dA A _ _ _ _ e_o11) (cwS 2 F.2.2.2.2 (gd_S k_150 k_151 k_152 k_130) rfl rfl rfl hd_M_value ⟨Nat.le_of_ble_eq_true rfl, Nat.le_of_ble_eq_true rfl⟩) rfl hl.1 rfl (by simp [mw_cat, mw_cI, mw_cL]) d_M_put_58 ⟨(Nat.le_of_ble_eq_true rfl), (Nat.le_of_ble_eq_true rfl)⟩) (fun H locs hI => ?_)
        obtain ⟨S12, e_S12, h⟩ := mw_bind h
        refine mw_last F hK hI (t0 := 1) rfl e_S12 d_M_put_61 (fun H locs hI => ?_)
        refine lv_iconst (v := 0) F.1 F.2.1 d_M_put_62 (by decide) ?_
        exact mw_iret F hI hr hlk h (Nat.le_of_ble_eq_true rfl) (Nat.le_of_ble_eq_true rfl) d_M_put_63
      · rw [if_pos hc] at h
        refine lv_iconst (v := (-1)) F.1 F.2.1 d_M_put_40 (by decide) ?_
        exact mw_iret F hI hr hlk h (Nat.le_of_ble_eq_true rfl) (Nat.le_of_ble_eq_true rfl) d_M_put_41
abbrev rm_K_item : Room := { frames := 2, cells := 0, slots := 0, locals := 43 }
set_option maxHeartbeats 4000000 in
set_option maxRecDepth 100000 in
theorem c_K_item (l : Launch) (D : va_G) (dA : Nat → ClassId) (A : Nat → Prop) (b0 : Nat) (a1 : Int32) (a2 : Int32) (S : mc_S) (out : (Int64 × mc_S)) (hf : f_K_item b0 a1 a2 S = some out) : Met l y_K_item (cd_K_item :: ALL) rm_K_item (va_Pc [va_rf (some b0), .int a1, .int a2] (mw_B D dA CL (TY dA) ZZ A S)) (va_Ql (fun x (_ : Unit) => x = out.1) (fun _ t => mw_R D dA CL A out.2 t) A) 0 0 A := by
  refine mw_ofW (cc := b_K_item) (maxL := 4) (ret := (some .long)) [(.inr (.inr (some b0))), (.inl a1), (.inl a2)] rfl (by decide +kernel) (Nat.le_of_ble_eq_true rfl) (L := [(0, (.inr (.inr (some b0)))), (1, (.inl a1)), (2, (.inl a2))]) rfl (fun p e s m args below meth c F hr hlk hnm hK ls hl hI => ?_)
  have h := hf
  unfold f_K_item at h
  refine mt_aload_n F hl 0 rfl rfl d_K_item_0 ?_
  obtain ⟨v1, e_v1, h⟩ := mw_bind h
  refine mw_getR F hK hI (in_0 _) (hc_0) 0 (by decide) (mA k_42) rfl e_v1 d_K_item_1 ?_
  refine mt_iload_n F hl 1 rfl rfl d_K_item_4 ?_
  refine lv_iconst (v := 2) F.1 F.2.1 d_K_item_5 (by decide) ?_
  obtain ⟨b2, e_b2, h⟩ := mw_bind h
  obtain ⟨o3, e_o3, h⟩ := mw_bind h
  refine mw_callq hI (mw_runV F hK hI (c_T_find l D dA A _ _ _ _ _ e_o3) (cwV 2 F.2.2.2.2 (gd_V k_85 k_86 k_87 k_88 k_38) rfl rfl rfl hd_T_find ⟨Nat.le_of_ble_eq_true rfl, Nat.le_of_ble_eq_true rfl⟩) (hc_2) e_b2 rfl hl.1 rfl (Nat.zero_le _) d_K_item_6 ⟨(Nat.le_of_ble_eq_true rfl), (Nat.le_of_ble_eq_true rfl)⟩) (fun H locs hI => ?_)
  refine mt_astore_n F hl rfl (Nat.le_of_ble_eq_true rfl) rfl d_K_item_9 (fun ls hl => ?_)
  have hl : mt_L ls 4 [(3, (.inr (.inr o3.1))), (0, (.inr (.inr (some b0)))), (1, (.inl a1)), (2, (.inl a2))] := hl
  refine mt_aload_n F hl 0 rfl rfl d_K_item_10 ?_
  refine mw_ifnull (tgt := 22) F d_K_item_11 (by decide) (fun hc => ?_) (fun hc => ?_)
  · rw [if_pos hc] at h
    refine lv_ldc2 (v := (-1099511627776)) F.1 F.2.1 F.2.2.2.1 (F.2.2.2.2 _ (mA k_70)) d_K_item_22 ?_
    refine lv_goto (tgt := 34) F.1 F.2.1 d_K_item_25 (by decide) ?_
    exact mw_lret F hI hr hlk h (Nat.le_of_ble_eq_true rfl) (Nat.le_of_ble_eq_true rfl) d_K_item_34
  · rw [if_neg hc] at h
    refine mt_aload_n F hl 0 rfl rfl d_K_item_14 ?_
    refine mt_iload_n F hl 3 rfl rfl d_K_item_15 ?_
    obtain ⟨b4, e_b4, h⟩ := mw_bind h
    obtain ⟨o5, e_o5, h⟩ := mw_bind h
    refine mw_calli hI (mw_runV F hK hI (c_S_holds l D dA A _ _ _ _ e_o5) (cwV 1 F.2.2.2.2 (gd_V k_97 k_165 k_99 k_100 k_33) rfl rfl rfl hd_S_holds ⟨Nat.le_of_ble_eq_true rfl, Nat.le_of_ble_eq_true rfl⟩) (hc_1) e_b4 rfl hl.1 rfl (Nat.zero_le _) d_K_item_16 ⟨(Nat.le_of_ble_eq_true rfl), (Nat.le_of_ble_eq_true rfl)⟩) (fun H locs hI => ?_)
    refine lv_if_ne (tgt := 28) F.1 F.2.1 d_K_item_19 (by decide) (fun hc => ?_) (fun hc => ?_)
    · rw [if_neg hc] at h
      refine mt_aload_n F hl 0 rfl rfl d_K_item_28 ?_
      obtain ⟨v6, e_v6, h⟩ := mw_bind h
      refine mw_getR F hK hI (in_1 _) (hc_1) 2 (by decide) (mA k_166) rfl e_v6 d_K_item_29 ?_
      refine mt_iload_n F hl 3 rfl rfl d_K_item_32 ?_
      obtain ⟨v7, e_v7, h⟩ := mw_bind h
      refine mw_lald F hK hI (t0 := 1) rfl e_v7 d_K_item_33 ?_
      exact mw_lret F hI hr hlk h (Nat.le_of_ble_eq_true rfl) (Nat.le_of_ble_eq_true rfl) d_K_item_34
    · rw [if_pos hc] at h
      refine lv_ldc2 (v := (-1099511627776)) F.1 F.2.1 F.2.2.2.1 (F.2.2.2.2 _ (mA k_70)) d_K_item_22 ?_
      refine lv_goto (tgt := 34) F.1 F.2.1 d_K_item_25 (by decide) ?_
      exact mw_lret F hI hr hlk h (Nat.le_of_ble_eq_true rfl) (Nat.le_of_ble_eq_true rfl) d_K_item_34
abbrev rm_M_item : Room := { frames := 2, cells := 0, slots := 0, locals := 47 }
set_option maxHeartbeats 4000000 in
set_option maxRecDepth 100000 in
theorem c_M_item (l : Launch) (D : va_G) (dA : Nat → ClassId) (A : Nat → Prop) (b0 : Nat) (a1 : Int32) (a2 : Int32) (S : mc_S) (out : (Int64 × mc_S)) (hf : f_M_item b0 a1 a2 S = some out) : Met l y_M_item (cd_M_item :: ALL) rm_M_item (va_Pc [va_rf (some b0), .int a1, .int a2] (mw_B D dA CL (TY dA) ZZ A S)) (va_Ql (fun x (_ : Unit) => x = out.1) (fun _ t => mw_R D dA CL A out.2 t) A) 0 0 A := by
  refine mw_ofW (cc := b_M_item) (maxL := 3) (ret := (some .long)) [(.inr (.inr (some b0))), (.inl a1), (.inl a2)] rfl (by decide +kernel) (Nat.le_of_ble_eq_true rfl) (L := [(0, (.inr (.inr (some b0)))), (1, (.inl a1)), (2, (.inl a2))]) rfl (fun p e s m args below meth c F hr hlk hnm hK ls hl hI => ?_)
  have h := hf
  unfold f_M_item at h
  refine mt_aload_n F hl 0 rfl rfl d_M_item_0 ?_
  refine mt_iload_n F hl 1 rfl rfl d_M_item_1 ?_
  refine lv_iconst (v := 2) F.1 F.2.1 d_M_item_2 (by decide) ?_
  obtain ⟨b1, e_b1, h⟩ := mw_bind h
  obtain ⟨o2, e_o2, h⟩ := mw_bind h
  refine mw_calli hI (mw_runV F hK hI (c_M_is l D dA A _ _ _ _ _ e_o2) (cwV 2 F.2.2.2.2 (gd_V k_137 k_138 k_139 k_140 k_130) rfl rfl rfl hd_M_is ⟨Nat.le_of_ble_eq_true rfl, Nat.le_of_ble_eq_true rfl⟩) (hc_4) e_b1 rfl hl.1 rfl (Nat.zero_le _) d_M_item_3 ⟨(Nat.le_of_ble_eq_true rfl), (Nat.le_of_ble_eq_true rfl)⟩) (fun H locs hI => ?_)
  refine lv_if_eq (tgt := 47) F.1 F.2.1 d_M_item_6 (by decide) (fun hc => ?_) (fun hc => ?_)
  · rw [if_pos hc] at h
    refine lv_ldc2 (v := (-1099511627776)) F.1 F.2.1 F.2.2.2.1 (F.2.2.2.2 _ (mA k_158)) d_M_item_47 ?_
    exact mw_lret F hI hr hlk h (Nat.le_of_ble_eq_true rfl) (Nat.le_of_ble_eq_true rfl) d_M_item_50
  · rw [if_neg hc] at h
    refine mt_iload_n F hl 2 rfl rfl d_M_item_9 ?_
    refine lv_i2l F.1 F.2.1 d_M_item_10 rfl ?_
    refine lv_lconst (v := 0) F.1 F.2.1 d_M_item_11 (by decide) ?_
    refine mt_aload_n F hl 0 rfl rfl d_M_item_12 ?_
    obtain ⟨v3, e_v3, h⟩ := mw_bind h
    refine mw_getR F hK hI (in_4 _) (hc_4) 0 (by decide) (mA k_56) rfl e_v3 d_M_item_13 ?_
    obtain ⟨v4, e_v4, h⟩ := mw_bind h
    refine mw_getR F hK hI (in_5 _) (hc_5) 1 (by decide) (mA k_64) rfl e_v4 d_M_item_16 ?_
    refine mt_iload_n F hl 1 rfl rfl d_M_item_19 ?_
    obtain ⟨v5, e_v5, h⟩ := mw_bind h
    refine mw_iald F hK hI (t0 := 0) rfl e_v5 d_M_item_20 ?_
    refine lv_iconst (v := 1) F.1 F.2.1 d_M_item_21 (by decide) ?_
    refine lv_isub F.1 F.2.1 d_M_item_22 ?_
    refine lv_i2l F.1 F.2.1 d_M_item_23 rfl ?_
    obtain ⟨o6, e_o6, h⟩ := mw_bind h
    refine mw_calli hI (mw_runS F hK hI (c_M_in l D dA A _ _ _ _ _ e_o6) (cwS 3 F.2.2.2.2 (gd_S k_127 k_128 k_129 k_130) rfl rfl rfl hd_M_in ⟨Nat.le_of_ble_eq_true rfl, Nat.le_of_ble_eq_true rfl⟩) rfl hl.1 rfl (Nat.zero_le _) d_M_item_24 ⟨(Nat.le_of_ble_eq_true rfl), (Nat.le_of_ble_eq_true rfl)⟩) (fun H locs hI => ?_)
    refine lv_if_eq (tgt := 47) F.1 F.2.1 d_M_item_27 (by decide) (fun hc => ?_) (fun hc => ?_)
    · rw [if_pos hc] at h
      refine lv_ldc2 (v := (-1099511627776)) F.1 F.2.1 F.2.2.2.1 (F.2.2.2.2 _ (mA k_158)) d_M_item_47 ?_
      exact mw_lret F hI hr hlk h (Nat.le_of_ble_eq_true rfl) (Nat.le_of_ble_eq_true rfl) d_M_item_50
    · rw [if_neg hc] at h
      refine mt_aload_n F hl 0 rfl rfl d_M_item_30 ?_
      obtain ⟨v7, e_v7, h⟩ := mw_bind h
      refine mw_getR F hK hI (in_4 _) (hc_4) 0 (by decide) (mA k_56) rfl e_v7 d_M_item_31 ?_
      obtain ⟨v8, e_v8, h⟩ := mw_bind h
      refine mw_getR F hK hI (in_5 _) (hc_5) 4 (by decide) (mA k_149) rfl e_v8 d_M_item_34 ?_
      refine lv_bipush (v := 20) F.1 F.2.1 d_M_item_37 (by decide) ?_
      refine mt_iload_n F hl 1 rfl rfl d_M_item_39 ?_
      refine lv_imul F.1 F.2.1 d_M_item_40 ?_
      refine mt_iload_n F hl 2 rfl rfl d_M_item_41 ?_
      refine lv_iadd F.1 F.2.1 d_M_item_42 ?_
      obtain ⟨v9, e_v9, h⟩ := mw_bind h
      refine mw_lald F hK hI (t0 := 1) rfl e_v9 d_M_item_43 ?_
      refine lv_goto (tgt := 50) F.1 F.2.1 d_M_item_44 (by decide) ?_
      exact mw_lret F hI hr hlk h (Nat.le_of_ble_eq_true rfl) (Nat.le_of_ble_eq_true rfl) d_M_item_50
abbrev rm_K_ownRoots : Room := { frames := 3, cells := 3, slots := 44, locals := 55 }
set_option maxHeartbeats 4000000 in
set_option maxRecDepth 100000 in
theorem c_K_ownRoots (l : Launch) (D : va_G) (dA : Nat → ClassId) (A : Nat → Prop) (b0 : Nat) (S : mc_S) (out : (Option Nat × mc_S)) (hf : f_K_ownRoots b0 S = some out) : Met l y_K_ownRoots (cd_K_ownRoots :: ALL) rm_K_ownRoots (va_Pc [va_rf (some b0)] (mw_B D dA CL (TY dA) ZZ A S)) (va_Qq (fun x (_ : Unit) => x = out.1) (fun _ t => mw_R D dA CL A out.2 t) A) 3 44 A := by
  refine mw_ofW (cc := b_K_ownRoots) (maxL := 1) (ret := (some (.object "KeepHeap$Slots"))) [(.inr (.inr (some b0)))] rfl (by decide +kernel) (Nat.le_of_ble_eq_true rfl) (L := [(0, (.inr (.inr (some b0))))]) rfl (fun p e s m args below meth c F hr hlk hnm hK ls hl hI => ?_)
  have h := hf
  unfold f_K_ownRoots at h
  refine mt_aload_n F hl 0 rfl rfl d_K_ownRoots_0 ?_
  obtain ⟨v1, e_v1, h⟩ := mw_bind h
  refine mw_getR F hK hI (in_0 _) (hc_0) 0 (by decide) (mA k_42) rfl e_v1 d_K_ownRoots_1 ?_
  obtain ⟨v2, e_v2, h⟩ := mw_bind h
  refine mw_getR F hK hI (in_2 _) (hc_2) 1 (by decide) (mA k_167) rfl e_v2 d_K_ownRoots_4 ?_
  refine mt_aload_n F hl 0 rfl rfl d_K_ownRoots_7 ?_
  obtain ⟨b3, e_b3, h⟩ := mw_bind h
  obtain ⟨o4, e_o4, h⟩ := mw_bind h
  refine mw_callq hI (mw_runV F hK hI (c_K_kept l D dA A _ _ _ e_o4) (cwV 0 F.2.2.2.2 (gd_V k_89 k_90 k_91 k_92 k_78) rfl rfl rfl hd_K_kept ⟨Nat.le_of_ble_eq_true rfl, Nat.le_of_ble_eq_true rfl⟩) (hc_0) e_b3 rfl hl.1 rfl (by simp [mw_cat, mw_cI, mw_cL]) d_K_ownRoots_8 ⟨(Nat.le_of_ble_eq_true rfl), (Nat.le_of_ble_eq_true rfl)⟩) (fun H locs hI => ?_)
  obtain ⟨v5, e_v5, h⟩ := mw_bind h
  refine mw_getR F hK hI (in_2 _) (hc_2) 1 (by decide) (mA k_167) rfl e_v5 d_K_ownRoots_11 ?_
  refine lv_acmp_ne (tgt := 34) F.1 F.2.1 d_K_ownRoots_14 (by decide) (fun hc => ?_) (fun hc => ?_)
  · rw [if_neg hc] at h
    refine mt_aload_n F hl 0 rfl rfl d_K_ownRoots_34 ?_
    obtain ⟨v6, e_v6, h⟩ := mw_bind h
    refine mw_getR F hK hI (in_0 _) (hc_0) 0 (by decide) (mA k_42) rfl e_v6 d_K_ownRoots_35 ?_
    obtain ⟨v7, e_v7, h⟩ := mw_bind h
    refine mw_getR F hK hI (in_2 _) (hc_2) 1 (by decide) (mA k_167) rfl e_v7 d_K_ownRoots_38 ?_
    exact mw_qret F hI hr hlk h (Nat.le_of_ble_eq_true rfl) (Nat.le_of_ble_eq_true rfl) d_K_ownRoots_41
  · rw [if_pos hc] at h
    refine mt_aload_n F hl 0 rfl rfl d_K_ownRoots_17 ?_
    obtain ⟨v8, e_v8, h⟩ := mw_bind h
    refine mw_getR F hK hI (in_0 _) (hc_0) 0 (by decide) (mA k_42) rfl e_v8 d_K_ownRoots_18 ?_
    refine mt_aload_n F hl 0 rfl rfl d_K_ownRoots_21 ?_
    obtain ⟨v9, e_v9, h⟩ := mw_bind h
    refine mw_getR F hK hI (in_0 _) (hc_0) 0 (by decide) (mA k_42) rfl e_v9 d_K_ownRoots_22 ?_
    obtain ⟨v10, e_v10, h⟩ := mw_bind h
    refine mw_getR F hK hI (in_2 _) (hc_2) 1 (by decide) (mA k_167) rfl e_v10 d_K_ownRoots_25 ?_
    obtain ⟨b11, e_b11, h⟩ := mw_bind h
    obtain ⟨o12, e_o12, h⟩ := mw_bind h
    refine mw_callq hI (mw_runV F hK hI (c_S_twin l D dA A _ _ _ e_o12) (cwV 0 F.2.2.2.2 (gd_V k_93 k_94 k_95 k_96 k_33) rfl rfl rfl hd_S_twin ⟨Nat.le_of_ble_eq_true rfl, Nat.le_of_ble_eq_true rfl⟩) (hc_1) e_b11 rfl hl.1 rfl (by simp [mw_cat, mw_cI, mw_cL]) d_K_ownRoots_28 ⟨(Nat.le_of_ble_eq_true rfl), (Nat.le_of_ble_eq_true rfl)⟩) (fun H locs hI => ?_)
    obtain ⟨S13, e_S13, h⟩ := mw_bind h
    refine mw_put F hK hI (in_2 _) ty_2 ok_2 nm_2 (hc_2) 1 (by decide) (mA k_167) rfl rfl (mw_narO _ _) (mw_fitO _ _) e_S13 d_K_ownRoots_31 (fun H locs hI => ?_)
    refine mt_aload_n F hl 0 rfl rfl d_K_ownRoots_34 ?_
    obtain ⟨v14, e_v14, h⟩ := mw_bind h
    refine mw_getR F hK hI (in_0 _) (hc_0) 0 (by decide) (mA k_42) rfl e_v14 d_K_ownRoots_35 ?_
    obtain ⟨v15, e_v15, h⟩ := mw_bind h
    refine mw_getR F hK hI (in_2 _) (hc_2) 1 (by decide) (mA k_167) rfl e_v15 d_K_ownRoots_38 ?_
    exact mw_qret F hI hr hlk h (Nat.le_of_ble_eq_true rfl) (Nat.le_of_ble_eq_true rfl) d_K_ownRoots_41
abbrev rm_K_root : Room := { frames := 4, cells := 3, slots := 44, locals := 75 }
set_option maxHeartbeats 4000000 in
set_option maxRecDepth 100000 in
theorem c_K_root (l : Launch) (D : va_G) (dA : Nat → ClassId) (A : Nat → Prop) (b0 : Nat) (a1 : Int32) (a2 : Int32) (a3 : Int32) (S : mc_S) (out : (Int32 × mc_S)) (hf : f_K_root b0 a1 a2 a3 S = some out) : Met l y_K_root (cd_K_root :: ALL) rm_K_root (va_Pc [va_rf (some b0), .int a1, .int a2, .int a3] (mw_B D dA CL (TY dA) ZZ A S)) (va_Qi (fun x (_ : Unit) => x = out.1) (fun _ t => mw_R D dA CL A out.2 t) A) 3 44 A := by
  refine mw_ofW (cc := b_K_root) (maxL := 6) (ret := (some .int)) [(.inr (.inr (some b0))), (.inl a1), (.inl a2), (.inl a3)] rfl (by decide +kernel) (Nat.le_of_ble_eq_true rfl) (L := [(0, (.inr (.inr (some b0)))), (1, (.inl a1)), (2, (.inl a2)), (3, (.inl a3))]) rfl (fun p e s m args below meth c F hr hlk hnm hK ls hl hI => ?_)
  have h := hf
  unfold f_K_root at h
  refine mt_aload_n F hl 0 rfl rfl d_K_root_0 ?_
  refine mt_iload_n F hl 2 rfl rfl d_K_root_1 ?_
  refine mt_iload_n F hl 3 rfl rfl d_K_root_2 ?_
  obtain ⟨b1, e_b1, h⟩ := mw_bind h
  obtain ⟨o2, e_o2, h⟩ := mw_bind h
  refine mw_calll hI (mw_runV F hK hI (c_K_valueOf l D dA A _ _ _ _ _ e_o2) (cwV 2 F.2.2.2.2 (gd_V k_114 k_115 k_116 k_117 k_78) rfl rfl rfl hd_K_valueOf ⟨Nat.le_of_ble_eq_true rfl, Nat.le_of_ble_eq_true rfl⟩) (hc_0) e_b1 rfl hl.1 rfl (Nat.zero_le _) d_K_root_3 ⟨(Nat.le_of_ble_eq_true rfl), (Nat.le_of_ble_eq_true rfl)⟩) (fun H locs hI => ?_)
  refine mt_lstore F hl (Nat.le_of_ble_eq_true rfl) rfl d_K_root_6 (fun ls hl => ?_)
  have hl : mt_L ls 6 [(4, (.inr (.inl o2.1))), (0, (.inr (.inr (some b0)))), (1, (.inl a1)), (2, (.inl a2)), (3, (.inl a3))] := hl
  refine mt_lload F hl 0 rfl d_K_root_8 ?_
  refine lv_ldc2 (v := (-1099511627776)) F.1 F.2.1 F.2.2.2.1 (F.2.2.2.2 _ (mA k_70)) d_K_root_10 ?_
  refine W.lcmp F.1 F.2.1 d_K_root_13 ?_
  refine lv_if_ne (tgt := 21) F.1 F.2.1 d_K_root_14 (by decide) (fun hc => ?_) (fun hc => ?_)
  · rw [if_neg hc] at h
    refine mt_aload_n F hl 1 rfl rfl d_K_root_21 ?_
    obtain ⟨b3, e_b3, h⟩ := mw_bind h
    obtain ⟨o4, e_o4, h⟩ := mw_bind h
    refine mw_callq hI (mw_runV F hK hI (c_K_ownRoots l D dA A _ _ _ e_o4) (cwV 0 F.2.2.2.2 (gd_V k_168 k_169 k_170 k_171 k_78) rfl rfl rfl hd_K_ownRoots ⟨Nat.le_of_ble_eq_true rfl, Nat.le_of_ble_eq_true rfl⟩) (hc_0) e_b3 rfl hl.1 rfl (Nat.zero_le _) d_K_root_22 ⟨(Nat.le_of_ble_eq_true rfl), (Nat.le_of_ble_eq_true rfl)⟩) (fun H locs hI => ?_)
    refine mt_iload_n F hl 2 rfl rfl d_K_root_25 ?_
    refine mt_lload F hl 0 rfl d_K_root_26 ?_
    obtain ⟨b5, e_b5, h⟩ := mw_bind h
    obtain ⟨o6, e_o6, h⟩ := mw_bind h
    refine mw_calli hI (mw_runV F hK hI (c_S_assign l D dA A _ _ _ _ _ e_o6) (cwV 2 F.2.2.2.2 (gd_V k_122 k_123 k_124 k_125 k_33) rfl rfl rfl hd_S_assign ⟨Nat.le_of_ble_eq_true rfl, Nat.le_of_ble_eq_true rfl⟩) (hc_1) e_b5 rfl hl.1 rfl (Nat.zero_le _) d_K_root_28 ⟨(Nat.le_of_ble_eq_true rfl), (Nat.le_of_ble_eq_true rfl)⟩) (fun H locs hI => ?_)
    exact mw_iret F hI hr hlk h (Nat.le_of_ble_eq_true rfl) (Nat.le_of_ble_eq_true rfl) d_K_root_31
  · rw [if_pos hc] at h
    refine lv_iconst (v := (-1)) F.1 F.2.1 d_K_root_17 (by decide) ?_
    refine lv_goto (tgt := 31) F.1 F.2.1 d_K_root_18 (by decide) ?_
    exact mw_iret F hI hr hlk h (Nat.le_of_ble_eq_true rfl) (Nat.le_of_ble_eq_true rfl) d_K_root_31
abbrev rm_N_findRoot : Room := { frames := 0, cells := 0, slots := 0, locals := 0 }
set_option maxHeartbeats 4000000 in
set_option maxRecDepth 100000 in
theorem s_N_findRoot (l : Launch) (D : va_G) (dA : Nat → ClassId) (A : Nat → Prop) (b0 : Nat) {p : Program} {e : Env} {s : State} {m : MethodId} {args : Array Value} {below : List Frame} {meth : Method} {c : Code} (F : CallFix p m c b_N_findRoot 3 s args (cd_N_findRoot :: ALL) y_N_findRoot.cls) (hr : meth.sig.returnType = (some .int)) (hlk : meth.locks = false) (hnm : meth.name = y_N_findRoot.name) (hK : mw_K D CL (TY dA) ZZ s) (out : (Int32 × mc_S)) : ∀ n : Nat, (∀ (x1 : Int32) (x2 : Int32) (S : mc_S) (H : Heap) (locs : List Loc) (ls : Array Slot), mw_I D dA CL A S s.heap H locs → mt_L ls 3 [(0, (.inr (.inr (some b0)))), (1, (.inl x1)), (2, (.inl x2))] → g_N_findRoot b0 n x1 x2 S = some out → W p l e rm_N_findRoot s m args below meth c H locs (0) (0) (MQ below (va_Qi (fun x (_ : Unit) => x = out.1) (fun _ t => mw_R D dA CL A out.2 t) A) args s 0 0 A) (F0 m 2 ls [])) := by
  intro n
  induction n with
  | zero =>
    intro x1 x2 S H locs ls hI hl h; have h : (none : Option (Int32 × mc_S)) = some out := h; cases h
  | succ k0 ih =>
    intro x1 x2 S H locs ls hI hl h
    have h : q_N_findRoot_0 b0 (g_N_findRoot b0 k0) x1 x2 S = some out := h
    unfold q_N_findRoot_0 at h
    refine mt_iload_n F hl 2 rfl rfl d_N_findRoot_2 ?_
    refine mt_aload_n F hl 0 rfl rfl d_N_findRoot_3 ?_
    obtain ⟨v1, e_v1, h⟩ := mw_bind h
    refine mw_getI F hK hI (in_5 _) (hc_5) 6 (by decide) (mA k_172) rfl e_v1 d_N_findRoot_4 ?_
    refine lv_icmp_ge (tgt := 28) F.1 F.2.1 d_N_findRoot_7 (by decide) (fun hc => ?_) (fun hc => ?_)
    · rw [if_pos hc] at h
      refine lv_iconst (v := (-1)) F.1 F.2.1 d_N_findRoot_28 (by decide) ?_
      exact mw_iret F hI hr hlk h (Nat.le_of_ble_eq_true rfl) (Nat.le_of_ble_eq_true rfl) d_N_findRoot_29
    · rw [if_neg hc] at h
      refine mt_aload_n F hl 0 rfl rfl d_N_findRoot_10 ?_
      obtain ⟨v2, e_v2, h⟩ := mw_bind h
      refine mw_getR F hK hI (in_5 _) (hc_5) 3 (by decide) (mA k_47) rfl e_v2 d_N_findRoot_11 ?_
      refine mt_iload_n F hl 2 rfl rfl d_N_findRoot_14 ?_
      obtain ⟨v3, e_v3, h⟩ := mw_bind h
      refine mw_iald F hK hI (t0 := 0) rfl e_v3 d_N_findRoot_15 ?_
      refine mt_iload_n F hl 1 rfl rfl d_N_findRoot_16 ?_
      refine lv_icmp_ne (tgt := 22) F.1 F.2.1 d_N_findRoot_17 (by decide) (fun hc => ?_) (fun hc => ?_)
      · rw [if_neg hc] at h
        refine mt_iinc (v := (x2 + 1)) F hl 2 rfl (by rw [show Int32.ofInt 1 = (1 : Int32) from by decide]) (Nat.le_of_ble_eq_true rfl) rfl d_N_findRoot_22 (fun ls hl => ?_)
        have hl : mt_L ls 3 [(2, (.inl (x2 + 1))), (0, (.inr (.inr (some b0)))), (1, (.inl x1))] := hl
        refine lv_goto (tgt := 2) F.1 F.2.1 d_N_findRoot_25 (by decide) ?_
        refine W.widen (k := 0) (n := 0) (Nat.le_of_ble_eq_true rfl) (Nat.le_of_ble_eq_true rfl) ?_
        exact ih _ _ _ _ _ _ hI (mt_sub hl [1, 2, 0] rfl) h
      · rw [if_pos hc] at h
        refine mt_iload_n F hl 2 rfl rfl d_N_findRoot_20 ?_
        exact mw_iret F hI hr hlk h (Nat.le_of_ble_eq_true rfl) (Nat.le_of_ble_eq_true rfl) d_N_findRoot_21
set_option maxHeartbeats 4000000 in
set_option maxRecDepth 100000 in
theorem c_N_findRoot (l : Launch) (D : va_G) (dA : Nat → ClassId) (A : Nat → Prop) (b0 : Nat) (a1 : Int32) (S : mc_S) (out : (Int32 × mc_S)) (hf : f_N_findRoot b0 a1 S = some out) : Met l y_N_findRoot (cd_N_findRoot :: ALL) rm_N_findRoot (va_Pc [va_rf (some b0), .int a1] (mw_B D dA CL (TY dA) ZZ A S)) (va_Qi (fun x (_ : Unit) => x = out.1) (fun _ t => mw_R D dA CL A out.2 t) A) 0 0 A := by
  refine mw_ofW (cc := b_N_findRoot) (maxL := 3) (ret := (some .int)) [(.inr (.inr (some b0))), (.inl a1)] rfl (by decide +kernel) (Nat.le_of_ble_eq_true rfl) (L := [(0, (.inr (.inr (some b0)))), (1, (.inl a1))]) rfl (fun p e s m args below meth c F hr hlk hnm hK ls hl hI => ?_)
  have h := hf
  unfold f_N_findRoot at h
  refine lv_iconst (v := 0) F.1 F.2.1 d_N_findRoot_0 (by decide) ?_
  refine mt_istore_n F hl rfl (Nat.le_of_ble_eq_true rfl) rfl d_N_findRoot_1 (fun ls hl => ?_)
  have hl : mt_L ls 3 [(2, (.inl 0)), (0, (.inr (.inr (some b0)))), (1, (.inl a1))] := hl
  refine W.widen (k := 0) (n := 0) (Nat.le_of_ble_eq_true rfl) (Nat.le_of_ble_eq_true rfl) ?_
  exact (s_N_findRoot l D dA A b0 F hr hlk hnm hK out 5000) _ _ _ _ _ _ hI (mt_sub hl [1, 2, 0] rfl) h
abbrev rm_M_root : Room := { frames := 3, cells := 0, slots := 0, locals := 68 }
set_option maxHeartbeats 4000000 in
set_option maxRecDepth 100000 in
theorem c_M_root (l : Launch) (D : va_G) (dA : Nat → ClassId) (A : Nat → Prop) (b0 : Nat) (a1 : Int32) (a2 : Int32) (a3 : Int32) (S : mc_S) (out : (Int32 × mc_S)) (hf : f_M_root b0 a1 a2 a3 S = some out) : Met l y_M_root (cd_M_root :: ALL) rm_M_root (va_Pc [va_rf (some b0), .int a1, .int a2, .int a3] (mw_B D dA CL (TY dA) ZZ A S)) (va_Qi (fun x (_ : Unit) => x = out.1) (fun _ t => mw_R D dA CL A out.2 t) A) 0 0 A := by
  refine mw_ofW (cc := b_M_root) (maxL := 5) (ret := (some .int)) [(.inr (.inr (some b0))), (.inl a1), (.inl a2), (.inl a3)] rfl (by decide +kernel) (Nat.le_of_ble_eq_true rfl) (L := [(0, (.inr (.inr (some b0)))), (1, (.inl a1)), (2, (.inl a2)), (3, (.inl a3))]) rfl (fun p e s m args below meth c F hr hlk hnm hK ls hl hI => ?_)
  have h := hf
  unfold f_M_root at h
  refine mt_aload_n F hl 0 rfl rfl d_M_root_0 ?_
  refine mt_iload_n F hl 2 rfl rfl d_M_root_1 ?_
  refine mt_iload_n F hl 3 rfl rfl d_M_root_2 ?_
  obtain ⟨b1, e_b1, h⟩ := mw_bind h
  obtain ⟨o2, e_o2, h⟩ := mw_bind h
  refine mw_calli hI (mw_runV F hK hI (c_M_isValue l D dA A _ _ _ _ _ e_o2) (cwV 2 F.2.2.2.2 (gd_V k_141 k_142 k_143 k_144 k_130) rfl rfl rfl hd_M_isValue ⟨Nat.le_of_ble_eq_true rfl, Nat.le_of_ble_eq_true rfl⟩) (hc_4) e_b1 rfl hl.1 rfl (Nat.zero_le _) d_M_root_3 ⟨(Nat.le_of_ble_eq_true rfl), (Nat.le_of_ble_eq_true rfl)⟩) (fun H locs hI => ?_)
  refine lv_if_ne (tgt := 11) F.1 F.2.1 d_M_root_6 (by decide) (fun hc => ?_) (fun hc => ?_)
  · rw [if_neg hc] at h
    refine mt_aload_n F hl 0 rfl rfl d_M_root_11 ?_
    obtain ⟨v3, e_v3, h⟩ := mw_bind h
    refine mw_getR F hK hI (in_4 _) (hc_4) 0 (by decide) (mA k_56) rfl e_v3 d_M_root_12 ?_
    refine mt_iload_n F hl 1 rfl rfl d_M_root_15 ?_
    obtain ⟨b4, e_b4, h⟩ := mw_bind h
    obtain ⟨o5, e_o5, h⟩ := mw_bind h
    refine mw_calli hI (mw_runV F hK hI (c_N_findRoot l D dA A _ _ _ _ e_o5) (cwV 1 F.2.2.2.2 (gd_V k_173 k_174 k_175 k_176 k_53) rfl rfl rfl hd_N_findRoot ⟨Nat.le_of_ble_eq_true rfl, Nat.le_of_ble_eq_true rfl⟩) (hc_5) e_b4 rfl hl.1 rfl (Nat.zero_le _) d_M_root_16 ⟨(Nat.le_of_ble_eq_true rfl), (Nat.le_of_ble_eq_true rfl)⟩) (fun H locs hI => ?_)
    refine mt_istore F hl (Nat.le_of_ble_eq_true rfl) rfl d_M_root_19 (fun ls hl => ?_)
    have hl : mt_L ls 5 [(4, (.inl o5.1)), (0, (.inr (.inr (some b0)))), (1, (.inl a1)), (2, (.inl a2)), (3, (.inl a3))] := hl
    refine mt_iload_n F hl 3 rfl rfl d_M_root_21 ?_
    refine lv_if_ne (tgt := 109) F.1 F.2.1 d_M_root_22 (by decide) (fun hc => ?_) (fun hc => ?_)
    · rw [if_neg hc] at h
      refine mt_iload F hl 0 rfl d_M_root_109 ?_
      refine lv_if_ge (tgt := 162) F.1 F.2.1 d_M_root_111 (by decide) (fun hc => ?_) (fun hc => ?_)
      · rw [if_pos hc] at h
        refine mt_aload_n F hl 1 rfl rfl d_M_root_162 ?_
        obtain ⟨v6, e_v6, h⟩ := mw_bind h
        refine mw_getR F hK hI (in_4 _) (hc_4) 0 (by decide) (mA k_56) rfl e_v6 d_M_root_163 ?_
        obtain ⟨v7, e_v7, h⟩ := mw_bind h
        refine mw_getR F hK hI (in_5 _) (hc_5) 5 (by decide) (mA k_177) rfl e_v7 d_M_root_166 ?_
        refine mt_iload F hl 0 rfl d_M_root_169 ?_
        refine mt_iload_n F hl 3 rfl rfl d_M_root_171 ?_
        refine mt_iload_n F hl 4 rfl rfl d_M_root_172 ?_
        obtain ⟨o8, e_o8, h⟩ := mw_bind h
        refine mw_calll hI (mw_runS F hK hI (c_M_value l D dA A _ _ _ _ e_o8) (cwS 2 F.2.2.2.2 (gd_S k_150 k_151 k_152 k_130) rfl rfl rfl hd_M_value ⟨Nat.le_of_ble_eq_true rfl, Nat.le_of_ble_eq_true rfl⟩) rfl hl.1 rfl (by simp [mw_cat, mw_cI, mw_cL]) d_M_root_173 ⟨(Nat.le_of_ble_eq_true rfl), (Nat.le_of_ble_eq_true rfl)⟩) (fun H locs hI => ?_)
        obtain ⟨S9, e_S9, h⟩ := mw_bind h
        refine mw_last F hK hI (t0 := 1) rfl e_S9 d_M_root_176 (fun H locs hI => ?_)
        refine mt_aload_n F hl 1 rfl rfl d_M_root_177 ?_
        obtain ⟨v10, e_v10, h⟩ := mw_bind h
        refine mw_getR F hK hI (in_4 _) (hc_4) 0 (by decide) (mA k_56) rfl e_v10 d_M_root_178 ?_
        obtain ⟨v11, e_v11, h⟩ := mw_bind h
        refine mw_getI F hK hI (in_5 _) (hc_5) 6 (by decide) (mA k_178) rfl e_v11 d_M_root_181 ?_
        exact mw_iret F hI hr hlk h (Nat.le_of_ble_eq_true rfl) (Nat.le_of_ble_eq_true rfl) d_M_root_184
      · rw [if_neg hc] at h
        refine mt_aload_n F hl 1 rfl rfl d_M_root_114 ?_
        obtain ⟨v12, e_v12, h⟩ := mw_bind h
        refine mw_getR F hK hI (in_4 _) (hc_4) 0 (by decide) (mA k_56) rfl e_v12 d_M_root_115 ?_
        obtain ⟨v13, e_v13, h⟩ := mw_bind h
        refine mw_getI F hK hI (in_5 _) (hc_5) 6 (by decide) (mA k_178) rfl e_v13 d_M_root_118 ?_
        refine lv_bipush (v := 12) F.1 F.2.1 d_M_root_121 (by decide) ?_
        refine lv_icmp_ne (tgt := 129) F.1 F.2.1 d_M_root_123 (by decide) (fun hc => ?_) (fun hc => ?_)
        · rw [if_neg hc] at h
          refine mt_aload_n F hl 1 rfl rfl d_M_root_129 ?_
          obtain ⟨v14, e_v14, h⟩ := mw_bind h
          refine mw_getR F hK hI (in_4 _) (hc_4) 0 (by decide) (mA k_56) rfl e_v14 d_M_root_130 ?_
          obtain ⟨v15, e_v15, h⟩ := mw_bind h
          refine mw_getI F hK hI (in_5 _) (hc_5) 6 (by decide) (mA k_178) rfl e_v15 d_M_root_133 ?_
          refine mt_istore F hl (Nat.le_of_ble_eq_true rfl) rfl d_M_root_136 (fun ls hl => ?_)
          have hl : mt_L ls 5 [(4, (.inl v15)), (0, (.inr (.inr (some b0)))), (1, (.inl a1)), (2, (.inl a2)), (3, (.inl a3))] := hl
          refine mt_aload_n F hl 1 rfl rfl d_M_root_138 ?_
          obtain ⟨v16, e_v16, h⟩ := mw_bind h
          refine mw_getR F hK hI (in_4 _) (hc_4) 0 (by decide) (mA k_56) rfl e_v16 d_M_root_139 ?_
          refine lv_dup F.1 F.2.1 d_M_root_142 (mw_cat _) ?_
          obtain ⟨v17, e_v17, h⟩ := mw_bind h
          refine mw_getI F hK hI (in_5 _) (hc_5) 6 (by decide) (mA k_178) rfl e_v17 d_M_root_143 ?_
          refine lv_iconst (v := 1) F.1 F.2.1 d_M_root_146 (by decide) ?_
          refine lv_iadd F.1 F.2.1 d_M_root_147 ?_
          obtain ⟨S18, e_S18, h⟩ := mw_bind h
          refine mw_put F hK hI (in_5 _) ty_5 ok_5 nm_5 (hc_5) 6 (by decide) (mA k_178) rfl rfl rfl rfl e_S18 d_M_root_148 (fun H locs hI => ?_)
          refine mt_aload_n F hl 1 rfl rfl d_M_root_151 ?_
          obtain ⟨v19, e_v19, h⟩ := mw_bind h
          refine mw_getR F hK hI (in_4 _) (hc_4) 0 (by decide) (mA k_56) rfl e_v19 d_M_root_152 ?_
          obtain ⟨v20, e_v20, h⟩ := mw_bind h
          refine mw_getR F hK hI (in_5 _) (hc_5) 3 (by decide) (mA k_179) rfl e_v20 d_M_root_155 ?_
          refine mt_iload F hl 0 rfl d_M_root_158 ?_
          refine mt_iload_n F hl 2 rfl rfl d_M_root_160 ?_
          obtain ⟨S21, e_S21, h⟩ := mw_bind h
          refine mw_iast F hK hI (t0 := 0) rfl e_S21 d_M_root_161 (fun H locs hI => ?_)
          refine mt_aload_n F hl 1 rfl rfl d_M_root_162 ?_
          obtain ⟨v22, e_v22, h⟩ := mw_bind h
          refine mw_getR F hK hI (in_4 _) (hc_4) 0 (by decide) (mA k_56) rfl e_v22 d_M_root_163 ?_
          obtain ⟨v23, e_v23, h⟩ := mw_bind h
          refine mw_getR F hK hI (in_5 _) (hc_5) 5 (by decide) (mA k_177) rfl e_v23 d_M_root_166 ?_
          refine mt_iload F hl 0 rfl d_M_root_169 ?_
          refine mt_iload_n F hl 3 rfl rfl d_M_root_171 ?_
          refine mt_iload_n F hl 4 rfl rfl d_M_root_172 ?_
          obtain ⟨o24, e_o24, h⟩ := mw_bind h
          refine mw_calll hI (mw_runS F hK hI (c_M_value l D dA A _ _ _ _ e_o24) (cwS 2 F.2.2.2.2 (gd_S k_150 k_151 k_152 k_130) rfl rfl rfl hd_M_value ⟨Nat.le_of_ble_eq_true rfl, Nat.le_of_ble_eq_true rfl⟩) rfl hl.1 rfl (by simp [mw_cat, mw_cI, mw_cL]) d_M_root_173 ⟨(Nat.le_of_ble_eq_true rfl), (Nat.le_of_ble_eq_true rfl)⟩) (fun H locs hI => ?_)
          obtain ⟨S25, e_S25, h⟩ := mw_bind h
          refine mw_last F hK hI (t0 := 1) rfl e_S25 d_M_root_176 (fun H locs hI => ?_)
          refine mt_aload_n F hl 1 rfl rfl d_M_root_177 ?_
          obtain ⟨v26, e_v26, h⟩ := mw_bind h
          refine mw_getR F hK hI (in_4 _) (hc_4) 0 (by decide) (mA k_56) rfl e_v26 d_M_root_178 ?_
          obtain ⟨v27, e_v27, h⟩ := mw_bind h
          refine mw_getI F hK hI (in_5 _) (hc_5) 6 (by decide) (mA k_178) rfl e_v27 d_M_root_181 ?_
          exact mw_iret F hI hr hlk h (Nat.le_of_ble_eq_true rfl) (Nat.le_of_ble_eq_true rfl) d_M_root_184
        · rw [if_pos hc] at h
          refine lv_bipush (v := (-3)) F.1 F.2.1 d_M_root_126 (by decide) ?_
          exact mw_iret F hI hr hlk h (Nat.le_of_ble_eq_true rfl) (Nat.le_of_ble_eq_true rfl) d_M_root_128
    · rw [if_pos hc] at h
      refine mt_iload F hl 0 rfl d_M_root_25 ?_
      refine lv_if_ge (tgt := 38) F.1 F.2.1 d_M_root_27 (by decide) (fun hc => ?_) (fun hc => ?_)
      · rw [if_pos hc] at h
        refine mt_aload_n F hl 1 rfl rfl d_M_root_38 ?_
        obtain ⟨v28, e_v28, h⟩ := mw_bind h
        refine mw_getR F hK hI (in_4 _) (hc_4) 0 (by decide) (mA k_56) rfl e_v28 d_M_root_39 ?_
        refine lv_dup F.1 F.2.1 d_M_root_42 (mw_cat _) ?_
        obtain ⟨v29, e_v29, h⟩ := mw_bind h
        refine mw_getI F hK hI (in_5 _) (hc_5) 6 (by decide) (mA k_178) rfl e_v29 d_M_root_43 ?_
        refine lv_iconst (v := 1) F.1 F.2.1 d_M_root_46 (by decide) ?_
        refine lv_isub F.1 F.2.1 d_M_root_47 ?_
        obtain ⟨S30, e_S30, h⟩ := mw_bind h
        refine mw_put F hK hI (in_5 _) ty_5 ok_5 nm_5 (hc_5) 6 (by decide) (mA k_178) rfl rfl rfl rfl e_S30 d_M_root_48 (fun H locs hI => ?_)
        refine mt_aload_n F hl 1 rfl rfl d_M_root_51 ?_
        obtain ⟨v31, e_v31, h⟩ := mw_bind h
        refine mw_getR F hK hI (in_4 _) (hc_4) 0 (by decide) (mA k_56) rfl e_v31 d_M_root_52 ?_
        obtain ⟨v32, e_v32, h⟩ := mw_bind h
        refine mw_getR F hK hI (in_5 _) (hc_5) 3 (by decide) (mA k_179) rfl e_v32 d_M_root_55 ?_
        refine mt_iload F hl 0 rfl d_M_root_58 ?_
        refine mt_aload_n F hl 1 rfl rfl d_M_root_60 ?_
        obtain ⟨v33, e_v33, h⟩ := mw_bind h
        refine mw_getR F hK hI (in_4 _) (hc_4) 0 (by decide) (mA k_56) rfl e_v33 d_M_root_61 ?_
        obtain ⟨v34, e_v34, h⟩ := mw_bind h
        refine mw_getR F hK hI (in_5 _) (hc_5) 3 (by decide) (mA k_179) rfl e_v34 d_M_root_64 ?_
        refine mt_aload_n F hl 1 rfl rfl d_M_root_67 ?_
        obtain ⟨v35, e_v35, h⟩ := mw_bind h
        refine mw_getR F hK hI (in_4 _) (hc_4) 0 (by decide) (mA k_56) rfl e_v35 d_M_root_68 ?_
        obtain ⟨v36, e_v36, h⟩ := mw_bind h
        refine mw_getI F hK hI (in_5 _) (hc_5) 6 (by decide) (mA k_178) rfl e_v36 d_M_root_71 ?_
        obtain ⟨v37, e_v37, h⟩ := mw_bind h
        refine mw_iald F hK hI (t0 := 0) rfl e_v37 d_M_root_74 ?_
        obtain ⟨S38, e_S38, h⟩ := mw_bind h
        refine mw_iast F hK hI (t0 := 0) rfl e_S38 d_M_root_75 (fun H locs hI => ?_)
        refine mt_aload_n F hl 1 rfl rfl d_M_root_76 ?_
        obtain ⟨v39, e_v39, h⟩ := mw_bind h
        refine mw_getR F hK hI (in_4 _) (hc_4) 0 (by decide) (mA k_56) rfl e_v39 d_M_root_77 ?_
        obtain ⟨v40, e_v40, h⟩ := mw_bind h
        refine mw_getR F hK hI (in_5 _) (hc_5) 5 (by decide) (mA k_177) rfl e_v40 d_M_root_80 ?_
        refine mt_iload F hl 0 rfl d_M_root_83 ?_
        refine mt_aload_n F hl 1 rfl rfl d_M_root_85 ?_
        obtain ⟨v41, e_v41, h⟩ := mw_bind h
        refine mw_getR F hK hI (in_4 _) (hc_4) 0 (by decide) (mA k_56) rfl e_v41 d_M_root_86 ?_
        obtain ⟨v42, e_v42, h⟩ := mw_bind h
        refine mw_getR F hK hI (in_5 _) (hc_5) 5 (by decide) (mA k_177) rfl e_v42 d_M_root_89 ?_
        refine mt_aload_n F hl 1 rfl rfl d_M_root_92 ?_
        obtain ⟨v43, e_v43, h⟩ := mw_bind h
        refine mw_getR F hK hI (in_4 _) (hc_4) 0 (by decide) (mA k_56) rfl e_v43 d_M_root_93 ?_
        obtain ⟨v44, e_v44, h⟩ := mw_bind h
        refine mw_getI F hK hI (in_5 _) (hc_5) 6 (by decide) (mA k_178) rfl e_v44 d_M_root_96 ?_
        obtain ⟨v45, e_v45, h⟩ := mw_bind h
        refine mw_lald F hK hI (t0 := 1) rfl e_v45 d_M_root_99 ?_
        obtain ⟨S46, e_S46, h⟩ := mw_bind h
        refine mw_last F hK hI (t0 := 1) rfl e_S46 d_M_root_100 (fun H locs hI => ?_)
        refine mt_aload_n F hl 1 rfl rfl d_M_root_101 ?_
        obtain ⟨v47, e_v47, h⟩ := mw_bind h
        refine mw_getR F hK hI (in_4 _) (hc_4) 0 (by decide) (mA k_56) rfl e_v47 d_M_root_102 ?_
        obtain ⟨v48, e_v48, h⟩ := mw_bind h
        refine mw_getI F hK hI (in_5 _) (hc_5) 6 (by decide) (mA k_178) rfl e_v48 d_M_root_105 ?_
        exact mw_iret F hI hr hlk h (Nat.le_of_ble_eq_true rfl) (Nat.le_of_ble_eq_true rfl) d_M_root_108
      · rw [if_neg hc] at h
        refine mt_aload_n F hl 1 rfl rfl d_M_root_30 ?_
        obtain ⟨v49, e_v49, h⟩ := mw_bind h
        refine mw_getR F hK hI (in_4 _) (hc_4) 0 (by decide) (mA k_56) rfl e_v49 d_M_root_31 ?_
        obtain ⟨v50, e_v50, h⟩ := mw_bind h
        refine mw_getI F hK hI (in_5 _) (hc_5) 6 (by decide) (mA k_178) rfl e_v50 d_M_root_34 ?_
        exact mw_iret F hI hr hlk h (Nat.le_of_ble_eq_true rfl) (Nat.le_of_ble_eq_true rfl) d_M_root_37
  · rw [if_pos hc] at h
    refine lv_iconst (v := (-1)) F.1 F.2.1 d_M_root_9 (by decide) ?_
    exact mw_iret F hI hr hlk h (Nat.le_of_ble_eq_true rfl) (Nat.le_of_ble_eq_true rfl) d_M_root_10
abbrev rm_K_rooted : Room := { frames := 2, cells := 0, slots := 0, locals := 44 }
set_option maxHeartbeats 4000000 in
set_option maxRecDepth 100000 in
theorem c_K_rooted (l : Launch) (D : va_G) (dA : Nat → ClassId) (A : Nat → Prop) (b0 : Nat) (a1 : Int32) (S : mc_S) (out : (Int64 × mc_S)) (hf : f_K_rooted b0 a1 S = some out) : Met l y_K_rooted (cd_K_rooted :: ALL) rm_K_rooted (va_Pc [va_rf (some b0), .int a1] (mw_B D dA CL (TY dA) ZZ A S)) (va_Ql (fun x (_ : Unit) => x = out.1) (fun _ t => mw_R D dA CL A out.2 t) A) 0 0 A := by
  refine mw_ofW (cc := b_K_rooted) (maxL := 2) (ret := (some .long)) [(.inr (.inr (some b0))), (.inl a1)] rfl (by decide +kernel) (Nat.le_of_ble_eq_true rfl) (L := [(0, (.inr (.inr (some b0)))), (1, (.inl a1))]) rfl (fun p e s m args below meth c F hr hlk hnm hK ls hl hI => ?_)
  have h := hf
  unfold f_K_rooted at h
  refine mt_aload_n F hl 0 rfl rfl d_K_rooted_0 ?_
  obtain ⟨v1, e_v1, h⟩ := mw_bind h
  refine mw_getR F hK hI (in_0 _) (hc_0) 0 (by decide) (mA k_42) rfl e_v1 d_K_rooted_1 ?_
  obtain ⟨v2, e_v2, h⟩ := mw_bind h
  refine mw_getR F hK hI (in_2 _) (hc_2) 1 (by decide) (mA k_167) rfl e_v2 d_K_rooted_4 ?_
  refine mt_iload_n F hl 1 rfl rfl d_K_rooted_7 ?_
  obtain ⟨b3, e_b3, h⟩ := mw_bind h
  obtain ⟨o4, e_o4, h⟩ := mw_bind h
  refine mw_calll hI (mw_runV F hK hI (c_S_named l D dA A _ _ _ _ e_o4) (cwV 1 F.2.2.2.2 (gd_V k_154 k_155 k_156 k_157 k_33) rfl rfl rfl hd_S_named ⟨Nat.le_of_ble_eq_true rfl, Nat.le_of_ble_eq_true rfl⟩) (hc_1) e_b3 rfl hl.1 rfl (Nat.zero_le _) d_K_rooted_8 ⟨(Nat.le_of_ble_eq_true rfl), (Nat.le_of_ble_eq_true rfl)⟩) (fun H locs hI => ?_)
  exact mw_lret F hI hr hlk h (Nat.le_of_ble_eq_true rfl) (Nat.le_of_ble_eq_true rfl) d_K_rooted_11
abbrev rm_M_rooted : Room := { frames := 1, cells := 0, slots := 0, locals := 22 }
set_option maxHeartbeats 4000000 in
set_option maxRecDepth 100000 in
theorem c_M_rooted (l : Launch) (D : va_G) (dA : Nat → ClassId) (A : Nat → Prop) (b0 : Nat) (a1 : Int32) (S : mc_S) (out : (Int64 × mc_S)) (hf : f_M_rooted b0 a1 S = some out) : Met l y_M_rooted (cd_M_rooted :: ALL) rm_M_rooted (va_Pc [va_rf (some b0), .int a1] (mw_B D dA CL (TY dA) ZZ A S)) (va_Ql (fun x (_ : Unit) => x = out.1) (fun _ t => mw_R D dA CL A out.2 t) A) 0 0 A := by
  refine mw_ofW (cc := b_M_rooted) (maxL := 3) (ret := (some .long)) [(.inr (.inr (some b0))), (.inl a1)] rfl (by decide +kernel) (Nat.le_of_ble_eq_true rfl) (L := [(0, (.inr (.inr (some b0)))), (1, (.inl a1))]) rfl (fun p e s m args below meth c F hr hlk hnm hK ls hl hI => ?_)
  have h := hf
  unfold f_M_rooted at h
  refine mt_aload_n F hl 0 rfl rfl d_M_rooted_0 ?_
  obtain ⟨v1, e_v1, h⟩ := mw_bind h
  refine mw_getR F hK hI (in_4 _) (hc_4) 0 (by decide) (mA k_56) rfl e_v1 d_M_rooted_1 ?_
  refine mt_iload_n F hl 1 rfl rfl d_M_rooted_4 ?_
  obtain ⟨b2, e_b2, h⟩ := mw_bind h
  obtain ⟨o3, e_o3, h⟩ := mw_bind h
  refine mw_calli hI (mw_runV F hK hI (c_N_findRoot l D dA A _ _ _ _ e_o3) (cwV 1 F.2.2.2.2 (gd_V k_173 k_174 k_175 k_176 k_53) rfl rfl rfl hd_N_findRoot ⟨Nat.le_of_ble_eq_true rfl, Nat.le_of_ble_eq_true rfl⟩) (hc_5) e_b2 rfl hl.1 rfl (Nat.zero_le _) d_M_rooted_5 ⟨(Nat.le_of_ble_eq_true rfl), (Nat.le_of_ble_eq_true rfl)⟩) (fun H locs hI => ?_)
  refine mt_istore_n F hl rfl (Nat.le_of_ble_eq_true rfl) rfl d_M_rooted_8 (fun ls hl => ?_)
  have hl : mt_L ls 3 [(2, (.inl o3.1)), (0, (.inr (.inr (some b0)))), (1, (.inl a1))] := hl
  refine mt_iload_n F hl 0 rfl rfl d_M_rooted_9 ?_
  refine lv_if_ge (tgt := 19) F.1 F.2.1 d_M_rooted_10 (by decide) (fun hc => ?_) (fun hc => ?_)
  · rw [if_pos hc] at h
    refine mt_aload_n F hl 1 rfl rfl d_M_rooted_19 ?_
    obtain ⟨v4, e_v4, h⟩ := mw_bind h
    refine mw_getR F hK hI (in_4 _) (hc_4) 0 (by decide) (mA k_56) rfl e_v4 d_M_rooted_20 ?_
    obtain ⟨v5, e_v5, h⟩ := mw_bind h
    refine mw_getR F hK hI (in_5 _) (hc_5) 5 (by decide) (mA k_177) rfl e_v5 d_M_rooted_23 ?_
    refine mt_iload_n F hl 0 rfl rfl d_M_rooted_26 ?_
    obtain ⟨v6, e_v6, h⟩ := mw_bind h
    refine mw_lald F hK hI (t0 := 1) rfl e_v6 d_M_rooted_27 ?_
    exact mw_lret F hI hr hlk h (Nat.le_of_ble_eq_true rfl) (Nat.le_of_ble_eq_true rfl) d_M_rooted_28
  · rw [if_neg hc] at h
    refine lv_ldc2 (v := 1099511627776) F.1 F.2.1 F.2.2.2.1 (F.2.2.2.2 _ (mA k_136)) d_M_rooted_13 ?_
    refine lv_goto (tgt := 28) F.1 F.2.1 d_M_rooted_16 (by decide) ?_
    exact mw_lret F hI hr hlk h (Nat.le_of_ble_eq_true rfl) (Nat.le_of_ble_eq_true rfl) d_M_rooted_28
abbrev rm_S_sameAs : Room := { frames := 0, cells := 0, slots := 0, locals := 0 }
set_option maxHeartbeats 4000000 in
set_option maxRecDepth 100000 in
theorem s_S_sameAs (l : Launch) (D : va_G) (dA : Nat → ClassId) (A : Nat → Prop) (b0 : Nat) {p : Program} {e : Env} {s : State} {m : MethodId} {args : Array Value} {below : List Frame} {meth : Method} {c : Code} (F : CallFix p m c b_S_sameAs 3 s args (cd_S_sameAs :: ALL) y_S_sameAs.cls) (hr : meth.sig.returnType = (some .boolean)) (hlk : meth.locks = false) (hnm : meth.name = y_S_sameAs.name) (hK : mw_K D CL (TY dA) ZZ s) (out : (Int32 × mc_S)) : ∀ n : Nat, (∀ (r1 : Option Nat) (x2 : Int32) (S : mc_S) (H : Heap) (locs : List Loc) (ls : Array Slot), mw_I D dA CL A S s.heap H locs → mt_L ls 3 [(0, (.inr (.inr (some b0)))), (1, (.inr (.inr r1))), (2, (.inl x2))] → g_S_sameAs b0 n r1 x2 S = some out → W p l e rm_S_sameAs s m args below meth c H locs (0) (0) (MQ below (va_Qi (fun x (_ : Unit) => x = out.1) (fun _ t => mw_R D dA CL A out.2 t) A) args s 0 0 A) (F0 m 30 ls [])) := by
  intro n
  induction n with
  | zero =>
    intro r1 x2 S H locs ls hI hl h; have h : (none : Option (Int32 × mc_S)) = some out := h; cases h
  | succ k0 ih =>
    intro r1 x2 S H locs ls hI hl h
    have h : q_S_sameAs_0 b0 (g_S_sameAs b0 k0) r1 x2 S = some out := h
    unfold q_S_sameAs_0 at h
    refine mt_iload_n F hl 2 rfl rfl d_S_sameAs_30 ?_
    refine mt_aload_n F hl 0 rfl rfl d_S_sameAs_31 ?_
    obtain ⟨v1, e_v1, h⟩ := mw_bind h
    refine mw_getI F hK hI (in_1 _) (hc_1) 3 (by decide) (mA k_9) rfl e_v1 d_S_sameAs_32 ?_
    refine lv_icmp_ge (tgt := 77) F.1 F.2.1 d_S_sameAs_35 (by decide) (fun hc => ?_) (fun hc => ?_)
    · rw [if_pos hc] at h
      refine lv_iconst (v := 1) F.1 F.2.1 d_S_sameAs_77 (by decide) ?_
      exact mw_zret F hI hr hlk rfl h (Nat.le_of_ble_eq_true rfl) (Nat.le_of_ble_eq_true rfl) d_S_sameAs_78
    · rw [if_neg hc] at h
      refine mt_aload_n F hl 1 rfl rfl d_S_sameAs_38 ?_
      obtain ⟨v2, e_v2, h⟩ := mw_bind h
      refine mw_getR F hK hI (in_1 _) (hc_1) 1 (by decide) (mA k_11) rfl e_v2 d_S_sameAs_39 ?_
      refine mt_iload_n F hl 2 rfl rfl d_S_sameAs_42 ?_
      obtain ⟨v3, e_v3, h⟩ := mw_bind h
      refine mw_iald F hK hI (t0 := 0) rfl e_v3 d_S_sameAs_43 ?_
      refine mt_aload_n F hl 0 rfl rfl d_S_sameAs_44 ?_
      obtain ⟨v4, e_v4, h⟩ := mw_bind h
      refine mw_getR F hK hI (in_1 _) (hc_1) 1 (by decide) (mA k_11) rfl e_v4 d_S_sameAs_45 ?_
      refine mt_iload_n F hl 2 rfl rfl d_S_sameAs_48 ?_
      obtain ⟨v5, e_v5, h⟩ := mw_bind h
      refine mw_iald F hK hI (t0 := 0) rfl e_v5 d_S_sameAs_49 ?_
      refine lv_icmp_ne (tgt := 69) F.1 F.2.1 d_S_sameAs_50 (by decide) (fun hc => ?_) (fun hc => ?_)
      · rw [if_neg hc] at h
        refine lv_iconst (v := 0) F.1 F.2.1 d_S_sameAs_69 (by decide) ?_
        exact mw_zret F hI hr hlk rfl h (Nat.le_of_ble_eq_true rfl) (Nat.le_of_ble_eq_true rfl) d_S_sameAs_70
      · rw [if_pos hc] at h
        refine mt_aload_n F hl 1 rfl rfl d_S_sameAs_53 ?_
        obtain ⟨v6, e_v6, h⟩ := mw_bind h
        refine mw_getR F hK hI (in_1 _) (hc_1) 2 (by decide) (mA k_13) rfl e_v6 d_S_sameAs_54 ?_
        refine mt_iload_n F hl 2 rfl rfl d_S_sameAs_57 ?_
        obtain ⟨v7, e_v7, h⟩ := mw_bind h
        refine mw_lald F hK hI (t0 := 1) rfl e_v7 d_S_sameAs_58 ?_
        refine mt_aload_n F hl 0 rfl rfl d_S_sameAs_59 ?_
        obtain ⟨v8, e_v8, h⟩ := mw_bind h
        refine mw_getR F hK hI (in_1 _) (hc_1) 2 (by decide) (mA k_13) rfl e_v8 d_S_sameAs_60 ?_
        refine mt_iload_n F hl 2 rfl rfl d_S_sameAs_63 ?_
        obtain ⟨v9, e_v9, h⟩ := mw_bind h
        refine mw_lald F hK hI (t0 := 1) rfl e_v9 d_S_sameAs_64 ?_
        refine W.lcmp F.1 F.2.1 d_S_sameAs_65 ?_
        refine lv_if_eq (tgt := 71) F.1 F.2.1 d_S_sameAs_66 (by decide) (fun hc => ?_) (fun hc => ?_)
        · rw [if_pos hc] at h
          refine mt_iinc (v := (x2 + 1)) F hl 2 rfl (by rw [show Int32.ofInt 1 = (1 : Int32) from by decide]) (Nat.le_of_ble_eq_true rfl) rfl d_S_sameAs_71 (fun ls hl => ?_)
          have hl : mt_L ls 3 [(2, (.inl (x2 + 1))), (0, (.inr (.inr (some b0)))), (1, (.inr (.inr r1)))] := hl
          refine lv_goto (tgt := 30) F.1 F.2.1 d_S_sameAs_74 (by decide) ?_
          refine W.widen (k := 0) (n := 0) (Nat.le_of_ble_eq_true rfl) (Nat.le_of_ble_eq_true rfl) ?_
          exact ih _ _ _ _ _ _ hI (mt_sub hl [1, 2, 0] rfl) h
        · rw [if_neg hc] at h
          refine lv_iconst (v := 0) F.1 F.2.1 d_S_sameAs_69 (by decide) ?_
          exact mw_zret F hI hr hlk rfl h (Nat.le_of_ble_eq_true rfl) (Nat.le_of_ble_eq_true rfl) d_S_sameAs_70
set_option maxHeartbeats 4000000 in
set_option maxRecDepth 100000 in
theorem c_S_sameAs (l : Launch) (D : va_G) (dA : Nat → ClassId) (A : Nat → Prop) (b0 : Nat) (a1 : Option Nat) (S : mc_S) (out : (Int32 × mc_S)) (hf : f_S_sameAs b0 a1 S = some out) : Met l y_S_sameAs (cd_S_sameAs :: ALL) rm_S_sameAs (va_Pc [va_rf (some b0), va_rf a1] (mw_B D dA CL (TY dA) ZZ A S)) (va_Qi (fun x (_ : Unit) => x = out.1) (fun _ t => mw_R D dA CL A out.2 t) A) 0 0 A := by
  refine mw_ofW (cc := b_S_sameAs) (maxL := 3) (ret := (some .boolean)) [(.inr (.inr (some b0))), (.inr (.inr a1))] rfl (by decide +kernel) (Nat.le_of_ble_eq_true rfl) (L := [(0, (.inr (.inr (some b0)))), (1, (.inr (.inr a1)))]) rfl (fun p e s m args below meth c F hr hlk hnm hK ls hl hI => ?_)
  have h := hf
  unfold f_S_sameAs at h
  refine mt_aload_n F hl 1 rfl rfl d_S_sameAs_0 ?_
  refine mw_ifnull (tgt := 26) F d_S_sameAs_1 (by decide) (fun hc => ?_) (fun hc => ?_)
  · rw [if_pos hc] at h
    refine lv_iconst (v := 0) F.1 F.2.1 d_S_sameAs_26 (by decide) ?_
    exact mw_zret F hI hr hlk rfl h (Nat.le_of_ble_eq_true rfl) (Nat.le_of_ble_eq_true rfl) d_S_sameAs_27
  · rw [if_neg hc] at h
    refine mt_aload_n F hl 1 rfl rfl d_S_sameAs_4 ?_
    obtain ⟨v1, e_v1, h⟩ := mw_bind h
    refine mw_getI F hK hI (in_1 _) (hc_1) 0 (by decide) (mA k_10) rfl e_v1 d_S_sameAs_5 ?_
    refine mt_aload_n F hl 0 rfl rfl d_S_sameAs_8 ?_
    obtain ⟨v2, e_v2, h⟩ := mw_bind h
    refine mw_getI F hK hI (in_1 _) (hc_1) 0 (by decide) (mA k_10) rfl e_v2 d_S_sameAs_9 ?_
    refine lv_icmp_ne (tgt := 26) F.1 F.2.1 d_S_sameAs_12 (by decide) (fun hc => ?_) (fun hc => ?_)
    · rw [if_neg hc] at h
      refine lv_iconst (v := 0) F.1 F.2.1 d_S_sameAs_26 (by decide) ?_
      exact mw_zret F hI hr hlk rfl h (Nat.le_of_ble_eq_true rfl) (Nat.le_of_ble_eq_true rfl) d_S_sameAs_27
    · rw [if_pos hc] at h
      refine mt_aload_n F hl 1 rfl rfl d_S_sameAs_15 ?_
      obtain ⟨v3, e_v3, h⟩ := mw_bind h
      refine mw_getI F hK hI (in_1 _) (hc_1) 3 (by decide) (mA k_9) rfl e_v3 d_S_sameAs_16 ?_
      refine mt_aload_n F hl 0 rfl rfl d_S_sameAs_19 ?_
      obtain ⟨v4, e_v4, h⟩ := mw_bind h
      refine mw_getI F hK hI (in_1 _) (hc_1) 3 (by decide) (mA k_9) rfl e_v4 d_S_sameAs_20 ?_
      refine lv_icmp_eq (tgt := 28) F.1 F.2.1 d_S_sameAs_23 (by decide) (fun hc => ?_) (fun hc => ?_)
      · rw [if_pos hc] at h
        refine lv_iconst (v := 0) F.1 F.2.1 d_S_sameAs_28 (by decide) ?_
        refine mt_istore_n F hl rfl (Nat.le_of_ble_eq_true rfl) rfl d_S_sameAs_29 (fun ls hl => ?_)
        have hl : mt_L ls 3 [(2, (.inl 0)), (0, (.inr (.inr (some b0)))), (1, (.inr (.inr a1)))] := hl
        refine W.widen (k := 0) (n := 0) (Nat.le_of_ble_eq_true rfl) (Nat.le_of_ble_eq_true rfl) ?_
        exact (s_S_sameAs l D dA A b0 F hr hlk hnm hK out 5000) _ _ _ _ _ _ hI (mt_sub hl [1, 2, 0] rfl) h
      · rw [if_neg hc] at h
        refine lv_iconst (v := 0) F.1 F.2.1 d_S_sameAs_26 (by decide) ?_
        exact mw_zret F hI hr hlk rfl h (Nat.le_of_ble_eq_true rfl) (Nat.le_of_ble_eq_true rfl) d_S_sameAs_27
abbrev rm_S_namesChangedFrom : Room := { frames := 2, cells := 0, slots := 0, locals := 44 }
set_option maxHeartbeats 4000000 in
set_option maxRecDepth 100000 in
theorem s_S_namesChangedFrom (l : Launch) (D : va_G) (dA : Nat → ClassId) (A : Nat → Prop) (b0 : Nat) {p : Program} {e : Env} {s : State} {m : MethodId} {args : Array Value} {below : List Frame} {meth : Method} {c : Code} (F : CallFix p m c b_S_namesChangedFrom 4 s args (cd_S_namesChangedFrom :: ALL) y_S_namesChangedFrom.cls) (hr : meth.sig.returnType = (some .int)) (hlk : meth.locks = false) (hnm : meth.name = y_S_namesChangedFrom.name) (hK : mw_K D CL (TY dA) ZZ s) (out : (Int32 × mc_S)) : ∀ n : Nat, (∀ (r1 : Option Nat) (x2 : Int32) (x3 : Int32) (S : mc_S) (H : Heap) (locs : List Loc) (ls : Array Slot), mw_I D dA CL A S s.heap H locs → mt_L ls 4 [(0, (.inr (.inr (some b0)))), (1, (.inr (.inr r1))), (2, (.inl x2)), (3, (.inl x3))] → g_S_namesChangedFrom b0 n 0 r1 x2 x3 S = some out → W p l e rm_S_namesChangedFrom s m args below meth c H locs (0) (0) (MQ below (va_Qi (fun x (_ : Unit) => x = out.1) (fun _ t => mw_R D dA CL A out.2 t) A) args s 0 0 A) (F0 m 4 ls [])) ∧ (∀ (r1 : Option Nat) (x2 : Int32) (x3 : Int32) (S : mc_S) (H : Heap) (locs : List Loc) (ls : Array Slot), mw_I D dA CL A S s.heap H locs → mt_L ls 4 [(0, (.inr (.inr (some b0)))), (1, (.inr (.inr r1))), (2, (.inl x2)), (3, (.inl x3))] → g_S_namesChangedFrom b0 n 1 r1 x2 x3 S = some out → W p l e rm_S_namesChangedFrom s m args below meth c H locs (0) (0) (MQ below (va_Qi (fun x (_ : Unit) => x = out.1) (fun _ t => mw_R D dA CL A out.2 t) A) args s 0 0 A) (F0 m 43 ls [])) := by
  intro n
  induction n with
  | zero =>
    refine ⟨?_, ?_⟩
    · intro r1 x2 x3 S H locs ls hI hl h; have h : (none : Option (Int32 × mc_S)) = some out := h; cases h
    · intro r1 x2 x3 S H locs ls hI hl h; have h : (none : Option (Int32 × mc_S)) = some out := h; cases h
  | succ k0 ih =>
    refine ⟨?_, ?_⟩
    · intro r1 x2 x3 S H locs ls hI hl h
      have h : q_S_namesChangedFrom_0 b0 (g_S_namesChangedFrom b0 k0) r1 x2 x3 S = some out := h
      unfold q_S_namesChangedFrom_0 at h
      refine mt_iload_n F hl 3 rfl rfl d_S_namesChangedFrom_4 ?_
      refine mt_aload_n F hl 0 rfl rfl d_S_namesChangedFrom_5 ?_
      obtain ⟨v1, e_v1, h⟩ := mw_bind h
      refine mw_getI F hK hI (in_1 _) (hc_1) 3 (by decide) (mA k_9) rfl e_v1 d_S_namesChangedFrom_6 ?_
      refine lv_icmp_ge (tgt := 41) F.1 F.2.1 d_S_namesChangedFrom_9 (by decide) (fun hc => ?_) (fun hc => ?_)
      · rw [if_pos hc] at h
        refine lv_iconst (v := 0) F.1 F.2.1 d_S_namesChangedFrom_41 (by decide) ?_
        refine mt_istore_n F hl rfl (Nat.le_of_ble_eq_true rfl) rfl d_S_namesChangedFrom_42 (fun ls hl => ?_)
        have hl : mt_L ls 4 [(3, (.inl 0)), (0, (.inr (.inr (some b0)))), (1, (.inr (.inr r1))), (2, (.inl x2))] := hl
        refine W.widen (k := 0) (n := 0) (Nat.le_of_ble_eq_true rfl) (Nat.le_of_ble_eq_true rfl) ?_
        exact ih.2 _ _ _ _ _ _ _ hI (mt_sub hl [1, 2, 3, 0] rfl) h
      · rw [if_neg hc] at h
        refine mt_aload_n F hl 1 rfl rfl d_S_namesChangedFrom_12 ?_
        refine mt_aload_n F hl 0 rfl rfl d_S_namesChangedFrom_13 ?_
        obtain ⟨v2, e_v2, h⟩ := mw_bind h
        refine mw_getR F hK hI (in_1 _) (hc_1) 1 (by decide) (mA k_11) rfl e_v2 d_S_namesChangedFrom_14 ?_
        refine mt_iload_n F hl 3 rfl rfl d_S_namesChangedFrom_17 ?_
        obtain ⟨v3, e_v3, h⟩ := mw_bind h
        refine mw_iald F hK hI (t0 := 0) rfl e_v3 d_S_namesChangedFrom_18 ?_
        obtain ⟨b4, e_b4, h⟩ := mw_bind h
        obtain ⟨o5, e_o5, h⟩ := mw_bind h
        refine mw_calll hI (mw_runV F hK hI (c_S_named l D dA A _ _ _ _ e_o5) (cwV 1 F.2.2.2.2 (gd_V k_154 k_180 k_156 k_157 k_33) rfl rfl rfl hd_S_named ⟨Nat.le_of_ble_eq_true rfl, Nat.le_of_ble_eq_true rfl⟩) (hc_1) e_b4 rfl hl.1 rfl (Nat.zero_le _) d_S_namesChangedFrom_19 ⟨(Nat.le_of_ble_eq_true rfl), (Nat.le_of_ble_eq_true rfl)⟩) (fun H locs hI => ?_)
        refine mt_aload_n F hl 0 rfl rfl d_S_namesChangedFrom_22 ?_
        obtain ⟨v6, e_v6, h⟩ := mw_bind h
        refine mw_getR F hK hI (in_1 _) (hc_1) 2 (by decide) (mA k_13) rfl e_v6 d_S_namesChangedFrom_23 ?_
        refine mt_iload_n F hl 3 rfl rfl d_S_namesChangedFrom_26 ?_
        obtain ⟨v7, e_v7, h⟩ := mw_bind h
        refine mw_lald F hK hI (t0 := 1) rfl e_v7 d_S_namesChangedFrom_27 ?_
        refine W.lcmp F.1 F.2.1 d_S_namesChangedFrom_28 ?_
        refine lv_if_eq (tgt := 35) F.1 F.2.1 d_S_namesChangedFrom_29 (by decide) (fun hc => ?_) (fun hc => ?_)
        · rw [if_pos hc] at h
          refine mt_iinc (v := (x3 + 1)) F hl 3 rfl (by rw [show Int32.ofInt 1 = (1 : Int32) from by decide]) (Nat.le_of_ble_eq_true rfl) rfl d_S_namesChangedFrom_35 (fun ls hl => ?_)
          have hl : mt_L ls 4 [(3, (.inl (x3 + 1))), (0, (.inr (.inr (some b0)))), (1, (.inr (.inr r1))), (2, (.inl x2))] := hl
          refine lv_goto (tgt := 4) F.1 F.2.1 d_S_namesChangedFrom_38 (by decide) ?_
          refine W.widen (k := 0) (n := 0) (Nat.le_of_ble_eq_true rfl) (Nat.le_of_ble_eq_true rfl) ?_
          exact ih.1 _ _ _ _ _ _ _ hI (mt_sub hl [1, 2, 3, 0] rfl) h
        · rw [if_neg hc] at h
          refine mt_iinc (v := (x2 + 1)) F hl 2 rfl (by rw [show Int32.ofInt 1 = (1 : Int32) from by decide]) (Nat.le_of_ble_eq_true rfl) rfl d_S_namesChangedFrom_32 (fun ls hl => ?_)
          have hl : mt_L ls 4 [(2, (.inl (x2 + 1))), (0, (.inr (.inr (some b0)))), (1, (.inr (.inr r1))), (3, (.inl x3))] := hl
          refine mt_iinc (v := (x3 + 1)) F hl 3 rfl (by rw [show Int32.ofInt 1 = (1 : Int32) from by decide]) (Nat.le_of_ble_eq_true rfl) rfl d_S_namesChangedFrom_35 (fun ls hl => ?_)
          have hl : mt_L ls 4 [(3, (.inl (x3 + 1))), (2, (.inl (x2 + 1))), (0, (.inr (.inr (some b0)))), (1, (.inr (.inr r1)))] := hl
          refine lv_goto (tgt := 4) F.1 F.2.1 d_S_namesChangedFrom_38 (by decide) ?_
          refine W.widen (k := 0) (n := 0) (Nat.le_of_ble_eq_true rfl) (Nat.le_of_ble_eq_true rfl) ?_
          exact ih.1 _ _ _ _ _ _ _ hI (mt_sub hl [2, 3, 1, 0] rfl) h
    · intro r1 x2 x3 S H locs ls hI hl h
      have h : q_S_namesChangedFrom_1 b0 (g_S_namesChangedFrom b0 k0) r1 x2 x3 S = some out := h
      unfold q_S_namesChangedFrom_1 at h
      refine mt_iload_n F hl 3 rfl rfl d_S_namesChangedFrom_43 ?_
      refine mt_aload_n F hl 1 rfl rfl d_S_namesChangedFrom_44 ?_
      obtain ⟨v1, e_v1, h⟩ := mw_bind h
      refine mw_getI F hK hI (in_1 _) (hc_1) 3 (by decide) (mA k_9) rfl e_v1 d_S_namesChangedFrom_45 ?_
      refine lv_icmp_ge (tgt := 77) F.1 F.2.1 d_S_namesChangedFrom_48 (by decide) (fun hc => ?_) (fun hc => ?_)
      · rw [if_pos hc] at h
        refine mt_iload_n F hl 2 rfl rfl d_S_namesChangedFrom_77 ?_
        exact mw_iret F hI hr hlk h (Nat.le_of_ble_eq_true rfl) (Nat.le_of_ble_eq_true rfl) d_S_namesChangedFrom_78
      · rw [if_neg hc] at h
        refine mt_aload_n F hl 0 rfl rfl d_S_namesChangedFrom_51 ?_
        refine mt_aload_n F hl 1 rfl rfl d_S_namesChangedFrom_52 ?_
        obtain ⟨v2, e_v2, h⟩ := mw_bind h
        refine mw_getR F hK hI (in_1 _) (hc_1) 1 (by decide) (mA k_11) rfl e_v2 d_S_namesChangedFrom_53 ?_
        refine mt_iload_n F hl 3 rfl rfl d_S_namesChangedFrom_56 ?_
        obtain ⟨v3, e_v3, h⟩ := mw_bind h
        refine mw_iald F hK hI (t0 := 0) rfl e_v3 d_S_namesChangedFrom_57 ?_
        obtain ⟨b4, e_b4, h⟩ := mw_bind h
        obtain ⟨o5, e_o5, h⟩ := mw_bind h
        refine mw_calll hI (mw_runV F hK hI (c_S_named l D dA A _ _ _ _ e_o5) (cwV 1 F.2.2.2.2 (gd_V k_154 k_180 k_156 k_157 k_33) rfl rfl rfl hd_S_named ⟨Nat.le_of_ble_eq_true rfl, Nat.le_of_ble_eq_true rfl⟩) (hc_1) e_b4 rfl hl.1 rfl (Nat.zero_le _) d_S_namesChangedFrom_58 ⟨(Nat.le_of_ble_eq_true rfl), (Nat.le_of_ble_eq_true rfl)⟩) (fun H locs hI => ?_)
        refine lv_ldc2 (v := 1099511627776) F.1 F.2.1 F.2.2.2.1 (F.2.2.2.2 _ (mA k_105)) d_S_namesChangedFrom_61 ?_
        refine W.lcmp F.1 F.2.1 d_S_namesChangedFrom_64 ?_
        refine lv_if_ne (tgt := 71) F.1 F.2.1 d_S_namesChangedFrom_65 (by decide) (fun hc => ?_) (fun hc => ?_)
        · rw [if_neg hc] at h
          refine mt_iinc (v := (x3 + 1)) F hl 3 rfl (by rw [show Int32.ofInt 1 = (1 : Int32) from by decide]) (Nat.le_of_ble_eq_true rfl) rfl d_S_namesChangedFrom_71 (fun ls hl => ?_)
          have hl : mt_L ls 4 [(3, (.inl (x3 + 1))), (0, (.inr (.inr (some b0)))), (1, (.inr (.inr r1))), (2, (.inl x2))] := hl
          refine lv_goto (tgt := 43) F.1 F.2.1 d_S_namesChangedFrom_74 (by decide) ?_
          refine W.widen (k := 0) (n := 0) (Nat.le_of_ble_eq_true rfl) (Nat.le_of_ble_eq_true rfl) ?_
          exact ih.2 _ _ _ _ _ _ _ hI (mt_sub hl [1, 2, 3, 0] rfl) h
        · rw [if_pos hc] at h
          refine mt_iinc (v := (x2 + 1)) F hl 2 rfl (by rw [show Int32.ofInt 1 = (1 : Int32) from by decide]) (Nat.le_of_ble_eq_true rfl) rfl d_S_namesChangedFrom_68 (fun ls hl => ?_)
          have hl : mt_L ls 4 [(2, (.inl (x2 + 1))), (0, (.inr (.inr (some b0)))), (1, (.inr (.inr r1))), (3, (.inl x3))] := hl
          refine mt_iinc (v := (x3 + 1)) F hl 3 rfl (by rw [show Int32.ofInt 1 = (1 : Int32) from by decide]) (Nat.le_of_ble_eq_true rfl) rfl d_S_namesChangedFrom_71 (fun ls hl => ?_)
          have hl : mt_L ls 4 [(3, (.inl (x3 + 1))), (2, (.inl (x2 + 1))), (0, (.inr (.inr (some b0)))), (1, (.inr (.inr r1)))] := hl
          refine lv_goto (tgt := 43) F.1 F.2.1 d_S_namesChangedFrom_74 (by decide) ?_
          refine W.widen (k := 0) (n := 0) (Nat.le_of_ble_eq_true rfl) (Nat.le_of_ble_eq_true rfl) ?_
          exact ih.2 _ _ _ _ _ _ _ hI (mt_sub hl [2, 3, 1, 0] rfl) h
set_option maxHeartbeats 4000000 in
set_option maxRecDepth 100000 in
theorem c_S_namesChangedFrom (l : Launch) (D : va_G) (dA : Nat → ClassId) (A : Nat → Prop) (b0 : Nat) (a1 : Option Nat) (S : mc_S) (out : (Int32 × mc_S)) (hf : f_S_namesChangedFrom b0 a1 S = some out) : Met l y_S_namesChangedFrom (cd_S_namesChangedFrom :: ALL) rm_S_namesChangedFrom (va_Pc [va_rf (some b0), va_rf a1] (mw_B D dA CL (TY dA) ZZ A S)) (va_Qi (fun x (_ : Unit) => x = out.1) (fun _ t => mw_R D dA CL A out.2 t) A) 0 0 A := by
  refine mw_ofW (cc := b_S_namesChangedFrom) (maxL := 4) (ret := (some .int)) [(.inr (.inr (some b0))), (.inr (.inr a1))] rfl (by decide +kernel) (Nat.le_of_ble_eq_true rfl) (L := [(0, (.inr (.inr (some b0)))), (1, (.inr (.inr a1)))]) rfl (fun p e s m args below meth c F hr hlk hnm hK ls hl hI => ?_)
  have h := hf
  unfold f_S_namesChangedFrom at h
  refine lv_iconst (v := 0) F.1 F.2.1 d_S_namesChangedFrom_0 (by decide) ?_
  refine mt_istore_n F hl rfl (Nat.le_of_ble_eq_true rfl) rfl d_S_namesChangedFrom_1 (fun ls hl => ?_)
  have hl : mt_L ls 4 [(2, (.inl 0)), (0, (.inr (.inr (some b0)))), (1, (.inr (.inr a1)))] := hl
  refine lv_iconst (v := 0) F.1 F.2.1 d_S_namesChangedFrom_2 (by decide) ?_
  refine mt_istore_n F hl rfl (Nat.le_of_ble_eq_true rfl) rfl d_S_namesChangedFrom_3 (fun ls hl => ?_)
  have hl : mt_L ls 4 [(3, (.inl 0)), (2, (.inl 0)), (0, (.inr (.inr (some b0)))), (1, (.inr (.inr a1)))] := hl
  refine W.widen (k := 0) (n := 0) (Nat.le_of_ble_eq_true rfl) (Nat.le_of_ble_eq_true rfl) ?_
  exact (s_S_namesChangedFrom l D dA A b0 F hr hlk hnm hK out 5000).1 _ _ _ _ _ _ _ hI (mt_sub hl [2, 3, 1, 0] rfl) h
end
section
abbrev rm_K_changedBytes : Room := { frames := 3, cells := 0, slots := 0, locals := 67 }
set_option maxHeartbeats 4000000 in
set_option maxRecDepth 100000 in
theorem s_K_changedBytes (l : Launch) (D : va_G) (dA : Nat → ClassId) (A : Nat → Prop) (b0 : Nat) {p : Program} {e : Env} {s : State} {m : MethodId} {args : Array Value} {below : List Frame} {meth : Method} {c : Code} (F : CallFix p m c b_K_changedBytes 5 s args (cd_K_changedBytes :: ALL) y_K_changedBytes.cls) (hr : meth.sig.returnType = (some .int)) (hlk : meth.locks = false) (hnm : meth.name = y_K_changedBytes.name) (hK : mw_K D CL (TY dA) ZZ s) (out : (Int32 × mc_S)) : ∀ n : Nat, (∀ (r1 : Option Nat) (x2 : Int32) (x3 : Int32) (S : mc_S) (H : Heap) (locs : List Loc) (ls : Array Slot), mw_I D dA CL A S s.heap H locs → mt_L ls 5 [(0, (.inr (.inr (some b0)))), (1, (.inr (.inr r1))), (2, (.inl x2)), (3, (.inl x3))] → g_K_changedBytes b0 n r1 x2 x3 S = some out → W p l e rm_K_changedBytes s m args below meth c H locs (0) (0) (MQ below (va_Qi (fun x (_ : Unit) => x = out.1) (fun _ t => mw_R D dA CL A out.2 t) A) args s 0 0 A) (F0 m 9 ls [])) := by
  intro n
  induction n with
  | zero =>
    intro r1 x2 x3 S H locs ls hI hl h; have h : (none : Option (Int32 × mc_S)) = some out := h; cases h
  | succ k0 ih =>
    intro r1 x2 x3 S H locs ls hI hl h
    have h : q_K_changedBytes_0 b0 (g_K_changedBytes b0 k0) r1 x2 x3 S = some out := h
    unfold q_K_changedBytes_0 at h
    refine mt_iload_n F hl 3 rfl rfl d_K_changedBytes_9 ?_
    refine lv_bipush (v := 100) F.1 F.2.1 d_K_changedBytes_10 (by decide) ?_
    refine lv_icmp_ge (tgt := 54) F.1 F.2.1 d_K_changedBytes_12 (by decide) (fun hc => ?_) (fun hc => ?_)
    · rw [if_pos hc] at h
      refine lv_bipush (v := 16) F.1 F.2.1 d_K_changedBytes_54 (by decide) ?_
      refine mt_iload_n F hl 2 rfl rfl d_K_changedBytes_56 ?_
      refine lv_imul F.1 F.2.1 d_K_changedBytes_57 ?_
      refine lv_bipush (v := 6) F.1 F.2.1 d_K_changedBytes_58 (by decide) ?_
      refine mt_aload_n F hl 0 rfl rfl d_K_changedBytes_60 ?_
      obtain ⟨v1, e_v1, h⟩ := mw_bind h
      refine mw_getR F hK hI (in_0 _) (hc_0) 0 (by decide) (mA k_42) rfl e_v1 d_K_changedBytes_61 ?_
      obtain ⟨v2, e_v2, h⟩ := mw_bind h
      refine mw_getR F hK hI (in_2 _) (hc_2) 1 (by decide) (mA k_167) rfl e_v2 d_K_changedBytes_64 ?_
      refine mt_aload_n F hl 1 rfl rfl d_K_changedBytes_67 ?_
      obtain ⟨v3, e_v3, h⟩ := mw_bind h
      refine mw_getR F hK hI (in_2 _) (hc_2) 1 (by decide) (mA k_167) rfl e_v3 d_K_changedBytes_68 ?_
      obtain ⟨b4, e_b4, h⟩ := mw_bind h
      obtain ⟨o5, e_o5, h⟩ := mw_bind h
      refine mw_calli hI (mw_runV F hK hI (c_S_namesChangedFrom l D dA A _ _ _ _ e_o5) (cwV 1 F.2.2.2.2 (gd_V k_181 k_182 k_183 k_184 k_33) rfl rfl rfl hd_S_namesChangedFrom ⟨Nat.le_of_ble_eq_true rfl, Nat.le_of_ble_eq_true rfl⟩) (hc_1) e_b4 rfl hl.1 rfl (by simp [mw_cat, mw_cI, mw_cL]) d_K_changedBytes_71 ⟨(Nat.le_of_ble_eq_true rfl), (Nat.le_of_ble_eq_true rfl)⟩) (fun H locs hI => ?_)
      refine lv_imul F.1 F.2.1 d_K_changedBytes_74 ?_
      refine lv_iadd F.1 F.2.1 d_K_changedBytes_75 ?_
      exact mw_iret F hI hr hlk h (Nat.le_of_ble_eq_true rfl) (Nat.le_of_ble_eq_true rfl) d_K_changedBytes_76
    · rw [if_neg hc] at h
      refine mt_aload_n F hl 0 rfl rfl d_K_changedBytes_15 ?_
      obtain ⟨v6, e_v6, h⟩ := mw_bind h
      refine mw_getR F hK hI (in_0 _) (hc_0) 0 (by decide) (mA k_42) rfl e_v6 d_K_changedBytes_16 ?_
      obtain ⟨v7, e_v7, h⟩ := mw_bind h
      refine mw_getR F hK hI (in_2 _) (hc_2) 0 (by decide) (mA k_62) rfl e_v7 d_K_changedBytes_19 ?_
      refine mt_iload_n F hl 3 rfl rfl d_K_changedBytes_22 ?_
      obtain ⟨v8, e_v8, h⟩ := mw_bind h
      refine mw_aald F hK hI (t0 := 3) rfl e_v8 d_K_changedBytes_23 ?_
      refine mt_astore F hl (Nat.le_of_ble_eq_true rfl) rfl d_K_changedBytes_24 (fun ls hl => ?_)
      have hl : mt_L ls 5 [(4, (.inr (.inr v8))), (0, (.inr (.inr (some b0)))), (1, (.inr (.inr r1))), (2, (.inl x2)), (3, (.inl x3))] := hl
      refine mt_aload F hl 0 rfl d_K_changedBytes_26 ?_
      refine mw_ifnull (tgt := 48) F d_K_changedBytes_28 (by decide) (fun hc => ?_) (fun hc => ?_)
      · rw [if_pos hc] at h
        refine mt_iinc (v := (x3 + 1)) F hl 4 rfl (by rw [show Int32.ofInt 1 = (1 : Int32) from by decide]) (Nat.le_of_ble_eq_true rfl) rfl d_K_changedBytes_48 (fun ls hl => ?_)
        have hl : mt_L ls 5 [(3, (.inl (x3 + 1))), (4, (.inr (.inr v8))), (0, (.inr (.inr (some b0)))), (1, (.inr (.inr r1))), (2, (.inl x2))] := hl
        refine lv_goto (tgt := 9) F.1 F.2.1 d_K_changedBytes_51 (by decide) ?_
        refine W.widen (k := 0) (n := 0) (Nat.le_of_ble_eq_true rfl) (Nat.le_of_ble_eq_true rfl) ?_
        exact ih _ _ _ _ _ _ _ hI (mt_sub hl [2, 3, 4, 0] rfl) h
      · rw [if_neg hc] at h
        refine mt_aload F hl 0 rfl d_K_changedBytes_31 ?_
        refine mt_aload_n F hl 2 rfl rfl d_K_changedBytes_33 ?_
        obtain ⟨v9, e_v9, h⟩ := mw_bind h
        refine mw_getR F hK hI (in_2 _) (hc_2) 0 (by decide) (mA k_62) rfl e_v9 d_K_changedBytes_34 ?_
        refine mt_iload_n F hl 4 rfl rfl d_K_changedBytes_37 ?_
        obtain ⟨v10, e_v10, h⟩ := mw_bind h
        refine mw_aald F hK hI (t0 := 3) rfl e_v10 d_K_changedBytes_38 ?_
        obtain ⟨b11, e_b11, h⟩ := mw_bind h
        obtain ⟨o12, e_o12, h⟩ := mw_bind h
        refine mw_calli hI (mw_runV F hK hI (c_S_sameAs l D dA A _ _ _ _ e_o12) (cwV 1 F.2.2.2.2 (gd_V k_185 k_186 k_187 k_188 k_33) rfl rfl rfl hd_S_sameAs ⟨Nat.le_of_ble_eq_true rfl, Nat.le_of_ble_eq_true rfl⟩) (hc_1) e_b11 rfl hl.1 rfl (Nat.zero_le _) d_K_changedBytes_39 ⟨(Nat.le_of_ble_eq_true rfl), (Nat.le_of_ble_eq_true rfl)⟩) (fun H locs hI => ?_)
        refine lv_if_ne (tgt := 48) F.1 F.2.1 d_K_changedBytes_42 (by decide) (fun hc => ?_) (fun hc => ?_)
        · rw [if_neg hc] at h
          refine mt_iinc (v := (x3 + 1)) F hl 4 rfl (by rw [show Int32.ofInt 1 = (1 : Int32) from by decide]) (Nat.le_of_ble_eq_true rfl) rfl d_K_changedBytes_48 (fun ls hl => ?_)
          have hl : mt_L ls 5 [(3, (.inl (x3 + 1))), (4, (.inr (.inr v8))), (0, (.inr (.inr (some b0)))), (1, (.inr (.inr r1))), (2, (.inl x2))] := hl
          refine lv_goto (tgt := 9) F.1 F.2.1 d_K_changedBytes_51 (by decide) ?_
          refine W.widen (k := 0) (n := 0) (Nat.le_of_ble_eq_true rfl) (Nat.le_of_ble_eq_true rfl) ?_
          exact ih _ _ _ _ _ _ _ hI (mt_sub hl [2, 3, 4, 0] rfl) h
        · rw [if_pos hc] at h
          refine mt_iinc (v := (x2 + 1)) F hl 3 rfl (by rw [show Int32.ofInt 1 = (1 : Int32) from by decide]) (Nat.le_of_ble_eq_true rfl) rfl d_K_changedBytes_45 (fun ls hl => ?_)
          have hl : mt_L ls 5 [(2, (.inl (x2 + 1))), (4, (.inr (.inr v8))), (0, (.inr (.inr (some b0)))), (1, (.inr (.inr r1))), (3, (.inl x3))] := hl
          refine mt_iinc (v := (x3 + 1)) F hl 4 rfl (by rw [show Int32.ofInt 1 = (1 : Int32) from by decide]) (Nat.le_of_ble_eq_true rfl) rfl d_K_changedBytes_48 (fun ls hl => ?_)
          have hl : mt_L ls 5 [(3, (.inl (x3 + 1))), (2, (.inl (x2 + 1))), (4, (.inr (.inr v8))), (0, (.inr (.inr (some b0)))), (1, (.inr (.inr r1)))] := hl
          refine lv_goto (tgt := 9) F.1 F.2.1 d_K_changedBytes_51 (by decide) ?_
          refine W.widen (k := 0) (n := 0) (Nat.le_of_ble_eq_true rfl) (Nat.le_of_ble_eq_true rfl) ?_
          exact ih _ _ _ _ _ _ _ hI (mt_sub hl [3, 4, 1, 0] rfl) h
set_option maxHeartbeats 4000000 in
set_option maxRecDepth 100000 in
theorem c_K_changedBytes (l : Launch) (D : va_G) (dA : Nat → ClassId) (A : Nat → Prop) (b0 : Nat) (S : mc_S) (out : (Int32 × mc_S)) (hf : f_K_changedBytes b0 S = some out) : Met l y_K_changedBytes (cd_K_changedBytes :: ALL) rm_K_changedBytes (va_Pc [va_rf (some b0)] (mw_B D dA CL (TY dA) ZZ A S)) (va_Qi (fun x (_ : Unit) => x = out.1) (fun _ t => mw_R D dA CL A out.2 t) A) 0 0 A := by
  refine mw_ofW (cc := b_K_changedBytes) (maxL := 5) (ret := (some .int)) [(.inr (.inr (some b0)))] rfl (by decide +kernel) (Nat.le_of_ble_eq_true rfl) (L := [(0, (.inr (.inr (some b0))))]) rfl (fun p e s m args below meth c F hr hlk hnm hK ls hl hI => ?_)
  have h := hf
  unfold f_K_changedBytes at h
  refine mt_aload_n F hl 0 rfl rfl d_K_changedBytes_0 ?_
  obtain ⟨b1, e_b1, h⟩ := mw_bind h
  obtain ⟨o2, e_o2, h⟩ := mw_bind h
  refine mw_callq hI (mw_runV F hK hI (c_K_kept l D dA A _ _ _ e_o2) (cwV 0 F.2.2.2.2 (gd_V k_89 k_90 k_91 k_92 k_78) rfl rfl rfl hd_K_kept ⟨Nat.le_of_ble_eq_true rfl, Nat.le_of_ble_eq_true rfl⟩) (hc_0) e_b1 rfl hl.1 rfl (Nat.zero_le _) d_K_changedBytes_1 ⟨(Nat.le_of_ble_eq_true rfl), (Nat.le_of_ble_eq_true rfl)⟩) (fun H locs hI => ?_)
  refine mt_astore_n F hl rfl (Nat.le_of_ble_eq_true rfl) rfl d_K_changedBytes_4 (fun ls hl => ?_)
  have hl : mt_L ls 5 [(1, (.inr (.inr o2.1))), (0, (.inr (.inr (some b0))))] := hl
  refine lv_iconst (v := 0) F.1 F.2.1 d_K_changedBytes_5 (by decide) ?_
  refine mt_istore_n F hl rfl (Nat.le_of_ble_eq_true rfl) rfl d_K_changedBytes_6 (fun ls hl => ?_)
  have hl : mt_L ls 5 [(2, (.inl 0)), (1, (.inr (.inr o2.1))), (0, (.inr (.inr (some b0))))] := hl
  refine lv_iconst (v := 0) F.1 F.2.1 d_K_changedBytes_7 (by decide) ?_
  refine mt_istore_n F hl rfl (Nat.le_of_ble_eq_true rfl) rfl d_K_changedBytes_8 (fun ls hl => ?_)
  have hl : mt_L ls 5 [(3, (.inl 0)), (2, (.inl 0)), (1, (.inr (.inr o2.1))), (0, (.inr (.inr (some b0))))] := hl
  refine W.widen (k := 0) (n := 0) (Nat.le_of_ble_eq_true rfl) (Nat.le_of_ble_eq_true rfl) ?_
  exact (s_K_changedBytes l D dA A b0 F hr hlk hnm hK out 5000) _ _ _ _ _ _ _ hI (mt_sub hl [3, 2, 1, 0] rfl) h
abbrev rm_T_become : Room := { frames := 0, cells := 0, slots := 0, locals := 0 }
set_option maxHeartbeats 4000000 in
set_option maxRecDepth 100000 in
theorem s_T_become (l : Launch) (D : va_G) (dA : Nat → ClassId) (A : Nat → Prop) (b0 : Nat) {p : Program} {e : Env} {s : State} {m : MethodId} {args : Array Value} {below : List Frame} {meth : Method} {c : Code} (F : CallFix p m c b_T_become 3 s args (cd_T_become :: ALL) y_T_become.cls) (hr : meth.sig.returnType = none) (hlk : meth.locks = false) (hnm : meth.name = y_T_become.name) (hK : mw_K D CL (TY dA) ZZ s) (out : mc_S) : ∀ n : Nat, (∀ (r1 : Option Nat) (x2 : Int32) (S : mc_S) (H : Heap) (locs : List Loc) (ls : Array Slot), mw_I D dA CL A S s.heap H locs → mt_L ls 3 [(0, (.inr (.inr (some b0)))), (1, (.inr (.inr r1))), (2, (.inl x2))] → g_T_become b0 n r1 x2 S = some out → W p l e rm_T_become s m args below meth c H locs (0) (0) (MQ below (va_Qv (fun (_ : Unit) => True) (fun _ t => mw_R D dA CL A out t) A) args s 0 0 A) (F0 m 2 ls [])) := by
  intro n
  induction n with
  | zero =>
    intro r1 x2 S H locs ls hI hl h; have h : (none : Option mc_S) = some out := h; cases h
  | succ k0 ih =>
    intro r1 x2 S H locs ls hI hl h
    have h : q_T_become_0 b0 (g_T_become b0 k0) r1 x2 S = some out := h
    unfold q_T_become_0 at h
    refine mt_iload_n F hl 2 rfl rfl d_T_become_2 ?_
    refine lv_bipush (v := 100) F.1 F.2.1 d_T_become_3 (by decide) ?_
    refine lv_icmp_ge (tgt := 26) F.1 F.2.1 d_T_become_5 (by decide) (fun hc => ?_) (fun hc => ?_)
    · rw [if_pos hc] at h
      refine mt_aload_n F hl 0 rfl rfl d_T_become_26 ?_
      refine mt_aload_n F hl 1 rfl rfl d_T_become_27 ?_
      obtain ⟨v1, e_v1, h⟩ := mw_bind h
      refine mw_getR F hK hI (in_2 _) (hc_2) 1 (by decide) (mA k_17) rfl e_v1 d_T_become_28 ?_
      obtain ⟨S2, e_S2, h⟩ := mw_bind h
      refine mw_put F hK hI (in_2 _) ty_2 ok_2 nm_2 (hc_2) 1 (by decide) (mA k_17) rfl rfl (mw_narO _ _) (mw_fitO _ _) e_S2 d_T_become_31 (fun H locs hI => ?_)
      exact mw_vret F hI hr hlk h (Nat.le_of_ble_eq_true rfl) (Nat.le_of_ble_eq_true rfl) d_T_become_34
    · rw [if_neg hc] at h
      refine mt_aload_n F hl 0 rfl rfl d_T_become_8 ?_
      obtain ⟨v3, e_v3, h⟩ := mw_bind h
      refine mw_getR F hK hI (in_2 _) (hc_2) 0 (by decide) (mA k_16) rfl e_v3 d_T_become_9 ?_
      refine mt_iload_n F hl 2 rfl rfl d_T_become_12 ?_
      refine mt_aload_n F hl 1 rfl rfl d_T_become_13 ?_
      obtain ⟨v4, e_v4, h⟩ := mw_bind h
      refine mw_getR F hK hI (in_2 _) (hc_2) 0 (by decide) (mA k_16) rfl e_v4 d_T_become_14 ?_
      refine mt_iload_n F hl 2 rfl rfl d_T_become_17 ?_
      obtain ⟨v5, e_v5, h⟩ := mw_bind h
      refine mw_aald F hK hI (t0 := 3) rfl e_v5 d_T_become_18 ?_
      obtain ⟨S6, e_S6, h⟩ := mw_bind h
      refine mw_aast F hK hI (t0 := 3) (ci := 1) (q0 := cq_1) rfl rfl e_S6 d_T_become_19 (fun H locs hI => ?_)
      refine mt_iinc (v := (x2 + 1)) F hl 2 rfl (by rw [show Int32.ofInt 1 = (1 : Int32) from by decide]) (Nat.le_of_ble_eq_true rfl) rfl d_T_become_20 (fun ls hl => ?_)
      have hl : mt_L ls 3 [(2, (.inl (x2 + 1))), (0, (.inr (.inr (some b0)))), (1, (.inr (.inr r1)))] := hl
      refine lv_goto (tgt := 2) F.1 F.2.1 d_T_become_23 (by decide) ?_
      refine W.widen (k := 0) (n := 0) (Nat.le_of_ble_eq_true rfl) (Nat.le_of_ble_eq_true rfl) ?_
      exact ih _ _ _ _ _ _ hI (mt_sub hl [1, 2, 0] rfl) h
set_option maxHeartbeats 4000000 in
set_option maxRecDepth 100000 in
theorem c_T_become (l : Launch) (D : va_G) (dA : Nat → ClassId) (A : Nat → Prop) (b0 : Nat) (a1 : Option Nat) (S : mc_S) (out : mc_S) (hf : f_T_become b0 a1 S = some out) : Met l y_T_become (cd_T_become :: ALL) rm_T_become (va_Pc [va_rf (some b0), va_rf a1] (mw_B D dA CL (TY dA) ZZ A S)) (va_Qv (fun (_ : Unit) => True) (fun _ t => mw_R D dA CL A out t) A) 0 0 A := by
  refine mw_ofW (cc := b_T_become) (maxL := 3) (ret := none) [(.inr (.inr (some b0))), (.inr (.inr a1))] rfl (by decide +kernel) (Nat.le_of_ble_eq_true rfl) (L := [(0, (.inr (.inr (some b0)))), (1, (.inr (.inr a1)))]) rfl (fun p e s m args below meth c F hr hlk hnm hK ls hl hI => ?_)
  have h := hf
  unfold f_T_become at h
  refine lv_iconst (v := 0) F.1 F.2.1 d_T_become_0 (by decide) ?_
  refine mt_istore_n F hl rfl (Nat.le_of_ble_eq_true rfl) rfl d_T_become_1 (fun ls hl => ?_)
  have hl : mt_L ls 3 [(2, (.inl 0)), (0, (.inr (.inr (some b0)))), (1, (.inr (.inr a1)))] := hl
  refine W.widen (k := 0) (n := 0) (Nat.le_of_ble_eq_true rfl) (Nat.le_of_ble_eq_true rfl) ?_
  exact (s_T_become l D dA A b0 F hr hlk hnm hK out 5000) _ _ _ _ _ _ hI (mt_sub hl [1, 2, 0] rfl) h
abbrev rm_K_keepNow : Room := { frames := 1, cells := 0, slots := 0, locals := 22 }
set_option maxHeartbeats 4000000 in
set_option maxRecDepth 100000 in
theorem c_K_keepNow (l : Launch) (D : va_G) (dA : Nat → ClassId) (A : Nat → Prop) (b0 : Nat) (a1 : Int32) (S : mc_S) (out : mc_S) (hf : f_K_keepNow b0 a1 S = some out) : Met l y_K_keepNow (cd_K_keepNow :: ALL) rm_K_keepNow (va_Pc [va_rf (some b0), .int a1] (mw_B D dA CL (TY dA) ZZ A S)) (va_Qv (fun (_ : Unit) => True) (fun _ t => mw_R D dA CL A out t) A) 0 0 A := by
  refine mw_ofW (cc := b_K_keepNow) (maxL := 3) (ret := none) [(.inr (.inr (some b0))), (.inl a1)] rfl (by decide +kernel) (Nat.le_of_ble_eq_true rfl) (L := [(0, (.inr (.inr (some b0)))), (1, (.inl a1))]) rfl (fun p e s m args below meth c F hr hlk hnm hK ls hl hI => ?_)
  have h := hf
  unfold f_K_keepNow at h
  refine mt_aload_n F hl 0 rfl rfl d_K_keepNow_0 ?_
  obtain ⟨v1, e_v1, h⟩ := mw_bind h
  refine mw_getI F hK hI (in_0 _) (hc_0) 5 (by decide) (mA k_29) rfl e_v1 d_K_keepNow_1 ?_
  refine lv_bipush (v := 8) F.1 F.2.1 d_K_keepNow_4 (by decide) ?_
  refine lv_icmp_ne (tgt := 21) F.1 F.2.1 d_K_keepNow_6 (by decide) (fun hc => ?_) (fun hc => ?_)
  · rw [if_neg hc] at h
    refine mt_aload_n F hl 0 rfl rfl d_K_keepNow_21 ?_
    refine lv_dup F.1 F.2.1 d_K_keepNow_22 (mw_cat _) ?_
    obtain ⟨v2, e_v2, h⟩ := mw_bind h
    refine mw_getI F hK hI (in_0 _) (hc_0) 5 (by decide) (mA k_29) rfl e_v2 d_K_keepNow_23 ?_
    refine lv_iconst (v := 1) F.1 F.2.1 d_K_keepNow_26 (by decide) ?_
    refine lv_iadd F.1 F.2.1 d_K_keepNow_27 ?_
    obtain ⟨S3, e_S3, h⟩ := mw_bind h
    refine mw_put F hK hI (in_0 _) ty_0 ok_0 nm_0 (hc_0) 5 (by decide) (mA k_29) rfl rfl rfl rfl e_S3 d_K_keepNow_28 (fun H locs hI => ?_)
    refine mt_aload_n F hl 0 rfl rfl d_K_keepNow_31 ?_
    refine mt_aload_n F hl 0 rfl rfl d_K_keepNow_32 ?_
    obtain ⟨v4, e_v4, h⟩ := mw_bind h
    refine mw_getI F hK hI (in_0 _) (hc_0) 5 (by decide) (mA k_29) rfl e_v4 d_K_keepNow_33 ?_
    obtain ⟨b5, e_b5, h⟩ := mw_bind h
    obtain ⟨o6, e_o6, h⟩ := mw_bind h
    refine mw_calli hI (mw_runV F hK hI (c_K_ringIndex l D dA A _ _ _ _ e_o6) (cwV 1 F.2.2.2.2 (gd_V k_74 k_75 k_76 k_77 k_78) rfl rfl rfl hd_K_ringIndex ⟨Nat.le_of_ble_eq_true rfl, Nat.le_of_ble_eq_true rfl⟩) (hc_0) e_b5 rfl hl.1 rfl (Nat.zero_le _) d_K_keepNow_36 ⟨(Nat.le_of_ble_eq_true rfl), (Nat.le_of_ble_eq_true rfl)⟩) (fun H locs hI => ?_)
    refine mt_istore_n F hl rfl (Nat.le_of_ble_eq_true rfl) rfl d_K_keepNow_39 (fun ls hl => ?_)
    have hl : mt_L ls 3 [(2, (.inl o6.1)), (0, (.inr (.inr (some b0)))), (1, (.inl a1))] := hl
    refine mt_aload_n F hl 1 rfl rfl d_K_keepNow_40 ?_
    obtain ⟨v7, e_v7, h⟩ := mw_bind h
    refine mw_getR F hK hI (in_0 _) (hc_0) 1 (by decide) (mA k_20) rfl e_v7 d_K_keepNow_41 ?_
    refine mt_iload_n F hl 0 rfl rfl d_K_keepNow_44 ?_
    obtain ⟨v8, e_v8, h⟩ := mw_bind h
    refine mw_aald F hK hI (t0 := 4) rfl e_v8 d_K_keepNow_45 ?_
    refine mt_aload_n F hl 1 rfl rfl d_K_keepNow_46 ?_
    obtain ⟨v9, e_v9, h⟩ := mw_bind h
    refine mw_getR F hK hI (in_0 _) (hc_0) 0 (by decide) (mA k_42) rfl e_v9 d_K_keepNow_47 ?_
    obtain ⟨b10, e_b10, h⟩ := mw_bind h
    obtain ⟨S11, e_S11, h⟩ := mw_bind h
    refine mw_callv hI (mw_runV F hK hI (c_T_become l D dA A _ _ _ _ e_S11) (cwV 1 F.2.2.2.2 (gd_V k_189 k_190 k_191 k_192 k_38) rfl rfl rfl hd_T_become ⟨Nat.le_of_ble_eq_true rfl, Nat.le_of_ble_eq_true rfl⟩) (hc_2) e_b10 rfl hl.1 rfl (Nat.zero_le _) d_K_keepNow_50 ⟨(Nat.le_of_ble_eq_true rfl), (Nat.le_of_ble_eq_true rfl)⟩) (fun H locs hI => ?_)
    refine mt_aload_n F hl 1 rfl rfl d_K_keepNow_53 ?_
    obtain ⟨v12, e_v12, h⟩ := mw_bind h
    refine mw_getR F hK hI (in_0 _) (hc_0) 2 (by decide) (mA k_21) rfl e_v12 d_K_keepNow_54 ?_
    refine mt_iload_n F hl 0 rfl rfl d_K_keepNow_57 ?_
    refine mt_iload_n F hl 2 rfl rfl d_K_keepNow_58 ?_
    obtain ⟨S13, e_S13, h⟩ := mw_bind h
    refine mw_iast F hK hI (t0 := 0) rfl e_S13 d_K_keepNow_59 (fun H locs hI => ?_)
    refine mt_aload_n F hl 1 rfl rfl d_K_keepNow_60 ?_
    refine lv_dup F.1 F.2.1 d_K_keepNow_61 (mw_cat _) ?_
    obtain ⟨v14, e_v14, h⟩ := mw_bind h
    refine mw_getI F hK hI (in_0 _) (hc_0) 6 (by decide) (mA k_30) rfl e_v14 d_K_keepNow_62 ?_
    refine mt_iload_n F hl 2 rfl rfl d_K_keepNow_65 ?_
    refine lv_iadd F.1 F.2.1 d_K_keepNow_66 ?_
    obtain ⟨S15, e_S15, h⟩ := mw_bind h
    refine mw_put F hK hI (in_0 _) ty_0 ok_0 nm_0 (hc_0) 6 (by decide) (mA k_30) rfl rfl rfl rfl e_S15 d_K_keepNow_67 (fun H locs hI => ?_)
    exact mw_vret F hI hr hlk h (Nat.le_of_ble_eq_true rfl) (Nat.le_of_ble_eq_true rfl) d_K_keepNow_70
  · rw [if_pos hc] at h
    refine mt_aload_n F hl 0 rfl rfl d_K_keepNow_9 ?_
    refine mt_aload_n F hl 0 rfl rfl d_K_keepNow_10 ?_
    refine lv_iconst (v := 1) F.1 F.2.1 d_K_keepNow_11 (by decide) ?_
    obtain ⟨b16, e_b16, h⟩ := mw_bind h
    obtain ⟨o17, e_o17, h⟩ := mw_bind h
    refine mw_calli hI (mw_runV F hK hI (c_K_ringIndex l D dA A _ _ _ _ e_o17) (cwV 1 F.2.2.2.2 (gd_V k_74 k_75 k_76 k_77 k_78) rfl rfl rfl hd_K_ringIndex ⟨Nat.le_of_ble_eq_true rfl, Nat.le_of_ble_eq_true rfl⟩) (hc_0) e_b16 rfl hl.1 rfl (by simp [mw_cat, mw_cI, mw_cL]) d_K_keepNow_12 ⟨(Nat.le_of_ble_eq_true rfl), (Nat.le_of_ble_eq_true rfl)⟩) (fun H locs hI => ?_)
    obtain ⟨S18, e_S18, h⟩ := mw_bind h
    refine mw_put F hK hI (in_0 _) ty_0 ok_0 nm_0 (hc_0) 4 (by decide) (mA k_28) rfl rfl rfl rfl e_S18 d_K_keepNow_15 (fun H locs hI => ?_)
    refine lv_goto (tgt := 31) F.1 F.2.1 d_K_keepNow_18 (by decide) ?_
    refine mt_aload_n F hl 0 rfl rfl d_K_keepNow_31 ?_
    refine mt_aload_n F hl 0 rfl rfl d_K_keepNow_32 ?_
    obtain ⟨v19, e_v19, h⟩ := mw_bind h
    refine mw_getI F hK hI (in_0 _) (hc_0) 5 (by decide) (mA k_29) rfl e_v19 d_K_keepNow_33 ?_
    obtain ⟨b20, e_b20, h⟩ := mw_bind h
    obtain ⟨o21, e_o21, h⟩ := mw_bind h
    refine mw_calli hI (mw_runV F hK hI (c_K_ringIndex l D dA A _ _ _ _ e_o21) (cwV 1 F.2.2.2.2 (gd_V k_74 k_75 k_76 k_77 k_78) rfl rfl rfl hd_K_ringIndex ⟨Nat.le_of_ble_eq_true rfl, Nat.le_of_ble_eq_true rfl⟩) (hc_0) e_b20 rfl hl.1 rfl (Nat.zero_le _) d_K_keepNow_36 ⟨(Nat.le_of_ble_eq_true rfl), (Nat.le_of_ble_eq_true rfl)⟩) (fun H locs hI => ?_)
    refine mt_istore_n F hl rfl (Nat.le_of_ble_eq_true rfl) rfl d_K_keepNow_39 (fun ls hl => ?_)
    have hl : mt_L ls 3 [(2, (.inl o21.1)), (0, (.inr (.inr (some b0)))), (1, (.inl a1))] := hl
    refine mt_aload_n F hl 1 rfl rfl d_K_keepNow_40 ?_
    obtain ⟨v22, e_v22, h⟩ := mw_bind h
    refine mw_getR F hK hI (in_0 _) (hc_0) 1 (by decide) (mA k_20) rfl e_v22 d_K_keepNow_41 ?_
    refine mt_iload_n F hl 0 rfl rfl d_K_keepNow_44 ?_
    obtain ⟨v23, e_v23, h⟩ := mw_bind h
    refine mw_aald F hK hI (t0 := 4) rfl e_v23 d_K_keepNow_45 ?_
    refine mt_aload_n F hl 1 rfl rfl d_K_keepNow_46 ?_
    obtain ⟨v24, e_v24, h⟩ := mw_bind h
    refine mw_getR F hK hI (in_0 _) (hc_0) 0 (by decide) (mA k_42) rfl e_v24 d_K_keepNow_47 ?_
    obtain ⟨b25, e_b25, h⟩ := mw_bind h
    obtain ⟨S26, e_S26, h⟩ := mw_bind h
    refine mw_callv hI (mw_runV F hK hI (c_T_become l D dA A _ _ _ _ e_S26) (cwV 1 F.2.2.2.2 (gd_V k_189 k_190 k_191 k_192 k_38) rfl rfl rfl hd_T_become ⟨Nat.le_of_ble_eq_true rfl, Nat.le_of_ble_eq_true rfl⟩) (hc_2) e_b25 rfl hl.1 rfl (Nat.zero_le _) d_K_keepNow_50 ⟨(Nat.le_of_ble_eq_true rfl), (Nat.le_of_ble_eq_true rfl)⟩) (fun H locs hI => ?_)
    refine mt_aload_n F hl 1 rfl rfl d_K_keepNow_53 ?_
    obtain ⟨v27, e_v27, h⟩ := mw_bind h
    refine mw_getR F hK hI (in_0 _) (hc_0) 2 (by decide) (mA k_21) rfl e_v27 d_K_keepNow_54 ?_
    refine mt_iload_n F hl 0 rfl rfl d_K_keepNow_57 ?_
    refine mt_iload_n F hl 2 rfl rfl d_K_keepNow_58 ?_
    obtain ⟨S28, e_S28, h⟩ := mw_bind h
    refine mw_iast F hK hI (t0 := 0) rfl e_S28 d_K_keepNow_59 (fun H locs hI => ?_)
    refine mt_aload_n F hl 1 rfl rfl d_K_keepNow_60 ?_
    refine lv_dup F.1 F.2.1 d_K_keepNow_61 (mw_cat _) ?_
    obtain ⟨v29, e_v29, h⟩ := mw_bind h
    refine mw_getI F hK hI (in_0 _) (hc_0) 6 (by decide) (mA k_30) rfl e_v29 d_K_keepNow_62 ?_
    refine mt_iload_n F hl 2 rfl rfl d_K_keepNow_65 ?_
    refine lv_iadd F.1 F.2.1 d_K_keepNow_66 ?_
    obtain ⟨S30, e_S30, h⟩ := mw_bind h
    refine mw_put F hK hI (in_0 _) ty_0 ok_0 nm_0 (hc_0) 6 (by decide) (mA k_30) rfl rfl rfl rfl e_S30 d_K_keepNow_67 (fun H locs hI => ?_)
    exact mw_vret F hI hr hlk h (Nat.le_of_ble_eq_true rfl) (Nat.le_of_ble_eq_true rfl) d_K_keepNow_70
abbrev rm_K_commit : Room := { frames := 4, cells := 0, slots := 0, locals := 91 }
set_option maxHeartbeats 4000000 in
set_option maxRecDepth 100000 in
theorem c_K_commit (l : Launch) (D : va_G) (dA : Nat → ClassId) (A : Nat → Prop) (b0 : Nat) (S : mc_S) (out : (Int32 × mc_S)) (hf : f_K_commit b0 S = some out) : Met l y_K_commit (cd_K_commit :: ALL) rm_K_commit (va_Pc [va_rf (some b0)] (mw_B D dA CL (TY dA) ZZ A S)) (va_Qi (fun x (_ : Unit) => x = out.1) (fun _ t => mw_R D dA CL A out.2 t) A) 0 0 A := by
  refine mw_ofW (cc := b_K_commit) (maxL := 2) (ret := (some .int)) [(.inr (.inr (some b0)))] rfl (by decide +kernel) (Nat.le_of_ble_eq_true rfl) (L := [(0, (.inr (.inr (some b0))))]) rfl (fun p e s m args below meth c F hr hlk hnm hK ls hl hI => ?_)
  have h := hf
  unfold f_K_commit at h
  refine lv_bipush (v := 8) F.1 F.2.1 d_K_commit_0 (by decide) ?_
  refine mt_aload_n F hl 0 rfl rfl d_K_commit_2 ?_
  obtain ⟨b1, e_b1, h⟩ := mw_bind h
  obtain ⟨o2, e_o2, h⟩ := mw_bind h
  refine mw_calli hI (mw_runV F hK hI (c_K_changedBytes l D dA A _ _ _ e_o2) (cwV 0 F.2.2.2.2 (gd_V k_193 k_194 k_195 k_196 k_78) rfl rfl rfl hd_K_changedBytes ⟨Nat.le_of_ble_eq_true rfl, Nat.le_of_ble_eq_true rfl⟩) (hc_0) e_b1 rfl hl.1 rfl (by simp [mw_cat, mw_cI, mw_cL]) d_K_commit_3 ⟨(Nat.le_of_ble_eq_true rfl), (Nat.le_of_ble_eq_true rfl)⟩) (fun H locs hI => ?_)
  refine lv_iadd F.1 F.2.1 d_K_commit_6 ?_
  refine mt_istore_n F hl rfl (Nat.le_of_ble_eq_true rfl) rfl d_K_commit_7 (fun ls hl => ?_)
  have hl : mt_L ls 2 [(1, (.inl (8 + o2.1))), (0, (.inr (.inr (some b0))))] := hl
  refine mt_aload_n F hl 1 rfl rfl d_K_commit_8 ?_
  refine mt_iload_n F hl 0 rfl rfl d_K_commit_9 ?_
  obtain ⟨b3, e_b3, h⟩ := mw_bind h
  obtain ⟨S4, e_S4, h⟩ := mw_bind h
  refine mw_callv hI (mw_runV F hK hI (c_K_keepNow l D dA A _ _ _ _ e_S4) (cwV 1 F.2.2.2.2 (gd_V k_197 k_198 k_199 k_200 k_78) rfl rfl rfl hd_K_keepNow ⟨Nat.le_of_ble_eq_true rfl, Nat.le_of_ble_eq_true rfl⟩) (hc_0) e_b3 rfl hl.1 rfl (Nat.zero_le _) d_K_commit_10 ⟨(Nat.le_of_ble_eq_true rfl), (Nat.le_of_ble_eq_true rfl)⟩) (fun H locs hI => ?_)
  refine mt_iload_n F hl 0 rfl rfl d_K_commit_13 ?_
  exact mw_iret F hI hr hlk h (Nat.le_of_ble_eq_true rfl) (Nat.le_of_ble_eq_true rfl) d_K_commit_14
abbrev rm_N_isSame : Room := { frames := 0, cells := 0, slots := 0, locals := 0 }
set_option maxHeartbeats 4000000 in
set_option maxRecDepth 100000 in
theorem s_N_isSame (l : Launch) (D : va_G) (dA : Nat → ClassId) (A : Nat → Prop) (b0 : Nat) {p : Program} {e : Env} {s : State} {m : MethodId} {args : Array Value} {below : List Frame} {meth : Method} {c : Code} (F : CallFix p m c b_N_isSame 4 s args (cd_N_isSame :: ALL) y_N_isSame.cls) (hr : meth.sig.returnType = (some .boolean)) (hlk : meth.locks = false) (hnm : meth.name = y_N_isSame.name) (hK : mw_K D CL (TY dA) ZZ s) (out : (Int32 × mc_S)) : ∀ n : Nat, (∀ (x1 : Int32) (r2 : Option Nat) (x3 : Int32) (S : mc_S) (H : Heap) (locs : List Loc) (ls : Array Slot), mw_I D dA CL A S s.heap H locs → mt_L ls 4 [(0, (.inr (.inr (some b0)))), (1, (.inl x1)), (2, (.inr (.inr r2))), (3, (.inl x3))] → g_N_isSame b0 n x1 r2 x3 S = some out → W p l e rm_N_isSame s m args below meth c H locs (0) (0) (MQ below (va_Qi (fun x (_ : Unit) => x = out.1) (fun _ t => mw_R D dA CL A out.2 t) A) args s 0 0 A) (F0 m 34 ls [])) := by
  intro n
  induction n with
  | zero =>
    intro x1 r2 x3 S H locs ls hI hl h; have h : (none : Option (Int32 × mc_S)) = some out := h; cases h
  | succ k0 ih =>
    intro x1 r2 x3 S H locs ls hI hl h
    have h : q_N_isSame_0 b0 (g_N_isSame b0 k0) x1 r2 x3 S = some out := h
    unfold q_N_isSame_0 at h
    refine mt_iload_n F hl 3 rfl rfl d_N_isSame_34 ?_
    refine mt_aload_n F hl 0 rfl rfl d_N_isSame_35 ?_
    obtain ⟨v1, e_v1, h⟩ := mw_bind h
    refine mw_getR F hK hI (in_5 _) (hc_5) 1 (by decide) (mA k_45) rfl e_v1 d_N_isSame_36 ?_
    refine mt_iload_n F hl 1 rfl rfl d_N_isSame_39 ?_
    obtain ⟨v2, e_v2, h⟩ := mw_bind h
    refine mw_iald F hK hI (t0 := 0) rfl e_v2 d_N_isSame_40 ?_
    refine lv_icmp_ge (tgt := 113) F.1 F.2.1 d_N_isSame_41 (by decide) (fun hc => ?_) (fun hc => ?_)
    · rw [if_pos hc] at h
      refine lv_iconst (v := 1) F.1 F.2.1 d_N_isSame_113 (by decide) ?_
      exact mw_zret F hI hr hlk rfl h (Nat.le_of_ble_eq_true rfl) (Nat.le_of_ble_eq_true rfl) d_N_isSame_114
    · rw [if_neg hc] at h
      refine mt_aload_n F hl 0 rfl rfl d_N_isSame_44 ?_
      obtain ⟨v3, e_v3, h⟩ := mw_bind h
      refine mw_getR F hK hI (in_5 _) (hc_5) 4 (by decide) (mA k_48) rfl e_v3 d_N_isSame_45 ?_
      refine lv_bipush (v := 20) F.1 F.2.1 d_N_isSame_48 (by decide) ?_
      refine mt_iload_n F hl 1 rfl rfl d_N_isSame_50 ?_
      refine lv_imul F.1 F.2.1 d_N_isSame_51 ?_
      refine mt_iload_n F hl 3 rfl rfl d_N_isSame_52 ?_
      refine lv_iadd F.1 F.2.1 d_N_isSame_53 ?_
      obtain ⟨v4, e_v4, h⟩ := mw_bind h
      refine mw_lald F hK hI (t0 := 1) rfl e_v4 d_N_isSame_54 ?_
      refine mt_aload_n F hl 2 rfl rfl d_N_isSame_55 ?_
      obtain ⟨v5, e_v5, h⟩ := mw_bind h
      refine mw_getR F hK hI (in_5 _) (hc_5) 4 (by decide) (mA k_48) rfl e_v5 d_N_isSame_56 ?_
      refine lv_bipush (v := 20) F.1 F.2.1 d_N_isSame_59 (by decide) ?_
      refine mt_iload_n F hl 1 rfl rfl d_N_isSame_61 ?_
      refine lv_imul F.1 F.2.1 d_N_isSame_62 ?_
      refine mt_iload_n F hl 3 rfl rfl d_N_isSame_63 ?_
      refine lv_iadd F.1 F.2.1 d_N_isSame_64 ?_
      obtain ⟨v6, e_v6, h⟩ := mw_bind h
      refine mw_lald F hK hI (t0 := 1) rfl e_v6 d_N_isSame_65 ?_
      refine W.lcmp F.1 F.2.1 d_N_isSame_66 ?_
      refine lv_if_ne (tgt := 105) F.1 F.2.1 d_N_isSame_67 (by decide) (fun hc => ?_) (fun hc => ?_)
      · rw [if_neg hc] at h
        refine lv_iconst (v := 0) F.1 F.2.1 d_N_isSame_105 (by decide) ?_
        exact mw_zret F hI hr hlk rfl h (Nat.le_of_ble_eq_true rfl) (Nat.le_of_ble_eq_true rfl) d_N_isSame_106
      · rw [if_pos hc] at h
        refine mt_aload_n F hl 0 rfl rfl d_N_isSame_70 ?_
        obtain ⟨v7, e_v7, h⟩ := mw_bind h
        refine mw_getR F hK hI (in_5 _) (hc_5) 0 (by decide) (mA k_44) rfl e_v7 d_N_isSame_71 ?_
        refine mt_iload_n F hl 1 rfl rfl d_N_isSame_74 ?_
        obtain ⟨v8, e_v8, h⟩ := mw_bind h
        refine mw_iald F hK hI (t0 := 0) rfl e_v8 d_N_isSame_75 ?_
        refine lv_iconst (v := 1) F.1 F.2.1 d_N_isSame_76 (by decide) ?_
        refine lv_icmp_ne (tgt := 107) F.1 F.2.1 d_N_isSame_77 (by decide) (fun hc => ?_) (fun hc => ?_)
        · rw [if_neg hc] at h
          refine mt_iinc (v := (x3 + 1)) F hl 3 rfl (by rw [show Int32.ofInt 1 = (1 : Int32) from by decide]) (Nat.le_of_ble_eq_true rfl) rfl d_N_isSame_107 (fun ls hl => ?_)
          have hl : mt_L ls 4 [(3, (.inl (x3 + 1))), (0, (.inr (.inr (some b0)))), (1, (.inl x1)), (2, (.inr (.inr r2)))] := hl
          refine lv_goto (tgt := 34) F.1 F.2.1 d_N_isSame_110 (by decide) ?_
          refine W.widen (k := 0) (n := 0) (Nat.le_of_ble_eq_true rfl) (Nat.le_of_ble_eq_true rfl) ?_
          exact ih _ _ _ _ _ _ _ hI (mt_sub hl [1, 2, 3, 0] rfl) h
        · rw [if_pos hc] at h
          refine mt_aload_n F hl 0 rfl rfl d_N_isSame_80 ?_
          obtain ⟨v9, e_v9, h⟩ := mw_bind h
          refine mw_getR F hK hI (in_5 _) (hc_5) 2 (by decide) (mA k_46) rfl e_v9 d_N_isSame_81 ?_
          refine lv_bipush (v := 8) F.1 F.2.1 d_N_isSame_84 (by decide) ?_
          refine mt_iload_n F hl 1 rfl rfl d_N_isSame_86 ?_
          refine lv_imul F.1 F.2.1 d_N_isSame_87 ?_
          refine mt_iload_n F hl 3 rfl rfl d_N_isSame_88 ?_
          refine lv_iadd F.1 F.2.1 d_N_isSame_89 ?_
          obtain ⟨v10, e_v10, h⟩ := mw_bind h
          refine mw_iald F hK hI (t0 := 0) rfl e_v10 d_N_isSame_90 ?_
          refine mt_aload_n F hl 2 rfl rfl d_N_isSame_91 ?_
          obtain ⟨v11, e_v11, h⟩ := mw_bind h
          refine mw_getR F hK hI (in_5 _) (hc_5) 2 (by decide) (mA k_46) rfl e_v11 d_N_isSame_92 ?_
          refine lv_bipush (v := 8) F.1 F.2.1 d_N_isSame_95 (by decide) ?_
          refine mt_iload_n F hl 1 rfl rfl d_N_isSame_97 ?_
          refine lv_imul F.1 F.2.1 d_N_isSame_98 ?_
          refine mt_iload_n F hl 3 rfl rfl d_N_isSame_99 ?_
          refine lv_iadd F.1 F.2.1 d_N_isSame_100 ?_
          obtain ⟨v12, e_v12, h⟩ := mw_bind h
          refine mw_iald F hK hI (t0 := 0) rfl e_v12 d_N_isSame_101 ?_
          refine lv_icmp_eq (tgt := 107) F.1 F.2.1 d_N_isSame_102 (by decide) (fun hc => ?_) (fun hc => ?_)
          · rw [if_pos hc] at h
            refine mt_iinc (v := (x3 + 1)) F hl 3 rfl (by rw [show Int32.ofInt 1 = (1 : Int32) from by decide]) (Nat.le_of_ble_eq_true rfl) rfl d_N_isSame_107 (fun ls hl => ?_)
            have hl : mt_L ls 4 [(3, (.inl (x3 + 1))), (0, (.inr (.inr (some b0)))), (1, (.inl x1)), (2, (.inr (.inr r2)))] := hl
            refine lv_goto (tgt := 34) F.1 F.2.1 d_N_isSame_110 (by decide) ?_
            refine W.widen (k := 0) (n := 0) (Nat.le_of_ble_eq_true rfl) (Nat.le_of_ble_eq_true rfl) ?_
            exact ih _ _ _ _ _ _ _ hI (mt_sub hl [1, 2, 3, 0] rfl) h
          · rw [if_neg hc] at h
            refine lv_iconst (v := 0) F.1 F.2.1 d_N_isSame_105 (by decide) ?_
            exact mw_zret F hI hr hlk rfl h (Nat.le_of_ble_eq_true rfl) (Nat.le_of_ble_eq_true rfl) d_N_isSame_106
set_option maxHeartbeats 4000000 in
set_option maxRecDepth 100000 in
theorem c_N_isSame (l : Launch) (D : va_G) (dA : Nat → ClassId) (A : Nat → Prop) (b0 : Nat) (a1 : Int32) (a2 : Option Nat) (S : mc_S) (out : (Int32 × mc_S)) (hf : f_N_isSame b0 a1 a2 S = some out) : Met l y_N_isSame (cd_N_isSame :: ALL) rm_N_isSame (va_Pc [va_rf (some b0), .int a1, va_rf a2] (mw_B D dA CL (TY dA) ZZ A S)) (va_Qi (fun x (_ : Unit) => x = out.1) (fun _ t => mw_R D dA CL A out.2 t) A) 0 0 A := by
  refine mw_ofW (cc := b_N_isSame) (maxL := 4) (ret := (some .boolean)) [(.inr (.inr (some b0))), (.inl a1), (.inr (.inr a2))] rfl (by decide +kernel) (Nat.le_of_ble_eq_true rfl) (L := [(0, (.inr (.inr (some b0)))), (1, (.inl a1)), (2, (.inr (.inr a2)))]) rfl (fun p e s m args below meth c F hr hlk hnm hK ls hl hI => ?_)
  have h := hf
  unfold f_N_isSame at h
  refine mt_aload_n F hl 0 rfl rfl d_N_isSame_0 ?_
  obtain ⟨v1, e_v1, h⟩ := mw_bind h
  refine mw_getR F hK hI (in_5 _) (hc_5) 0 (by decide) (mA k_44) rfl e_v1 d_N_isSame_1 ?_
  refine mt_iload_n F hl 1 rfl rfl d_N_isSame_4 ?_
  obtain ⟨v2, e_v2, h⟩ := mw_bind h
  refine mw_iald F hK hI (t0 := 0) rfl e_v2 d_N_isSame_5 ?_
  refine mt_aload_n F hl 2 rfl rfl d_N_isSame_6 ?_
  obtain ⟨v3, e_v3, h⟩ := mw_bind h
  refine mw_getR F hK hI (in_5 _) (hc_5) 0 (by decide) (mA k_44) rfl e_v3 d_N_isSame_7 ?_
  refine mt_iload_n F hl 1 rfl rfl d_N_isSame_10 ?_
  obtain ⟨v4, e_v4, h⟩ := mw_bind h
  refine mw_iald F hK hI (t0 := 0) rfl e_v4 d_N_isSame_11 ?_
  refine lv_icmp_ne (tgt := 30) F.1 F.2.1 d_N_isSame_12 (by decide) (fun hc => ?_) (fun hc => ?_)
  · rw [if_neg hc] at h
    refine lv_iconst (v := 0) F.1 F.2.1 d_N_isSame_30 (by decide) ?_
    exact mw_zret F hI hr hlk rfl h (Nat.le_of_ble_eq_true rfl) (Nat.le_of_ble_eq_true rfl) d_N_isSame_31
  · rw [if_pos hc] at h
    refine mt_aload_n F hl 0 rfl rfl d_N_isSame_15 ?_
    obtain ⟨v5, e_v5, h⟩ := mw_bind h
    refine mw_getR F hK hI (in_5 _) (hc_5) 1 (by decide) (mA k_45) rfl e_v5 d_N_isSame_16 ?_
    refine mt_iload_n F hl 1 rfl rfl d_N_isSame_19 ?_
    obtain ⟨v6, e_v6, h⟩ := mw_bind h
    refine mw_iald F hK hI (t0 := 0) rfl e_v6 d_N_isSame_20 ?_
    refine mt_aload_n F hl 2 rfl rfl d_N_isSame_21 ?_
    obtain ⟨v7, e_v7, h⟩ := mw_bind h
    refine mw_getR F hK hI (in_5 _) (hc_5) 1 (by decide) (mA k_45) rfl e_v7 d_N_isSame_22 ?_
    refine mt_iload_n F hl 1 rfl rfl d_N_isSame_25 ?_
    obtain ⟨v8, e_v8, h⟩ := mw_bind h
    refine mw_iald F hK hI (t0 := 0) rfl e_v8 d_N_isSame_26 ?_
    refine lv_icmp_eq (tgt := 32) F.1 F.2.1 d_N_isSame_27 (by decide) (fun hc => ?_) (fun hc => ?_)
    · rw [if_pos hc] at h
      refine lv_iconst (v := 0) F.1 F.2.1 d_N_isSame_32 (by decide) ?_
      refine mt_istore_n F hl rfl (Nat.le_of_ble_eq_true rfl) rfl d_N_isSame_33 (fun ls hl => ?_)
      have hl : mt_L ls 4 [(3, (.inl 0)), (0, (.inr (.inr (some b0)))), (1, (.inl a1)), (2, (.inr (.inr a2)))] := hl
      refine W.widen (k := 0) (n := 0) (Nat.le_of_ble_eq_true rfl) (Nat.le_of_ble_eq_true rfl) ?_
      exact (s_N_isSame l D dA A b0 F hr hlk hnm hK out 5000) _ _ _ _ _ _ _ hI (mt_sub hl [1, 2, 3, 0] rfl) h
    · rw [if_neg hc] at h
      refine lv_iconst (v := 0) F.1 F.2.1 d_N_isSame_30 (by decide) ?_
      exact mw_zret F hI hr hlk rfl h (Nat.le_of_ble_eq_true rfl) (Nat.le_of_ble_eq_true rfl) d_N_isSame_31
abbrev rm_N_bytesBehind : Room := { frames := 1, cells := 0, slots := 0, locals := 23 }
set_option maxHeartbeats 4000000 in
set_option maxRecDepth 100000 in
theorem s_N_bytesBehind (l : Launch) (D : va_G) (dA : Nat → ClassId) (A : Nat → Prop) (b0 : Nat) {p : Program} {e : Env} {s : State} {m : MethodId} {args : Array Value} {below : List Frame} {meth : Method} {c : Code} (F : CallFix p m c b_N_bytesBehind 5 s args (cd_N_bytesBehind :: ALL) y_N_bytesBehind.cls) (hr : meth.sig.returnType = (some .int)) (hlk : meth.locks = false) (hnm : meth.name = y_N_bytesBehind.name) (hK : mw_K D CL (TY dA) ZZ s) (out : (Int32 × mc_S)) : ∀ n : Nat, (∀ (r1 : Option Nat) (x2 : Int32) (x3 : Int32) (S : mc_S) (H : Heap) (locs : List Loc) (ls : Array Slot), mw_I D dA CL A S s.heap H locs → mt_L ls 5 [(0, (.inr (.inr (some b0)))), (1, (.inr (.inr r1))), (2, (.inl x2)), (3, (.inl x3))] → g_N_bytesBehind b0 n 0 r1 x2 x3 S = some out → W p l e rm_N_bytesBehind s m args below meth c H locs (0) (0) (MQ below (va_Qi (fun x (_ : Unit) => x = out.1) (fun _ t => mw_R D dA CL A out.2 t) A) args s 0 0 A) (F0 m 4 ls [])) ∧ (∀ (r1 : Option Nat) (x2 : Int32) (x3 : Int32) (S : mc_S) (H : Heap) (locs : List Loc) (ls : Array Slot), mw_I D dA CL A S s.heap H locs → mt_L ls 5 [(0, (.inr (.inr (some b0)))), (1, (.inr (.inr r1))), (2, (.inl x2)), (3, (.inl x3))] → g_N_bytesBehind b0 n 1 r1 x2 x3 S = some out → W p l e rm_N_bytesBehind s m args below meth c H locs (0) (0) (MQ below (va_Qi (fun x (_ : Unit) => x = out.1) (fun _ t => mw_R D dA CL A out.2 t) A) args s 0 0 A) (F0 m 39 ls [])) ∧ (∀ (r1 : Option Nat) (x2 : Int32) (x3 : Int32) (S : mc_S) (H : Heap) (locs : List Loc) (ls : Array Slot), mw_I D dA CL A S s.heap H locs → mt_L ls 5 [(0, (.inr (.inr (some b0)))), (1, (.inr (.inr r1))), (2, (.inl x2)), (3, (.inl x3))] → g_N_bytesBehind b0 n 2 r1 x2 x3 S = some out → W p l e rm_N_bytesBehind s m args below meth c H locs (0) (0) (MQ below (va_Qi (fun x (_ : Unit) => x = out.1) (fun _ t => mw_R D dA CL A out.2 t) A) args s 0 0 A) (F0 m 92 ls [])) := by
  intro n
  induction n with
  | zero =>
    refine ⟨?_, ?_, ?_⟩
    · intro r1 x2 x3 S H locs ls hI hl h; have h : (none : Option (Int32 × mc_S)) = some out := h; cases h
    · intro r1 x2 x3 S H locs ls hI hl h; have h : (none : Option (Int32 × mc_S)) = some out := h; cases h
    · intro r1 x2 x3 S H locs ls hI hl h; have h : (none : Option (Int32 × mc_S)) = some out := h; cases h
  | succ k0 ih =>
    refine ⟨?_, ?_, ?_⟩
    · intro r1 x2 x3 S H locs ls hI hl h
      have h : q_N_bytesBehind_0 b0 (g_N_bytesBehind b0 k0) r1 x2 x3 S = some out := h
      unfold q_N_bytesBehind_0 at h
      refine mt_iload_n F hl 3 rfl rfl d_N_bytesBehind_4 ?_
      refine lv_bipush (v := 100) F.1 F.2.1 d_N_bytesBehind_5 (by decide) ?_
      refine lv_icmp_ge (tgt := 37) F.1 F.2.1 d_N_bytesBehind_7 (by decide) (fun hc => ?_) (fun hc => ?_)
      · rw [if_pos hc] at h
        refine lv_iconst (v := 0) F.1 F.2.1 d_N_bytesBehind_37 (by decide) ?_
        refine mt_istore_n F hl rfl (Nat.le_of_ble_eq_true rfl) rfl d_N_bytesBehind_38 (fun ls hl => ?_)
        have hl : mt_L ls 5 [(3, (.inl 0)), (0, (.inr (.inr (some b0)))), (1, (.inr (.inr r1))), (2, (.inl x2))] := hl
        refine W.widen (k := 0) (n := 0) (Nat.le_of_ble_eq_true rfl) (Nat.le_of_ble_eq_true rfl) ?_
        exact ih.2.1 _ _ _ _ _ _ _ hI (mt_sub hl [1, 2, 3, 0] rfl) h
      · rw [if_neg hc] at h
        refine mt_aload_n F hl 0 rfl rfl d_N_bytesBehind_10 ?_
        obtain ⟨v1, e_v1, h⟩ := mw_bind h
        refine mw_getR F hK hI (in_5 _) (hc_5) 0 (by decide) (mA k_44) rfl e_v1 d_N_bytesBehind_11 ?_
        refine mt_iload_n F hl 3 rfl rfl d_N_bytesBehind_14 ?_
        obtain ⟨v2, e_v2, h⟩ := mw_bind h
        refine mw_iald F hK hI (t0 := 0) rfl e_v2 d_N_bytesBehind_15 ?_
        refine lv_if_eq (tgt := 31) F.1 F.2.1 d_N_bytesBehind_16 (by decide) (fun hc => ?_) (fun hc => ?_)
        · rw [if_pos hc] at h
          refine mt_iinc (v := (x3 + 1)) F hl 3 rfl (by rw [show Int32.ofInt 1 = (1 : Int32) from by decide]) (Nat.le_of_ble_eq_true rfl) rfl d_N_bytesBehind_31 (fun ls hl => ?_)
          have hl : mt_L ls 5 [(3, (.inl (x3 + 1))), (0, (.inr (.inr (some b0)))), (1, (.inr (.inr r1))), (2, (.inl x2))] := hl
          refine lv_goto (tgt := 4) F.1 F.2.1 d_N_bytesBehind_34 (by decide) ?_
          refine W.widen (k := 0) (n := 0) (Nat.le_of_ble_eq_true rfl) (Nat.le_of_ble_eq_true rfl) ?_
          exact ih.1 _ _ _ _ _ _ _ hI (mt_sub hl [1, 2, 3, 0] rfl) h
        · rw [if_neg hc] at h
          refine mt_aload_n F hl 0 rfl rfl d_N_bytesBehind_19 ?_
          refine mt_iload_n F hl 3 rfl rfl d_N_bytesBehind_20 ?_
          refine mt_aload_n F hl 1 rfl rfl d_N_bytesBehind_21 ?_
          obtain ⟨b3, e_b3, h⟩ := mw_bind h
          obtain ⟨o4, e_o4, h⟩ := mw_bind h
          refine mw_calli hI (mw_runV F hK hI (c_N_isSame l D dA A _ _ _ _ _ e_o4) (cwV 2 F.2.2.2.2 (gd_V k_201 k_202 k_203 k_204 k_53) rfl rfl rfl hd_N_isSame ⟨Nat.le_of_ble_eq_true rfl, Nat.le_of_ble_eq_true rfl⟩) (hc_5) e_b3 rfl hl.1 rfl (Nat.zero_le _) d_N_bytesBehind_22 ⟨(Nat.le_of_ble_eq_true rfl), (Nat.le_of_ble_eq_true rfl)⟩) (fun H locs hI => ?_)
          refine lv_if_ne (tgt := 31) F.1 F.2.1 d_N_bytesBehind_25 (by decide) (fun hc => ?_) (fun hc => ?_)
          · rw [if_neg hc] at h
            refine mt_iinc (v := (x3 + 1)) F hl 3 rfl (by rw [show Int32.ofInt 1 = (1 : Int32) from by decide]) (Nat.le_of_ble_eq_true rfl) rfl d_N_bytesBehind_31 (fun ls hl => ?_)
            have hl : mt_L ls 5 [(3, (.inl (x3 + 1))), (0, (.inr (.inr (some b0)))), (1, (.inr (.inr r1))), (2, (.inl x2))] := hl
            refine lv_goto (tgt := 4) F.1 F.2.1 d_N_bytesBehind_34 (by decide) ?_
            refine W.widen (k := 0) (n := 0) (Nat.le_of_ble_eq_true rfl) (Nat.le_of_ble_eq_true rfl) ?_
            exact ih.1 _ _ _ _ _ _ _ hI (mt_sub hl [1, 2, 3, 0] rfl) h
          · rw [if_pos hc] at h
            refine mt_iinc (v := (x2 + 16)) F hl 2 rfl (by rw [show Int32.ofInt 16 = (16 : Int32) from by decide]) (Nat.le_of_ble_eq_true rfl) rfl d_N_bytesBehind_28 (fun ls hl => ?_)
            have hl : mt_L ls 5 [(2, (.inl (x2 + 16))), (0, (.inr (.inr (some b0)))), (1, (.inr (.inr r1))), (3, (.inl x3))] := hl
            refine mt_iinc (v := (x3 + 1)) F hl 3 rfl (by rw [show Int32.ofInt 1 = (1 : Int32) from by decide]) (Nat.le_of_ble_eq_true rfl) rfl d_N_bytesBehind_31 (fun ls hl => ?_)
            have hl : mt_L ls 5 [(3, (.inl (x3 + 1))), (2, (.inl (x2 + 16))), (0, (.inr (.inr (some b0)))), (1, (.inr (.inr r1)))] := hl
            refine lv_goto (tgt := 4) F.1 F.2.1 d_N_bytesBehind_34 (by decide) ?_
            refine W.widen (k := 0) (n := 0) (Nat.le_of_ble_eq_true rfl) (Nat.le_of_ble_eq_true rfl) ?_
            exact ih.1 _ _ _ _ _ _ _ hI (mt_sub hl [2, 3, 1, 0] rfl) h
    · intro r1 x2 x3 S H locs ls hI hl h
      have h : q_N_bytesBehind_1 b0 (g_N_bytesBehind b0 k0) r1 x2 x3 S = some out := h
      unfold q_N_bytesBehind_1 at h
      refine mt_iload_n F hl 3 rfl rfl d_N_bytesBehind_39 ?_
      refine mt_aload_n F hl 0 rfl rfl d_N_bytesBehind_40 ?_
      obtain ⟨v1, e_v1, h⟩ := mw_bind h
      refine mw_getI F hK hI (in_5 _) (hc_5) 6 (by decide) (mA k_172) rfl e_v1 d_N_bytesBehind_41 ?_
      refine lv_icmp_ge (tgt := 90) F.1 F.2.1 d_N_bytesBehind_44 (by decide) (fun hc => ?_) (fun hc => ?_)
      · rw [if_pos hc] at h
        refine lv_iconst (v := 0) F.1 F.2.1 d_N_bytesBehind_90 (by decide) ?_
        refine mt_istore_n F hl rfl (Nat.le_of_ble_eq_true rfl) rfl d_N_bytesBehind_91 (fun ls hl => ?_)
        have hl : mt_L ls 5 [(3, (.inl 0)), (0, (.inr (.inr (some b0)))), (1, (.inr (.inr r1))), (2, (.inl x2))] := hl
        refine W.widen (k := 0) (n := 0) (Nat.le_of_ble_eq_true rfl) (Nat.le_of_ble_eq_true rfl) ?_
        exact ih.2.2 _ _ _ _ _ _ _ hI (mt_sub hl [1, 2, 3, 0] rfl) h
      · rw [if_neg hc] at h
        refine mt_aload_n F hl 1 rfl rfl d_N_bytesBehind_47 ?_
        refine mt_aload_n F hl 0 rfl rfl d_N_bytesBehind_48 ?_
        obtain ⟨v2, e_v2, h⟩ := mw_bind h
        refine mw_getR F hK hI (in_5 _) (hc_5) 3 (by decide) (mA k_47) rfl e_v2 d_N_bytesBehind_49 ?_
        refine mt_iload_n F hl 3 rfl rfl d_N_bytesBehind_52 ?_
        obtain ⟨v3, e_v3, h⟩ := mw_bind h
        refine mw_iald F hK hI (t0 := 0) rfl e_v3 d_N_bytesBehind_53 ?_
        obtain ⟨b4, e_b4, h⟩ := mw_bind h
        obtain ⟨o5, e_o5, h⟩ := mw_bind h
        refine mw_calli hI (mw_runV F hK hI (c_N_findRoot l D dA A _ _ _ _ e_o5) (cwV 1 F.2.2.2.2 (gd_V k_173 k_205 k_175 k_176 k_53) rfl rfl rfl hd_N_findRoot ⟨Nat.le_of_ble_eq_true rfl, Nat.le_of_ble_eq_true rfl⟩) (hc_5) e_b4 rfl hl.1 rfl (Nat.zero_le _) d_N_bytesBehind_54 ⟨(Nat.le_of_ble_eq_true rfl), (Nat.le_of_ble_eq_true rfl)⟩) (fun H locs hI => ?_)
        refine mt_istore F hl (Nat.le_of_ble_eq_true rfl) rfl d_N_bytesBehind_57 (fun ls hl => ?_)
        have hl : mt_L ls 5 [(4, (.inl o5.1)), (0, (.inr (.inr (some b0)))), (1, (.inr (.inr r1))), (2, (.inl x2)), (3, (.inl x3))] := hl
        refine mt_iload F hl 0 rfl d_N_bytesBehind_59 ?_
        refine lv_if_lt (tgt := 81) F.1 F.2.1 d_N_bytesBehind_61 (by decide) (fun hc => ?_) (fun hc => ?_)
        · rw [if_pos hc] at h
          refine mt_iinc (v := (x2 + 6)) F hl 3 rfl (by rw [show Int32.ofInt 6 = (6 : Int32) from by decide]) (Nat.le_of_ble_eq_true rfl) rfl d_N_bytesBehind_81 (fun ls hl => ?_)
          have hl : mt_L ls 5 [(2, (.inl (x2 + 6))), (4, (.inl o5.1)), (0, (.inr (.inr (some b0)))), (1, (.inr (.inr r1))), (3, (.inl x3))] := hl
          refine mt_iinc (v := (x3 + 1)) F hl 4 rfl (by rw [show Int32.ofInt 1 = (1 : Int32) from by decide]) (Nat.le_of_ble_eq_true rfl) rfl d_N_bytesBehind_84 (fun ls hl => ?_)
          have hl : mt_L ls 5 [(3, (.inl (x3 + 1))), (2, (.inl (x2 + 6))), (4, (.inl o5.1)), (0, (.inr (.inr (some b0)))), (1, (.inr (.inr r1)))] := hl
          refine lv_goto (tgt := 39) F.1 F.2.1 d_N_bytesBehind_87 (by decide) ?_
          refine W.widen (k := 0) (n := 0) (Nat.le_of_ble_eq_true rfl) (Nat.le_of_ble_eq_true rfl) ?_
          exact ih.2.1 _ _ _ _ _ _ _ hI (mt_sub hl [3, 4, 1, 0] rfl) h
        · rw [if_neg hc] at h
          refine mt_aload_n F hl 2 rfl rfl d_N_bytesBehind_64 ?_
          obtain ⟨v6, e_v6, h⟩ := mw_bind h
          refine mw_getR F hK hI (in_5 _) (hc_5) 5 (by decide) (mA k_49) rfl e_v6 d_N_bytesBehind_65 ?_
          refine mt_iload F hl 0 rfl d_N_bytesBehind_68 ?_
          obtain ⟨v7, e_v7, h⟩ := mw_bind h
          refine mw_lald F hK hI (t0 := 1) rfl e_v7 d_N_bytesBehind_70 ?_
          refine mt_aload_n F hl 1 rfl rfl d_N_bytesBehind_71 ?_
          obtain ⟨v8, e_v8, h⟩ := mw_bind h
          refine mw_getR F hK hI (in_5 _) (hc_5) 5 (by decide) (mA k_49) rfl e_v8 d_N_bytesBehind_72 ?_
          refine mt_iload_n F hl 4 rfl rfl d_N_bytesBehind_75 ?_
          obtain ⟨v9, e_v9, h⟩ := mw_bind h
          refine mw_lald F hK hI (t0 := 1) rfl e_v9 d_N_bytesBehind_76 ?_
          refine W.lcmp F.1 F.2.1 d_N_bytesBehind_77 ?_
          refine lv_if_eq (tgt := 84) F.1 F.2.1 d_N_bytesBehind_78 (by decide) (fun hc => ?_) (fun hc => ?_)
          · rw [if_pos hc] at h
            refine mt_iinc (v := (x3 + 1)) F hl 4 rfl (by rw [show Int32.ofInt 1 = (1 : Int32) from by decide]) (Nat.le_of_ble_eq_true rfl) rfl d_N_bytesBehind_84 (fun ls hl => ?_)
            have hl : mt_L ls 5 [(3, (.inl (x3 + 1))), (4, (.inl o5.1)), (0, (.inr (.inr (some b0)))), (1, (.inr (.inr r1))), (2, (.inl x2))] := hl
            refine lv_goto (tgt := 39) F.1 F.2.1 d_N_bytesBehind_87 (by decide) ?_
            refine W.widen (k := 0) (n := 0) (Nat.le_of_ble_eq_true rfl) (Nat.le_of_ble_eq_true rfl) ?_
            exact ih.2.1 _ _ _ _ _ _ _ hI (mt_sub hl [2, 3, 4, 0] rfl) h
          · rw [if_neg hc] at h
            refine mt_iinc (v := (x2 + 6)) F hl 3 rfl (by rw [show Int32.ofInt 6 = (6 : Int32) from by decide]) (Nat.le_of_ble_eq_true rfl) rfl d_N_bytesBehind_81 (fun ls hl => ?_)
            have hl : mt_L ls 5 [(2, (.inl (x2 + 6))), (4, (.inl o5.1)), (0, (.inr (.inr (some b0)))), (1, (.inr (.inr r1))), (3, (.inl x3))] := hl
            refine mt_iinc (v := (x3 + 1)) F hl 4 rfl (by rw [show Int32.ofInt 1 = (1 : Int32) from by decide]) (Nat.le_of_ble_eq_true rfl) rfl d_N_bytesBehind_84 (fun ls hl => ?_)
            have hl : mt_L ls 5 [(3, (.inl (x3 + 1))), (2, (.inl (x2 + 6))), (4, (.inl o5.1)), (0, (.inr (.inr (some b0)))), (1, (.inr (.inr r1)))] := hl
            refine lv_goto (tgt := 39) F.1 F.2.1 d_N_bytesBehind_87 (by decide) ?_
            refine W.widen (k := 0) (n := 0) (Nat.le_of_ble_eq_true rfl) (Nat.le_of_ble_eq_true rfl) ?_
            exact ih.2.1 _ _ _ _ _ _ _ hI (mt_sub hl [3, 4, 1, 0] rfl) h
    · intro r1 x2 x3 S H locs ls hI hl h
      have h : q_N_bytesBehind_2 b0 (g_N_bytesBehind b0 k0) r1 x2 x3 S = some out := h
      unfold q_N_bytesBehind_2 at h
      refine mt_iload_n F hl 3 rfl rfl d_N_bytesBehind_92 ?_
      refine mt_aload_n F hl 1 rfl rfl d_N_bytesBehind_93 ?_
      obtain ⟨v1, e_v1, h⟩ := mw_bind h
      refine mw_getI F hK hI (in_5 _) (hc_5) 6 (by decide) (mA k_172) rfl e_v1 d_N_bytesBehind_94 ?_
      refine lv_icmp_ge (tgt := 122) F.1 F.2.1 d_N_bytesBehind_97 (by decide) (fun hc => ?_) (fun hc => ?_)
      · rw [if_pos hc] at h
        refine mt_iload_n F hl 2 rfl rfl d_N_bytesBehind_122 ?_
        exact mw_iret F hI hr hlk h (Nat.le_of_ble_eq_true rfl) (Nat.le_of_ble_eq_true rfl) d_N_bytesBehind_123
      · rw [if_neg hc] at h
        refine mt_aload_n F hl 0 rfl rfl d_N_bytesBehind_100 ?_
        refine mt_aload_n F hl 1 rfl rfl d_N_bytesBehind_101 ?_
        obtain ⟨v2, e_v2, h⟩ := mw_bind h
        refine mw_getR F hK hI (in_5 _) (hc_5) 3 (by decide) (mA k_47) rfl e_v2 d_N_bytesBehind_102 ?_
        refine mt_iload_n F hl 3 rfl rfl d_N_bytesBehind_105 ?_
        obtain ⟨v3, e_v3, h⟩ := mw_bind h
        refine mw_iald F hK hI (t0 := 0) rfl e_v3 d_N_bytesBehind_106 ?_
        obtain ⟨b4, e_b4, h⟩ := mw_bind h
        obtain ⟨o5, e_o5, h⟩ := mw_bind h
        refine mw_calli hI (mw_runV F hK hI (c_N_findRoot l D dA A _ _ _ _ e_o5) (cwV 1 F.2.2.2.2 (gd_V k_173 k_205 k_175 k_176 k_53) rfl rfl rfl hd_N_findRoot ⟨Nat.le_of_ble_eq_true rfl, Nat.le_of_ble_eq_true rfl⟩) (hc_5) e_b4 rfl hl.1 rfl (Nat.zero_le _) d_N_bytesBehind_107 ⟨(Nat.le_of_ble_eq_true rfl), (Nat.le_of_ble_eq_true rfl)⟩) (fun H locs hI => ?_)
        refine lv_if_ge (tgt := 116) F.1 F.2.1 d_N_bytesBehind_110 (by decide) (fun hc => ?_) (fun hc => ?_)
        · rw [if_pos hc] at h
          refine mt_iinc (v := (x3 + 1)) F hl 3 rfl (by rw [show Int32.ofInt 1 = (1 : Int32) from by decide]) (Nat.le_of_ble_eq_true rfl) rfl d_N_bytesBehind_116 (fun ls hl => ?_)
          have hl : mt_L ls 5 [(3, (.inl (x3 + 1))), (0, (.inr (.inr (some b0)))), (1, (.inr (.inr r1))), (2, (.inl x2))] := hl
          refine lv_goto (tgt := 92) F.1 F.2.1 d_N_bytesBehind_119 (by decide) ?_
          refine W.widen (k := 0) (n := 0) (Nat.le_of_ble_eq_true rfl) (Nat.le_of_ble_eq_true rfl) ?_
          exact ih.2.2 _ _ _ _ _ _ _ hI (mt_sub hl [1, 2, 3, 0] rfl) h
        · rw [if_neg hc] at h
          refine mt_iinc (v := (x2 + 6)) F hl 2 rfl (by rw [show Int32.ofInt 6 = (6 : Int32) from by decide]) (Nat.le_of_ble_eq_true rfl) rfl d_N_bytesBehind_113 (fun ls hl => ?_)
          have hl : mt_L ls 5 [(2, (.inl (x2 + 6))), (0, (.inr (.inr (some b0)))), (1, (.inr (.inr r1))), (3, (.inl x3))] := hl
          refine mt_iinc (v := (x3 + 1)) F hl 3 rfl (by rw [show Int32.ofInt 1 = (1 : Int32) from by decide]) (Nat.le_of_ble_eq_true rfl) rfl d_N_bytesBehind_116 (fun ls hl => ?_)
          have hl : mt_L ls 5 [(3, (.inl (x3 + 1))), (2, (.inl (x2 + 6))), (0, (.inr (.inr (some b0)))), (1, (.inr (.inr r1)))] := hl
          refine lv_goto (tgt := 92) F.1 F.2.1 d_N_bytesBehind_119 (by decide) ?_
          refine W.widen (k := 0) (n := 0) (Nat.le_of_ble_eq_true rfl) (Nat.le_of_ble_eq_true rfl) ?_
          exact ih.2.2 _ _ _ _ _ _ _ hI (mt_sub hl [2, 3, 1, 0] rfl) h
set_option maxHeartbeats 4000000 in
set_option maxRecDepth 100000 in
theorem c_N_bytesBehind (l : Launch) (D : va_G) (dA : Nat → ClassId) (A : Nat → Prop) (b0 : Nat) (a1 : Option Nat) (S : mc_S) (out : (Int32 × mc_S)) (hf : f_N_bytesBehind b0 a1 S = some out) : Met l y_N_bytesBehind (cd_N_bytesBehind :: ALL) rm_N_bytesBehind (va_Pc [va_rf (some b0), va_rf a1] (mw_B D dA CL (TY dA) ZZ A S)) (va_Qi (fun x (_ : Unit) => x = out.1) (fun _ t => mw_R D dA CL A out.2 t) A) 0 0 A := by
  refine mw_ofW (cc := b_N_bytesBehind) (maxL := 5) (ret := (some .int)) [(.inr (.inr (some b0))), (.inr (.inr a1))] rfl (by decide +kernel) (Nat.le_of_ble_eq_true rfl) (L := [(0, (.inr (.inr (some b0)))), (1, (.inr (.inr a1)))]) rfl (fun p e s m args below meth c F hr hlk hnm hK ls hl hI => ?_)
  have h := hf
  unfold f_N_bytesBehind at h
  refine lv_iconst (v := 0) F.1 F.2.1 d_N_bytesBehind_0 (by decide) ?_
  refine mt_istore_n F hl rfl (Nat.le_of_ble_eq_true rfl) rfl d_N_bytesBehind_1 (fun ls hl => ?_)
  have hl : mt_L ls 5 [(2, (.inl 0)), (0, (.inr (.inr (some b0)))), (1, (.inr (.inr a1)))] := hl
  refine lv_iconst (v := 0) F.1 F.2.1 d_N_bytesBehind_2 (by decide) ?_
  refine mt_istore_n F hl rfl (Nat.le_of_ble_eq_true rfl) rfl d_N_bytesBehind_3 (fun ls hl => ?_)
  have hl : mt_L ls 5 [(3, (.inl 0)), (2, (.inl 0)), (0, (.inr (.inr (some b0)))), (1, (.inr (.inr a1)))] := hl
  refine W.widen (k := 0) (n := 0) (Nat.le_of_ble_eq_true rfl) (Nat.le_of_ble_eq_true rfl) ?_
  exact (s_N_bytesBehind l D dA A b0 F hr hlk hnm hK out 5000).1 _ _ _ _ _ _ _ hI (mt_sub hl [2, 3, 1, 0] rfl) h
abbrev rm_N_copy : Room := { frames := 1, cells := 0, slots := 0, locals := 18 }
set_option maxHeartbeats 4000000 in
set_option maxRecDepth 100000 in
theorem c_N_copy (l : Launch) (D : va_G) (dA : Nat → ClassId) (A : Nat → Prop) (b0 : Nat) (a1 : Option Nat) (S : mc_S) (out : mc_S) (hf : f_N_copy b0 a1 S = some out) : Met l y_N_copy (cd_N_copy :: ALL) rm_N_copy (va_Pc [va_rf (some b0), va_rf a1] (mw_B D dA CL (TY dA) ZZ A S)) (va_Qv (fun (_ : Unit) => True) (fun _ t => mw_R D dA CL A out t) A) 0 0 A := by
  refine mw_ofW (cc := b_N_copy) (maxL := 2) (ret := none) [(.inr (.inr (some b0))), (.inr (.inr a1))] rfl (by decide +kernel) (Nat.le_of_ble_eq_true rfl) (L := [(0, (.inr (.inr (some b0)))), (1, (.inr (.inr a1)))]) rfl (fun p e s m args below meth c F hr hlk hnm hK ls hl hI => ?_)
  have h := hf
  unfold f_N_copy at h
  refine mt_aload_n F hl 1 rfl rfl d_N_copy_0 ?_
  obtain ⟨v1, e_v1, h⟩ := mw_bind h
  refine mw_getR F hK hI (in_5 _) (hc_5) 0 (by decide) (mA k_44) rfl e_v1 d_N_copy_1 ?_
  refine lv_iconst (v := 0) F.1 F.2.1 d_N_copy_4 (by decide) ?_
  refine mt_aload_n F hl 0 rfl rfl d_N_copy_5 ?_
  obtain ⟨v2, e_v2, h⟩ := mw_bind h
  refine mw_getR F hK hI (in_5 _) (hc_5) 0 (by decide) (mA k_44) rfl e_v2 d_N_copy_6 ?_
  refine lv_iconst (v := 0) F.1 F.2.1 d_N_copy_9 (by decide) ?_
  refine lv_bipush (v := 100) F.1 F.2.1 d_N_copy_10 (by decide) ?_
  obtain ⟨S3, e_S3, h⟩ := mw_bind h
  refine mw_copyi F hK hI (t0 := 0) (mA k_206) (mA k_82) (mA k_83) (mA k_84) rfl e_S3 hl.1 (Nat.le_of_ble_eq_true rfl) (by simp [mw_cat, mw_cI, mw_cL, nativeFrameWords, rm_N_copy]) d_N_copy_12 (fun H locs hI => ?_)
  refine mt_aload_n F hl 1 rfl rfl d_N_copy_15 ?_
  obtain ⟨v4, e_v4, h⟩ := mw_bind h
  refine mw_getR F hK hI (in_5 _) (hc_5) 1 (by decide) (mA k_45) rfl e_v4 d_N_copy_16 ?_
  refine lv_iconst (v := 0) F.1 F.2.1 d_N_copy_19 (by decide) ?_
  refine mt_aload_n F hl 0 rfl rfl d_N_copy_20 ?_
  obtain ⟨v5, e_v5, h⟩ := mw_bind h
  refine mw_getR F hK hI (in_5 _) (hc_5) 1 (by decide) (mA k_45) rfl e_v5 d_N_copy_21 ?_
  refine lv_iconst (v := 0) F.1 F.2.1 d_N_copy_24 (by decide) ?_
  refine lv_bipush (v := 100) F.1 F.2.1 d_N_copy_25 (by decide) ?_
  obtain ⟨S6, e_S6, h⟩ := mw_bind h
  refine mw_copyi F hK hI (t0 := 0) (mA k_206) (mA k_82) (mA k_83) (mA k_84) rfl e_S6 hl.1 (Nat.le_of_ble_eq_true rfl) (by simp [mw_cat, mw_cI, mw_cL, nativeFrameWords, rm_N_copy]) d_N_copy_27 (fun H locs hI => ?_)
  refine mt_aload_n F hl 1 rfl rfl d_N_copy_30 ?_
  obtain ⟨v7, e_v7, h⟩ := mw_bind h
  refine mw_getR F hK hI (in_5 _) (hc_5) 2 (by decide) (mA k_46) rfl e_v7 d_N_copy_31 ?_
  refine lv_iconst (v := 0) F.1 F.2.1 d_N_copy_34 (by decide) ?_
  refine mt_aload_n F hl 0 rfl rfl d_N_copy_35 ?_
  obtain ⟨v8, e_v8, h⟩ := mw_bind h
  refine mw_getR F hK hI (in_5 _) (hc_5) 2 (by decide) (mA k_46) rfl e_v8 d_N_copy_36 ?_
  refine lv_iconst (v := 0) F.1 F.2.1 d_N_copy_39 (by decide) ?_
  refine lv_sipush (v := 800) F.1 F.2.1 d_N_copy_40 (by decide) ?_
  obtain ⟨S9, e_S9, h⟩ := mw_bind h
  refine mw_copyi F hK hI (t0 := 0) (mA k_206) (mA k_82) (mA k_83) (mA k_84) rfl e_S9 hl.1 (Nat.le_of_ble_eq_true rfl) (by simp [mw_cat, mw_cI, mw_cL, nativeFrameWords, rm_N_copy]) d_N_copy_43 (fun H locs hI => ?_)
  refine mt_aload_n F hl 1 rfl rfl d_N_copy_46 ?_
  obtain ⟨v10, e_v10, h⟩ := mw_bind h
  refine mw_getR F hK hI (in_5 _) (hc_5) 4 (by decide) (mA k_48) rfl e_v10 d_N_copy_47 ?_
  refine lv_iconst (v := 0) F.1 F.2.1 d_N_copy_50 (by decide) ?_
  refine mt_aload_n F hl 0 rfl rfl d_N_copy_51 ?_
  obtain ⟨v11, e_v11, h⟩ := mw_bind h
  refine mw_getR F hK hI (in_5 _) (hc_5) 4 (by decide) (mA k_48) rfl e_v11 d_N_copy_52 ?_
  refine lv_iconst (v := 0) F.1 F.2.1 d_N_copy_55 (by decide) ?_
  refine lv_sipush (v := 2000) F.1 F.2.1 d_N_copy_56 (by decide) ?_
  obtain ⟨S12, e_S12, h⟩ := mw_bind h
  refine mw_copyl F hK hI (t0 := 1) (mA k_206) (mA k_82) (mA k_83) (mA k_84) rfl e_S12 hl.1 (Nat.le_of_ble_eq_true rfl) (by simp [mw_cat, mw_cI, mw_cL, nativeFrameWords, rm_N_copy]) d_N_copy_59 (fun H locs hI => ?_)
  refine mt_aload_n F hl 1 rfl rfl d_N_copy_62 ?_
  obtain ⟨v13, e_v13, h⟩ := mw_bind h
  refine mw_getR F hK hI (in_5 _) (hc_5) 3 (by decide) (mA k_47) rfl e_v13 d_N_copy_63 ?_
  refine lv_iconst (v := 0) F.1 F.2.1 d_N_copy_66 (by decide) ?_
  refine mt_aload_n F hl 0 rfl rfl d_N_copy_67 ?_
  obtain ⟨v14, e_v14, h⟩ := mw_bind h
  refine mw_getR F hK hI (in_5 _) (hc_5) 3 (by decide) (mA k_47) rfl e_v14 d_N_copy_68 ?_
  refine lv_iconst (v := 0) F.1 F.2.1 d_N_copy_71 (by decide) ?_
  refine lv_bipush (v := 12) F.1 F.2.1 d_N_copy_72 (by decide) ?_
  obtain ⟨S15, e_S15, h⟩ := mw_bind h
  refine mw_copyi F hK hI (t0 := 0) (mA k_206) (mA k_82) (mA k_83) (mA k_84) rfl e_S15 hl.1 (Nat.le_of_ble_eq_true rfl) (by simp [mw_cat, mw_cI, mw_cL, nativeFrameWords, rm_N_copy]) d_N_copy_74 (fun H locs hI => ?_)
  refine mt_aload_n F hl 1 rfl rfl d_N_copy_77 ?_
  obtain ⟨v16, e_v16, h⟩ := mw_bind h
  refine mw_getR F hK hI (in_5 _) (hc_5) 5 (by decide) (mA k_49) rfl e_v16 d_N_copy_78 ?_
  refine lv_iconst (v := 0) F.1 F.2.1 d_N_copy_81 (by decide) ?_
  refine mt_aload_n F hl 0 rfl rfl d_N_copy_82 ?_
  obtain ⟨v17, e_v17, h⟩ := mw_bind h
  refine mw_getR F hK hI (in_5 _) (hc_5) 5 (by decide) (mA k_49) rfl e_v17 d_N_copy_83 ?_
  refine lv_iconst (v := 0) F.1 F.2.1 d_N_copy_86 (by decide) ?_
  refine lv_bipush (v := 12) F.1 F.2.1 d_N_copy_87 (by decide) ?_
  obtain ⟨S18, e_S18, h⟩ := mw_bind h
  refine mw_copyl F hK hI (t0 := 1) (mA k_206) (mA k_82) (mA k_83) (mA k_84) rfl e_S18 hl.1 (Nat.le_of_ble_eq_true rfl) (by simp [mw_cat, mw_cI, mw_cL, nativeFrameWords, rm_N_copy]) d_N_copy_89 (fun H locs hI => ?_)
  refine mt_aload_n F hl 0 rfl rfl d_N_copy_92 ?_
  refine mt_aload_n F hl 1 rfl rfl d_N_copy_93 ?_
  obtain ⟨v19, e_v19, h⟩ := mw_bind h
  refine mw_getI F hK hI (in_5 _) (hc_5) 6 (by decide) (mA k_172) rfl e_v19 d_N_copy_94 ?_
  obtain ⟨S20, e_S20, h⟩ := mw_bind h
  refine mw_put F hK hI (in_5 _) ty_5 ok_5 nm_5 (hc_5) 6 (by decide) (mA k_172) rfl rfl rfl rfl e_S20 d_N_copy_97 (fun H locs hI => ?_)
  exact mw_vret F hI hr hlk h (Nat.le_of_ble_eq_true rfl) (Nat.le_of_ble_eq_true rfl) d_N_copy_100
abbrev rm_M_keep : Room := { frames := 2, cells := 0, slots := 0, locals := 39 }
set_option maxHeartbeats 4000000 in
set_option maxRecDepth 100000 in
theorem s_M_keep (l : Launch) (D : va_G) (dA : Nat → ClassId) (A : Nat → Prop) (b0 : Nat) {p : Program} {e : Env} {s : State} {m : MethodId} {args : Array Value} {below : List Frame} {meth : Method} {c : Code} (F : CallFix p m c b_M_keep 4 s args (cd_M_keep :: ALL) y_M_keep.cls) (hr : meth.sig.returnType = none) (hlk : meth.locks = false) (hnm : meth.name = y_M_keep.name) (hK : mw_K D CL (TY dA) ZZ s) (out : mc_S) : ∀ n : Nat, (∀ (x1 : Int32) (r2 : Option Nat) (x3 : Int32) (S : mc_S) (H : Heap) (locs : List Loc) (ls : Array Slot), mw_I D dA CL A S s.heap H locs → mt_L ls 4 [(0, (.inr (.inr (some b0)))), (1, (.inl x1)), (2, (.inr (.inr r2))), (3, (.inl x3))] → g_M_keep b0 n x1 r2 x3 S = some out → W p l e rm_M_keep s m args below meth c H locs (0) (0) (MQ below (va_Qv (fun (_ : Unit) => True) (fun _ t => mw_R D dA CL A out t) A) args s 0 0 A) (F0 m 47 ls [])) := by
  intro n
  induction n with
  | zero =>
    intro x1 r2 x3 S H locs ls hI hl h; have h : (none : Option mc_S) = some out := h; cases h
  | succ k0 ih =>
    intro x1 r2 x3 S H locs ls hI hl h
    have h : q_M_keep_0 b0 (g_M_keep b0 k0) x1 r2 x3 S = some out := h
    unfold q_M_keep_0 at h
    refine mt_iload_n F hl 3 rfl rfl d_M_keep_47 ?_
    refine lv_bipush (v := 8) F.1 F.2.1 d_M_keep_48 (by decide) ?_
    refine lv_icmp_ge (tgt := 73) F.1 F.2.1 d_M_keep_50 (by decide) (fun hc => ?_) (fun hc => ?_)
    · rw [if_pos hc] at h
      refine mt_aload_n F hl 0 rfl rfl d_M_keep_73 ?_
      obtain ⟨v1, e_v1, h⟩ := mw_bind h
      refine mw_getR F hK hI (in_4 _) (hc_4) 3 (by decide) (mA k_59) rfl e_v1 d_M_keep_74 ?_
      refine lv_bipush (v := 7) F.1 F.2.1 d_M_keep_77 (by decide) ?_
      refine mt_aload_n F hl 2 rfl rfl d_M_keep_79 ?_
      obtain ⟨S2, e_S2, h⟩ := mw_bind h
      refine mw_aast F hK hI (t0 := 5) (ci := 5) (q0 := cq_5) rfl rfl e_S2 d_M_keep_80 (fun H locs hI => ?_)
      refine mt_aload_n F hl 0 rfl rfl d_M_keep_81 ?_
      refine lv_dup F.1 F.2.1 d_M_keep_82 (mw_cat _) ?_
      obtain ⟨v3, e_v3, h⟩ := mw_bind h
      refine mw_getI F hK hI (in_4 _) (hc_4) 4 (by decide) (mA k_212) rfl e_v3 d_M_keep_83 ?_
      refine lv_iconst (v := 1) F.1 F.2.1 d_M_keep_86 (by decide) ?_
      refine lv_isub F.1 F.2.1 d_M_keep_87 ?_
      obtain ⟨S4, e_S4, h⟩ := mw_bind h
      refine mw_put F hK hI (in_4 _) ty_4 ok_4 nm_4 (hc_4) 4 (by decide) (mA k_212) rfl rfl rfl rfl e_S4 d_M_keep_88 (fun H locs hI => ?_)
      refine mt_aload_n F hl 0 rfl rfl d_M_keep_91 ?_
      obtain ⟨v5, e_v5, h⟩ := mw_bind h
      refine mw_getR F hK hI (in_4 _) (hc_4) 3 (by decide) (mA k_59) rfl e_v5 d_M_keep_92 ?_
      refine mt_aload_n F hl 0 rfl rfl d_M_keep_95 ?_
      obtain ⟨v6, e_v6, h⟩ := mw_bind h
      refine mw_getI F hK hI (in_4 _) (hc_4) 4 (by decide) (mA k_212) rfl e_v6 d_M_keep_96 ?_
      obtain ⟨v7, e_v7, h⟩ := mw_bind h
      refine mw_aald F hK hI (t0 := 5) rfl e_v7 d_M_keep_99 ?_
      refine mt_aload_n F hl 0 rfl rfl d_M_keep_100 ?_
      obtain ⟨v8, e_v8, h⟩ := mw_bind h
      refine mw_getR F hK hI (in_4 _) (hc_4) 0 (by decide) (mA k_56) rfl e_v8 d_M_keep_101 ?_
      obtain ⟨b9, e_b9, h⟩ := mw_bind h
      obtain ⟨S10, e_S10, h⟩ := mw_bind h
      refine mw_callv hI (mw_runV F hK hI (c_N_copy l D dA A _ _ _ _ e_S10) (cwV 1 F.2.2.2.2 (gd_V k_207 k_208 k_209 k_210 k_53) rfl rfl rfl hd_N_copy ⟨Nat.le_of_ble_eq_true rfl, Nat.le_of_ble_eq_true rfl⟩) (hc_5) e_b9 rfl hl.1 rfl (Nat.zero_le _) d_M_keep_104 ⟨(Nat.le_of_ble_eq_true rfl), (Nat.le_of_ble_eq_true rfl)⟩) (fun H locs hI => ?_)
      refine mt_aload_n F hl 0 rfl rfl d_M_keep_107 ?_
      obtain ⟨v11, e_v11, h⟩ := mw_bind h
      refine mw_getR F hK hI (in_4 _) (hc_4) 3 (by decide) (mA k_59) rfl e_v11 d_M_keep_108 ?_
      refine mt_aload_n F hl 0 rfl rfl d_M_keep_111 ?_
      obtain ⟨v12, e_v12, h⟩ := mw_bind h
      refine mw_getI F hK hI (in_4 _) (hc_4) 4 (by decide) (mA k_212) rfl e_v12 d_M_keep_112 ?_
      obtain ⟨v13, e_v13, h⟩ := mw_bind h
      refine mw_aald F hK hI (t0 := 5) rfl e_v13 d_M_keep_115 ?_
      refine mt_iload_n F hl 1 rfl rfl d_M_keep_116 ?_
      obtain ⟨S14, e_S14, h⟩ := mw_bind h
      refine mw_put F hK hI (in_5 _) ty_5 ok_5 nm_5 (hc_5) 7 (by decide) (mA k_213) rfl rfl rfl rfl e_S14 d_M_keep_117 (fun H locs hI => ?_)
      refine mt_aload_n F hl 0 rfl rfl d_M_keep_120 ?_
      refine lv_dup F.1 F.2.1 d_M_keep_121 (mw_cat _) ?_
      obtain ⟨v15, e_v15, h⟩ := mw_bind h
      refine mw_getI F hK hI (in_4 _) (hc_4) 4 (by decide) (mA k_212) rfl e_v15 d_M_keep_122 ?_
      refine lv_iconst (v := 1) F.1 F.2.1 d_M_keep_125 (by decide) ?_
      refine lv_iadd F.1 F.2.1 d_M_keep_126 ?_
      obtain ⟨S16, e_S16, h⟩ := mw_bind h
      refine mw_put F hK hI (in_4 _) ty_4 ok_4 nm_4 (hc_4) 4 (by decide) (mA k_212) rfl rfl rfl rfl e_S16 d_M_keep_127 (fun H locs hI => ?_)
      exact mw_vret F hI hr hlk h (Nat.le_of_ble_eq_true rfl) (Nat.le_of_ble_eq_true rfl) d_M_keep_130
    · rw [if_neg hc] at h
      refine mt_aload_n F hl 0 rfl rfl d_M_keep_53 ?_
      obtain ⟨v17, e_v17, h⟩ := mw_bind h
      refine mw_getR F hK hI (in_4 _) (hc_4) 3 (by decide) (mA k_59) rfl e_v17 d_M_keep_54 ?_
      refine mt_iload_n F hl 3 rfl rfl d_M_keep_57 ?_
      refine lv_iconst (v := 1) F.1 F.2.1 d_M_keep_58 (by decide) ?_
      refine lv_isub F.1 F.2.1 d_M_keep_59 ?_
      refine mt_aload_n F hl 0 rfl rfl d_M_keep_60 ?_
      obtain ⟨v18, e_v18, h⟩ := mw_bind h
      refine mw_getR F hK hI (in_4 _) (hc_4) 3 (by decide) (mA k_59) rfl e_v18 d_M_keep_61 ?_
      refine mt_iload_n F hl 3 rfl rfl d_M_keep_64 ?_
      obtain ⟨v19, e_v19, h⟩ := mw_bind h
      refine mw_aald F hK hI (t0 := 5) rfl e_v19 d_M_keep_65 ?_
      obtain ⟨S20, e_S20, h⟩ := mw_bind h
      refine mw_aast F hK hI (t0 := 5) (ci := 5) (q0 := cq_5) rfl rfl e_S20 d_M_keep_66 (fun H locs hI => ?_)
      refine mt_iinc (v := (x3 + 1)) F hl 3 rfl (by rw [show Int32.ofInt 1 = (1 : Int32) from by decide]) (Nat.le_of_ble_eq_true rfl) rfl d_M_keep_67 (fun ls hl => ?_)
      have hl : mt_L ls 4 [(3, (.inl (x3 + 1))), (0, (.inr (.inr (some b0)))), (1, (.inl x1)), (2, (.inr (.inr r2)))] := hl
      refine lv_goto (tgt := 47) F.1 F.2.1 d_M_keep_70 (by decide) ?_
      refine W.widen (k := 0) (n := 0) (Nat.le_of_ble_eq_true rfl) (Nat.le_of_ble_eq_true rfl) ?_
      exact ih _ _ _ _ _ _ _ hI (mt_sub hl [1, 2, 3, 0] rfl) h
set_option maxHeartbeats 4000000 in
set_option maxRecDepth 100000 in
theorem c_M_keep (l : Launch) (D : va_G) (dA : Nat → ClassId) (A : Nat → Prop) (b0 : Nat) (a1 : Int32) (S : mc_S) (out : mc_S) (hf : f_M_keep b0 a1 S = some out) : Met l y_M_keep (cd_M_keep :: ALL) rm_M_keep (va_Pc [va_rf (some b0), .int a1] (mw_B D dA CL (TY dA) ZZ A S)) (va_Qv (fun (_ : Unit) => True) (fun _ t => mw_R D dA CL A out t) A) 0 0 A := by
  refine mw_ofW (cc := b_M_keep) (maxL := 4) (ret := none) [(.inr (.inr (some b0))), (.inl a1)] rfl (by decide +kernel) (Nat.le_of_ble_eq_true rfl) (L := [(0, (.inr (.inr (some b0)))), (1, (.inl a1))]) rfl (fun p e s m args below meth c F hr hlk hnm hK ls hl hI => ?_)
  have h := hf
  unfold f_M_keep at h
  refine mt_aload_n F hl 0 rfl rfl d_M_keep_0 ?_
  obtain ⟨v1, e_v1, h⟩ := mw_bind h
  refine mw_getR F hK hI (in_4 _) (hc_4) 1 (by decide) (mA k_57) rfl e_v1 d_M_keep_1 ?_
  refine mt_aload_n F hl 0 rfl rfl d_M_keep_4 ?_
  obtain ⟨v2, e_v2, h⟩ := mw_bind h
  refine mw_getR F hK hI (in_4 _) (hc_4) 0 (by decide) (mA k_56) rfl e_v2 d_M_keep_5 ?_
  obtain ⟨b3, e_b3, h⟩ := mw_bind h
  obtain ⟨S4, e_S4, h⟩ := mw_bind h
  refine mw_callv hI (mw_runV F hK hI (c_N_copy l D dA A _ _ _ _ e_S4) (cwV 1 F.2.2.2.2 (gd_V k_207 k_208 k_209 k_210 k_53) rfl rfl rfl hd_N_copy ⟨Nat.le_of_ble_eq_true rfl, Nat.le_of_ble_eq_true rfl⟩) (hc_5) e_b3 rfl hl.1 rfl (Nat.zero_le _) d_M_keep_8 ⟨(Nat.le_of_ble_eq_true rfl), (Nat.le_of_ble_eq_true rfl)⟩) (fun H locs hI => ?_)
  refine mt_aload_n F hl 0 rfl rfl d_M_keep_11 ?_
  refine lv_dup F.1 F.2.1 d_M_keep_12 (mw_cat _) ?_
  obtain ⟨v5, e_v5, h⟩ := mw_bind h
  refine mw_getI F hK hI (in_4 _) (hc_4) 5 (by decide) (mA k_211) rfl e_v5 d_M_keep_13 ?_
  refine mt_iload_n F hl 1 rfl rfl d_M_keep_16 ?_
  refine lv_iadd F.1 F.2.1 d_M_keep_17 ?_
  obtain ⟨S6, e_S6, h⟩ := mw_bind h
  refine mw_put F hK hI (in_4 _) ty_4 ok_4 nm_4 (hc_4) 5 (by decide) (mA k_211) rfl rfl rfl rfl e_S6 d_M_keep_18 (fun H locs hI => ?_)
  refine mt_aload_n F hl 0 rfl rfl d_M_keep_21 ?_
  obtain ⟨v7, e_v7, h⟩ := mw_bind h
  refine mw_getI F hK hI (in_4 _) (hc_4) 4 (by decide) (mA k_212) rfl e_v7 d_M_keep_22 ?_
  refine lv_bipush (v := 8) F.1 F.2.1 d_M_keep_25 (by decide) ?_
  refine lv_icmp_ne (tgt := 91) F.1 F.2.1 d_M_keep_27 (by decide) (fun hc => ?_) (fun hc => ?_)
  · rw [if_neg hc] at h
    refine mt_aload_n F hl 0 rfl rfl d_M_keep_91 ?_
    obtain ⟨v8, e_v8, h⟩ := mw_bind h
    refine mw_getR F hK hI (in_4 _) (hc_4) 3 (by decide) (mA k_59) rfl e_v8 d_M_keep_92 ?_
    refine mt_aload_n F hl 0 rfl rfl d_M_keep_95 ?_
    obtain ⟨v9, e_v9, h⟩ := mw_bind h
    refine mw_getI F hK hI (in_4 _) (hc_4) 4 (by decide) (mA k_212) rfl e_v9 d_M_keep_96 ?_
    obtain ⟨v10, e_v10, h⟩ := mw_bind h
    refine mw_aald F hK hI (t0 := 5) rfl e_v10 d_M_keep_99 ?_
    refine mt_aload_n F hl 0 rfl rfl d_M_keep_100 ?_
    obtain ⟨v11, e_v11, h⟩ := mw_bind h
    refine mw_getR F hK hI (in_4 _) (hc_4) 0 (by decide) (mA k_56) rfl e_v11 d_M_keep_101 ?_
    obtain ⟨b12, e_b12, h⟩ := mw_bind h
    obtain ⟨S13, e_S13, h⟩ := mw_bind h
    refine mw_callv hI (mw_runV F hK hI (c_N_copy l D dA A _ _ _ _ e_S13) (cwV 1 F.2.2.2.2 (gd_V k_207 k_208 k_209 k_210 k_53) rfl rfl rfl hd_N_copy ⟨Nat.le_of_ble_eq_true rfl, Nat.le_of_ble_eq_true rfl⟩) (hc_5) e_b12 rfl hl.1 rfl (Nat.zero_le _) d_M_keep_104 ⟨(Nat.le_of_ble_eq_true rfl), (Nat.le_of_ble_eq_true rfl)⟩) (fun H locs hI => ?_)
    refine mt_aload_n F hl 0 rfl rfl d_M_keep_107 ?_
    obtain ⟨v14, e_v14, h⟩ := mw_bind h
    refine mw_getR F hK hI (in_4 _) (hc_4) 3 (by decide) (mA k_59) rfl e_v14 d_M_keep_108 ?_
    refine mt_aload_n F hl 0 rfl rfl d_M_keep_111 ?_
    obtain ⟨v15, e_v15, h⟩ := mw_bind h
    refine mw_getI F hK hI (in_4 _) (hc_4) 4 (by decide) (mA k_212) rfl e_v15 d_M_keep_112 ?_
    obtain ⟨v16, e_v16, h⟩ := mw_bind h
    refine mw_aald F hK hI (t0 := 5) rfl e_v16 d_M_keep_115 ?_
    refine mt_iload_n F hl 1 rfl rfl d_M_keep_116 ?_
    obtain ⟨S17, e_S17, h⟩ := mw_bind h
    refine mw_put F hK hI (in_5 _) ty_5 ok_5 nm_5 (hc_5) 7 (by decide) (mA k_213) rfl rfl rfl rfl e_S17 d_M_keep_117 (fun H locs hI => ?_)
    refine mt_aload_n F hl 0 rfl rfl d_M_keep_120 ?_
    refine lv_dup F.1 F.2.1 d_M_keep_121 (mw_cat _) ?_
    obtain ⟨v18, e_v18, h⟩ := mw_bind h
    refine mw_getI F hK hI (in_4 _) (hc_4) 4 (by decide) (mA k_212) rfl e_v18 d_M_keep_122 ?_
    refine lv_iconst (v := 1) F.1 F.2.1 d_M_keep_125 (by decide) ?_
    refine lv_iadd F.1 F.2.1 d_M_keep_126 ?_
    obtain ⟨S19, e_S19, h⟩ := mw_bind h
    refine mw_put F hK hI (in_4 _) ty_4 ok_4 nm_4 (hc_4) 4 (by decide) (mA k_212) rfl rfl rfl rfl e_S19 d_M_keep_127 (fun H locs hI => ?_)
    exact mw_vret F hI hr hlk h (Nat.le_of_ble_eq_true rfl) (Nat.le_of_ble_eq_true rfl) d_M_keep_130
  · rw [if_pos hc] at h
    refine mt_aload_n F hl 0 rfl rfl d_M_keep_30 ?_
    obtain ⟨v20, e_v20, h⟩ := mw_bind h
    refine mw_getR F hK hI (in_4 _) (hc_4) 3 (by decide) (mA k_59) rfl e_v20 d_M_keep_31 ?_
    refine lv_iconst (v := 0) F.1 F.2.1 d_M_keep_34 (by decide) ?_
    obtain ⟨v21, e_v21, h⟩ := mw_bind h
    refine mw_aald F hK hI (t0 := 5) rfl e_v21 d_M_keep_35 ?_
    refine mt_astore_n F hl rfl (Nat.le_of_ble_eq_true rfl) rfl d_M_keep_36 (fun ls hl => ?_)
    have hl : mt_L ls 4 [(2, (.inr (.inr v21))), (0, (.inr (.inr (some b0)))), (1, (.inl a1))] := hl
    refine mt_aload_n F hl 1 rfl rfl d_M_keep_37 ?_
    obtain ⟨v22, e_v22, h⟩ := mw_bind h
    refine mw_getR F hK hI (in_4 _) (hc_4) 2 (by decide) (mA k_58) rfl e_v22 d_M_keep_38 ?_
    refine mt_aload_n F hl 0 rfl rfl d_M_keep_41 ?_
    obtain ⟨b23, e_b23, h⟩ := mw_bind h
    obtain ⟨S24, e_S24, h⟩ := mw_bind h
    refine mw_callv hI (mw_runV F hK hI (c_N_copy l D dA A _ _ _ _ e_S24) (cwV 1 F.2.2.2.2 (gd_V k_207 k_208 k_209 k_210 k_53) rfl rfl rfl hd_N_copy ⟨Nat.le_of_ble_eq_true rfl, Nat.le_of_ble_eq_true rfl⟩) (hc_5) e_b23 rfl hl.1 rfl (Nat.zero_le _) d_M_keep_42 ⟨(Nat.le_of_ble_eq_true rfl), (Nat.le_of_ble_eq_true rfl)⟩) (fun H locs hI => ?_)
    refine lv_iconst (v := 1) F.1 F.2.1 d_M_keep_45 (by decide) ?_
    refine mt_istore_n F hl rfl (Nat.le_of_ble_eq_true rfl) rfl d_M_keep_46 (fun ls hl => ?_)
    have hl : mt_L ls 4 [(3, (.inl 1)), (2, (.inr (.inr v21))), (0, (.inr (.inr (some b0)))), (1, (.inl a1))] := hl
    refine W.widen (k := 0) (n := 0) (Nat.le_of_ble_eq_true rfl) (Nat.le_of_ble_eq_true rfl) ?_
    exact (s_M_keep l D dA A b0 F hr hlk hnm hK out 5000) _ _ _ _ _ _ _ hI (mt_sub hl [2, 3, 1, 0] rfl) h
abbrev rm_M_commit : Room := { frames := 3, cells := 0, slots := 0, locals := 62 }
set_option maxHeartbeats 4000000 in
set_option maxRecDepth 100000 in
theorem c_M_commit (l : Launch) (D : va_G) (dA : Nat → ClassId) (A : Nat → Prop) (b0 : Nat) (S : mc_S) (out : (Int32 × mc_S)) (hf : f_M_commit b0 S = some out) : Met l y_M_commit (cd_M_commit :: ALL) rm_M_commit (va_Pc [va_rf (some b0)] (mw_B D dA CL (TY dA) ZZ A S)) (va_Qi (fun x (_ : Unit) => x = out.1) (fun _ t => mw_R D dA CL A out.2 t) A) 0 0 A := by
  refine mw_ofW (cc := b_M_commit) (maxL := 2) (ret := (some .int)) [(.inr (.inr (some b0)))] rfl (by decide +kernel) (Nat.le_of_ble_eq_true rfl) (L := [(0, (.inr (.inr (some b0))))]) rfl (fun p e s m args below meth c F hr hlk hnm hK ls hl hI => ?_)
  have h := hf
  unfold f_M_commit at h
  refine lv_bipush (v := 8) F.1 F.2.1 d_M_commit_0 (by decide) ?_
  refine mt_aload_n F hl 0 rfl rfl d_M_commit_2 ?_
  obtain ⟨v1, e_v1, h⟩ := mw_bind h
  refine mw_getR F hK hI (in_4 _) (hc_4) 0 (by decide) (mA k_56) rfl e_v1 d_M_commit_3 ?_
  refine mt_aload_n F hl 0 rfl rfl d_M_commit_6 ?_
  obtain ⟨v2, e_v2, h⟩ := mw_bind h
  refine mw_getR F hK hI (in_4 _) (hc_4) 1 (by decide) (mA k_57) rfl e_v2 d_M_commit_7 ?_
  obtain ⟨b3, e_b3, h⟩ := mw_bind h
  obtain ⟨o4, e_o4, h⟩ := mw_bind h
  refine mw_calli hI (mw_runV F hK hI (c_N_bytesBehind l D dA A _ _ _ _ e_o4) (cwV 1 F.2.2.2.2 (gd_V k_214 k_215 k_216 k_217 k_53) rfl rfl rfl hd_N_bytesBehind ⟨Nat.le_of_ble_eq_true rfl, Nat.le_of_ble_eq_true rfl⟩) (hc_5) e_b3 rfl hl.1 rfl (by simp [mw_cat, mw_cI, mw_cL]) d_M_commit_10 ⟨(Nat.le_of_ble_eq_true rfl), (Nat.le_of_ble_eq_true rfl)⟩) (fun H locs hI => ?_)
  refine lv_iadd F.1 F.2.1 d_M_commit_13 ?_
  refine mt_istore_n F hl rfl (Nat.le_of_ble_eq_true rfl) rfl d_M_commit_14 (fun ls hl => ?_)
  have hl : mt_L ls 2 [(1, (.inl (8 + o4.1))), (0, (.inr (.inr (some b0))))] := hl
  refine mt_aload_n F hl 1 rfl rfl d_M_commit_15 ?_
  refine mt_iload_n F hl 0 rfl rfl d_M_commit_16 ?_
  obtain ⟨b5, e_b5, h⟩ := mw_bind h
  obtain ⟨S6, e_S6, h⟩ := mw_bind h
  refine mw_callv hI (mw_runV F hK hI (c_M_keep l D dA A _ _ _ _ e_S6) (cwV 1 F.2.2.2.2 (gd_V k_218 k_219 k_220 k_221 k_130) rfl rfl rfl hd_M_keep ⟨Nat.le_of_ble_eq_true rfl, Nat.le_of_ble_eq_true rfl⟩) (hc_4) e_b5 rfl hl.1 rfl (Nat.zero_le _) d_M_commit_17 ⟨(Nat.le_of_ble_eq_true rfl), (Nat.le_of_ble_eq_true rfl)⟩) (fun H locs hI => ?_)
  refine mt_iload_n F hl 0 rfl rfl d_M_commit_20 ?_
  exact mw_iret F hI hr hlk h (Nat.le_of_ble_eq_true rfl) (Nat.le_of_ble_eq_true rfl) d_M_commit_21
abbrev rm_K_undo : Room := { frames := 4, cells := 0, slots := 0, locals := 91 }
set_option maxHeartbeats 4000000 in
set_option maxRecDepth 100000 in
theorem c_K_undo (l : Launch) (D : va_G) (dA : Nat → ClassId) (A : Nat → Prop) (b0 : Nat) (S : mc_S) (out : (Int32 × mc_S)) (hf : f_K_undo b0 S = some out) : Met l y_K_undo (cd_K_undo :: ALL) rm_K_undo (va_Pc [va_rf (some b0)] (mw_B D dA CL (TY dA) ZZ A S)) (va_Qi (fun x (_ : Unit) => x = out.1) (fun _ t => mw_R D dA CL A out.2 t) A) 0 0 A := by
  refine mw_ofW (cc := b_K_undo) (maxL := 2) (ret := (some .int)) [(.inr (.inr (some b0)))] rfl (by decide +kernel) (Nat.le_of_ble_eq_true rfl) (L := [(0, (.inr (.inr (some b0))))]) rfl (fun p e s m args below meth c F hr hlk hnm hK ls hl hI => ?_)
  have h := hf
  unfold f_K_undo at h
  refine mt_aload_n F hl 0 rfl rfl d_K_undo_0 ?_
  obtain ⟨b1, e_b1, h⟩ := mw_bind h
  obtain ⟨o2, e_o2, h⟩ := mw_bind h
  refine mw_calli hI (mw_runV F hK hI (c_K_changedBytes l D dA A _ _ _ e_o2) (cwV 0 F.2.2.2.2 (gd_V k_193 k_194 k_195 k_196 k_78) rfl rfl rfl hd_K_changedBytes ⟨Nat.le_of_ble_eq_true rfl, Nat.le_of_ble_eq_true rfl⟩) (hc_0) e_b1 rfl hl.1 rfl (Nat.zero_le _) d_K_undo_1 ⟨(Nat.le_of_ble_eq_true rfl), (Nat.le_of_ble_eq_true rfl)⟩) (fun H locs hI => ?_)
  refine mt_istore_n F hl rfl (Nat.le_of_ble_eq_true rfl) rfl d_K_undo_4 (fun ls hl => ?_)
  have hl : mt_L ls 2 [(1, (.inl o2.1)), (0, (.inr (.inr (some b0))))] := hl
  refine mt_aload_n F hl 1 rfl rfl d_K_undo_5 ?_
  obtain ⟨v3, e_v3, h⟩ := mw_bind h
  refine mw_getR F hK hI (in_0 _) (hc_0) 0 (by decide) (mA k_42) rfl e_v3 d_K_undo_6 ?_
  refine mt_aload_n F hl 1 rfl rfl d_K_undo_9 ?_
  obtain ⟨b4, e_b4, h⟩ := mw_bind h
  obtain ⟨o5, e_o5, h⟩ := mw_bind h
  refine mw_callq hI (mw_runV F hK hI (c_K_kept l D dA A _ _ _ e_o5) (cwV 0 F.2.2.2.2 (gd_V k_89 k_90 k_91 k_92 k_78) rfl rfl rfl hd_K_kept ⟨Nat.le_of_ble_eq_true rfl, Nat.le_of_ble_eq_true rfl⟩) (hc_0) e_b4 rfl hl.1 rfl (by simp [mw_cat, mw_cI, mw_cL]) d_K_undo_10 ⟨(Nat.le_of_ble_eq_true rfl), (Nat.le_of_ble_eq_true rfl)⟩) (fun H locs hI => ?_)
  obtain ⟨b6, e_b6, h⟩ := mw_bind h
  obtain ⟨S7, e_S7, h⟩ := mw_bind h
  refine mw_callv hI (mw_runV F hK hI (c_T_become l D dA A _ _ _ _ e_S7) (cwV 1 F.2.2.2.2 (gd_V k_189 k_190 k_191 k_192 k_38) rfl rfl rfl hd_T_become ⟨Nat.le_of_ble_eq_true rfl, Nat.le_of_ble_eq_true rfl⟩) (hc_2) e_b6 rfl hl.1 rfl (Nat.zero_le _) d_K_undo_13 ⟨(Nat.le_of_ble_eq_true rfl), (Nat.le_of_ble_eq_true rfl)⟩) (fun H locs hI => ?_)
  refine mt_iload_n F hl 0 rfl rfl d_K_undo_16 ?_
  exact mw_iret F hI hr hlk h (Nat.le_of_ble_eq_true rfl) (Nat.le_of_ble_eq_true rfl) d_K_undo_17
end
section
abbrev rm_M_undo : Room := { frames := 2, cells := 0, slots := 0, locals := 47 }
set_option maxHeartbeats 4000000 in
set_option maxRecDepth 100000 in
theorem c_M_undo (l : Launch) (D : va_G) (dA : Nat → ClassId) (A : Nat → Prop) (b0 : Nat) (S : mc_S) (out : (Int32 × mc_S)) (hf : f_M_undo b0 S = some out) : Met l y_M_undo (cd_M_undo :: ALL) rm_M_undo (va_Pc [va_rf (some b0)] (mw_B D dA CL (TY dA) ZZ A S)) (va_Qi (fun x (_ : Unit) => x = out.1) (fun _ t => mw_R D dA CL A out.2 t) A) 0 0 A := by
  refine mw_ofW (cc := b_M_undo) (maxL := 2) (ret := (some .int)) [(.inr (.inr (some b0)))] rfl (by decide +kernel) (Nat.le_of_ble_eq_true rfl) (L := [(0, (.inr (.inr (some b0))))]) rfl (fun p e s m args below meth c F hr hlk hnm hK ls hl hI => ?_)
  have h := hf
  unfold f_M_undo at h
  refine mt_aload_n F hl 0 rfl rfl d_M_undo_0 ?_
  obtain ⟨v1, e_v1, h⟩ := mw_bind h
  refine mw_getR F hK hI (in_4 _) (hc_4) 0 (by decide) (mA k_56) rfl e_v1 d_M_undo_1 ?_
  refine mt_aload_n F hl 0 rfl rfl d_M_undo_4 ?_
  obtain ⟨v2, e_v2, h⟩ := mw_bind h
  refine mw_getR F hK hI (in_4 _) (hc_4) 1 (by decide) (mA k_57) rfl e_v2 d_M_undo_5 ?_
  obtain ⟨b3, e_b3, h⟩ := mw_bind h
  obtain ⟨o4, e_o4, h⟩ := mw_bind h
  refine mw_calli hI (mw_runV F hK hI (c_N_bytesBehind l D dA A _ _ _ _ e_o4) (cwV 1 F.2.2.2.2 (gd_V k_214 k_215 k_216 k_217 k_53) rfl rfl rfl hd_N_bytesBehind ⟨Nat.le_of_ble_eq_true rfl, Nat.le_of_ble_eq_true rfl⟩) (hc_5) e_b3 rfl hl.1 rfl (Nat.zero_le _) d_M_undo_8 ⟨(Nat.le_of_ble_eq_true rfl), (Nat.le_of_ble_eq_true rfl)⟩) (fun H locs hI => ?_)
  refine mt_istore_n F hl rfl (Nat.le_of_ble_eq_true rfl) rfl d_M_undo_11 (fun ls hl => ?_)
  have hl : mt_L ls 2 [(1, (.inl o4.1)), (0, (.inr (.inr (some b0))))] := hl
  refine mt_aload_n F hl 1 rfl rfl d_M_undo_12 ?_
  obtain ⟨v5, e_v5, h⟩ := mw_bind h
  refine mw_getR F hK hI (in_4 _) (hc_4) 0 (by decide) (mA k_56) rfl e_v5 d_M_undo_13 ?_
  refine mt_aload_n F hl 1 rfl rfl d_M_undo_16 ?_
  obtain ⟨v6, e_v6, h⟩ := mw_bind h
  refine mw_getR F hK hI (in_4 _) (hc_4) 1 (by decide) (mA k_57) rfl e_v6 d_M_undo_17 ?_
  obtain ⟨b7, e_b7, h⟩ := mw_bind h
  obtain ⟨S8, e_S8, h⟩ := mw_bind h
  refine mw_callv hI (mw_runV F hK hI (c_N_copy l D dA A _ _ _ _ e_S8) (cwV 1 F.2.2.2.2 (gd_V k_207 k_208 k_209 k_210 k_53) rfl rfl rfl hd_N_copy ⟨Nat.le_of_ble_eq_true rfl, Nat.le_of_ble_eq_true rfl⟩) (hc_5) e_b7 rfl hl.1 rfl (Nat.zero_le _) d_M_undo_20 ⟨(Nat.le_of_ble_eq_true rfl), (Nat.le_of_ble_eq_true rfl)⟩) (fun H locs hI => ?_)
  refine mt_iload_n F hl 0 rfl rfl d_M_undo_23 ?_
  exact mw_iret F hI hr hlk h (Nat.le_of_ble_eq_true rfl) (Nat.le_of_ble_eq_true rfl) d_M_undo_24
abbrev rm_R_enqueue : Room := { frames := 0, cells := 0, slots := 0, locals := 0 }
set_option maxHeartbeats 4000000 in
set_option maxRecDepth 100000 in
theorem c_R_enqueue (l : Launch) (D : va_G) (dA : Nat → ClassId) (A : Nat → Prop) (b0 : Nat) (a1 : Int32) (S : mc_S) (out : mc_S) (hf : f_R_enqueue b0 a1 S = some out) : Met l y_R_enqueue (cd_R_enqueue :: ALL) rm_R_enqueue (va_Pc [va_rf (some b0), .int a1] (mw_B D dA CL (TY dA) ZZ A S)) (va_Qv (fun (_ : Unit) => True) (fun _ t => mw_R D dA CL A out t) A) 0 0 A := by
  refine mw_ofW (cc := b_R_enqueue) (maxL := 2) (ret := none) [(.inr (.inr (some b0))), (.inl a1)] rfl (by decide +kernel) (Nat.le_of_ble_eq_true rfl) (L := [(0, (.inr (.inr (some b0)))), (1, (.inl a1))]) rfl (fun p e s m args below meth c F hr hlk hnm hK ls hl hI => ?_)
  have h := hf
  unfold f_R_enqueue at h
  refine mt_aload_n F hl 0 rfl rfl d_R_enqueue_0 ?_
  obtain ⟨v1, e_v1, h⟩ := mw_bind h
  refine mw_getR F hK hI (in_3 _) (hc_3) 0 (by decide) (mA k_4) rfl e_v1 d_R_enqueue_1 ?_
  refine mt_iload_n F hl 1 rfl rfl d_R_enqueue_4 ?_
  obtain ⟨v2, e_v2, h⟩ := mw_bind h
  refine mw_zald F hK hI (t0 := 2) rfl e_v2 d_R_enqueue_5 ?_
  refine lv_if_ne (tgt := 36) F.1 F.2.1 d_R_enqueue_6 (by decide) (fun hc => ?_) (fun hc => ?_)
  · rw [if_neg hc] at h
    exact mw_vret F hI hr hlk h (Nat.le_of_ble_eq_true rfl) (Nat.le_of_ble_eq_true rfl) d_R_enqueue_36
  · rw [if_pos hc] at h
    refine mt_aload_n F hl 0 rfl rfl d_R_enqueue_9 ?_
    obtain ⟨v3, e_v3, h⟩ := mw_bind h
    refine mw_getR F hK hI (in_3 _) (hc_3) 0 (by decide) (mA k_4) rfl e_v3 d_R_enqueue_10 ?_
    refine mt_iload_n F hl 1 rfl rfl d_R_enqueue_13 ?_
    refine lv_iconst (v := 1) F.1 F.2.1 d_R_enqueue_14 (by decide) ?_
    obtain ⟨S4, e_S4, h⟩ := mw_bind h
    refine mw_zast F hK hI (t0 := 2) rfl rfl e_S4 d_R_enqueue_15 (fun H locs hI => ?_)
    refine mt_aload_n F hl 0 rfl rfl d_R_enqueue_16 ?_
    obtain ⟨v5, e_v5, h⟩ := mw_bind h
    refine mw_getR F hK hI (in_3 _) (hc_3) 1 (by decide) (mA k_6) rfl e_v5 d_R_enqueue_17 ?_
    refine mt_aload_n F hl 0 rfl rfl d_R_enqueue_20 ?_
    obtain ⟨v6, e_v6, h⟩ := mw_bind h
    refine mw_getI F hK hI (in_3 _) (hc_3) 2 (by decide) (mA k_7) rfl e_v6 d_R_enqueue_21 ?_
    refine mt_iload_n F hl 1 rfl rfl d_R_enqueue_24 ?_
    obtain ⟨S7, e_S7, h⟩ := mw_bind h
    refine mw_iast F hK hI (t0 := 0) rfl e_S7 d_R_enqueue_25 (fun H locs hI => ?_)
    refine mt_aload_n F hl 0 rfl rfl d_R_enqueue_26 ?_
    refine lv_dup F.1 F.2.1 d_R_enqueue_27 (mw_cat _) ?_
    obtain ⟨v8, e_v8, h⟩ := mw_bind h
    refine mw_getI F hK hI (in_3 _) (hc_3) 2 (by decide) (mA k_7) rfl e_v8 d_R_enqueue_28 ?_
    refine lv_iconst (v := 1) F.1 F.2.1 d_R_enqueue_31 (by decide) ?_
    refine lv_iadd F.1 F.2.1 d_R_enqueue_32 ?_
    obtain ⟨S9, e_S9, h⟩ := mw_bind h
    refine mw_put F hK hI (in_3 _) ty_3 ok_3 nm_3 (hc_3) 2 (by decide) (mA k_7) rfl rfl rfl rfl e_S9 d_R_enqueue_33 (fun H locs hI => ?_)
    exact mw_vret F hI hr hlk h (Nat.le_of_ble_eq_true rfl) (Nat.le_of_ble_eq_true rfl) d_R_enqueue_36
abbrev rm_R_enqueueAll : Room := { frames := 1, cells := 0, slots := 0, locals := 21 }
set_option maxHeartbeats 4000000 in
set_option maxRecDepth 100000 in
theorem s_R_enqueueAll (l : Launch) (D : va_G) (dA : Nat → ClassId) (A : Nat → Prop) (b0 : Nat) {p : Program} {e : Env} {s : State} {m : MethodId} {args : Array Value} {below : List Frame} {meth : Method} {c : Code} (F : CallFix p m c b_R_enqueueAll 5 s args (cd_R_enqueueAll :: ALL) y_R_enqueueAll.cls) (hr : meth.sig.returnType = none) (hlk : meth.locks = false) (hnm : meth.name = y_R_enqueueAll.name) (hK : mw_K D CL (TY dA) ZZ s) (out : mc_S) : ∀ n : Nat, (∀ (r1 : Option Nat) (x2 : Int32) (S : mc_S) (H : Heap) (locs : List Loc) (ls : Array Slot), mw_I D dA CL A S s.heap H locs → mt_L ls 5 [(0, (.inr (.inr (some b0)))), (1, (.inr (.inr r1))), (2, (.inl x2))] → g_R_enqueueAll b0 n r1 x2 S = some out → W p l e rm_R_enqueueAll s m args below meth c H locs (0) (0) (MQ below (va_Qv (fun (_ : Unit) => True) (fun _ t => mw_R D dA CL A out t) A) args s 0 0 A) (F0 m 7 ls [])) := by
  intro n
  induction n with
  | zero =>
    intro r1 x2 S H locs ls hI hl h; have h : (none : Option mc_S) = some out := h; cases h
  | succ k0 ih =>
    intro r1 x2 S H locs ls hI hl h
    have h : q_R_enqueueAll_0 b0 (g_R_enqueueAll b0 k0) r1 x2 S = some out := h
    unfold q_R_enqueueAll_0 at h
    refine mt_iload_n F hl 2 rfl rfl d_R_enqueueAll_7 ?_
    refine mt_aload_n F hl 1 rfl rfl d_R_enqueueAll_8 ?_
    obtain ⟨v1, e_v1, h⟩ := mw_bind h
    refine mw_getI F hK hI (in_1 _) (hc_1) 3 (by decide) (mA k_222) rfl e_v1 d_R_enqueueAll_9 ?_
    refine lv_icmp_ge (tgt := 52) F.1 F.2.1 d_R_enqueueAll_12 (by decide) (fun hc => ?_) (fun hc => ?_)
    · rw [if_pos hc] at h
      exact mw_vret F hI hr hlk h (Nat.le_of_ble_eq_true rfl) (Nat.le_of_ble_eq_true rfl) d_R_enqueueAll_52
    · rw [if_neg hc] at h
      refine mt_aload_n F hl 1 rfl rfl d_R_enqueueAll_15 ?_
      obtain ⟨v2, e_v2, h⟩ := mw_bind h
      refine mw_getR F hK hI (in_1 _) (hc_1) 2 (by decide) (mA k_223) rfl e_v2 d_R_enqueueAll_16 ?_
      refine mt_iload_n F hl 2 rfl rfl d_R_enqueueAll_19 ?_
      obtain ⟨v3, e_v3, h⟩ := mw_bind h
      refine mw_lald F hK hI (t0 := 1) rfl e_v3 d_R_enqueueAll_20 ?_
      refine lv_ldc2 (v := 1099511627777) F.1 F.2.1 F.2.2.2.1 (F.2.2.2.2 _ (mA k_224)) d_R_enqueueAll_21 ?_
      refine lv_lsub F.1 F.2.1 d_R_enqueueAll_24 ?_
      refine mt_lstore_n F hl rfl (Nat.le_of_ble_eq_true rfl) rfl d_R_enqueueAll_25 (fun ls hl => ?_)
      have hl : mt_L ls 5 [(3, (.inr (.inl (v3 - 1099511627777)))), (0, (.inr (.inr (some b0)))), (1, (.inr (.inr r1))), (2, (.inl x2))] := hl
      refine mt_lload_n F hl 0 rfl rfl d_R_enqueueAll_26 ?_
      refine lv_lconst (v := 0) F.1 F.2.1 d_R_enqueueAll_27 (by decide) ?_
      refine W.lcmp F.1 F.2.1 d_R_enqueueAll_28 ?_
      refine lv_if_lt (tgt := 46) F.1 F.2.1 d_R_enqueueAll_29 (by decide) (fun hc => ?_) (fun hc => ?_)
      · rw [if_pos hc] at h
        refine mt_iinc (v := (x2 + 1)) F hl 3 rfl (by rw [show Int32.ofInt 1 = (1 : Int32) from by decide]) (Nat.le_of_ble_eq_true rfl) rfl d_R_enqueueAll_46 (fun ls hl => ?_)
        have hl : mt_L ls 5 [(2, (.inl (x2 + 1))), (3, (.inr (.inl (v3 - 1099511627777)))), (0, (.inr (.inr (some b0)))), (1, (.inr (.inr r1)))] := hl
        refine lv_goto (tgt := 7) F.1 F.2.1 d_R_enqueueAll_49 (by decide) ?_
        refine W.widen (k := 0) (n := 0) (Nat.le_of_ble_eq_true rfl) (Nat.le_of_ble_eq_true rfl) ?_
        exact ih _ _ _ _ _ _ hI (mt_sub hl [2, 3, 0] rfl) h
      · rw [if_neg hc] at h
        refine mt_lload_n F hl 0 rfl rfl d_R_enqueueAll_32 ?_
        refine lv_ldc2 (v := 100) F.1 F.2.1 F.2.2.2.1 (F.2.2.2.2 _ (mA k_225)) d_R_enqueueAll_33 ?_
        refine W.lcmp F.1 F.2.1 d_R_enqueueAll_36 ?_
        refine lv_if_ge (tgt := 46) F.1 F.2.1 d_R_enqueueAll_37 (by decide) (fun hc => ?_) (fun hc => ?_)
        · rw [if_pos hc] at h
          refine mt_iinc (v := (x2 + 1)) F hl 3 rfl (by rw [show Int32.ofInt 1 = (1 : Int32) from by decide]) (Nat.le_of_ble_eq_true rfl) rfl d_R_enqueueAll_46 (fun ls hl => ?_)
          have hl : mt_L ls 5 [(2, (.inl (x2 + 1))), (3, (.inr (.inl (v3 - 1099511627777)))), (0, (.inr (.inr (some b0)))), (1, (.inr (.inr r1)))] := hl
          refine lv_goto (tgt := 7) F.1 F.2.1 d_R_enqueueAll_49 (by decide) ?_
          refine W.widen (k := 0) (n := 0) (Nat.le_of_ble_eq_true rfl) (Nat.le_of_ble_eq_true rfl) ?_
          exact ih _ _ _ _ _ _ hI (mt_sub hl [2, 3, 0] rfl) h
        · rw [if_neg hc] at h
          refine mt_aload_n F hl 1 rfl rfl d_R_enqueueAll_40 ?_
          refine mt_lload_n F hl 0 rfl rfl d_R_enqueueAll_41 ?_
          refine lv_l2i F.1 F.2.1 d_R_enqueueAll_42 rfl ?_
          obtain ⟨b4, e_b4, h⟩ := mw_bind h
          obtain ⟨S5, e_S5, h⟩ := mw_bind h
          refine mw_callv hI (mw_runV F hK hI (c_R_enqueue l D dA A _ _ _ _ e_S5) (cwV 1 F.2.2.2.2 (gd_V k_226 k_227 k_228 k_229 k_24) rfl rfl rfl hd_R_enqueue ⟨Nat.le_of_ble_eq_true rfl, Nat.le_of_ble_eq_true rfl⟩) (hc_3) e_b4 rfl hl.1 rfl (Nat.zero_le _) d_R_enqueueAll_43 ⟨(Nat.le_of_ble_eq_true rfl), (Nat.le_of_ble_eq_true rfl)⟩) (fun H locs hI => ?_)
          refine mt_iinc (v := (x2 + 1)) F hl 3 rfl (by rw [show Int32.ofInt 1 = (1 : Int32) from by decide]) (Nat.le_of_ble_eq_true rfl) rfl d_R_enqueueAll_46 (fun ls hl => ?_)
          have hl : mt_L ls 5 [(2, (.inl (x2 + 1))), (3, (.inr (.inl (v3 - 1099511627777)))), (0, (.inr (.inr (some b0)))), (1, (.inr (.inr r1)))] := hl
          refine lv_goto (tgt := 7) F.1 F.2.1 d_R_enqueueAll_49 (by decide) ?_
          refine W.widen (k := 0) (n := 0) (Nat.le_of_ble_eq_true rfl) (Nat.le_of_ble_eq_true rfl) ?_
          exact ih _ _ _ _ _ _ hI (mt_sub hl [2, 3, 0] rfl) h
set_option maxHeartbeats 4000000 in
set_option maxRecDepth 100000 in
theorem c_R_enqueueAll (l : Launch) (D : va_G) (dA : Nat → ClassId) (A : Nat → Prop) (b0 : Nat) (a1 : Option Nat) (S : mc_S) (out : mc_S) (hf : f_R_enqueueAll b0 a1 S = some out) : Met l y_R_enqueueAll (cd_R_enqueueAll :: ALL) rm_R_enqueueAll (va_Pc [va_rf (some b0), va_rf a1] (mw_B D dA CL (TY dA) ZZ A S)) (va_Qv (fun (_ : Unit) => True) (fun _ t => mw_R D dA CL A out t) A) 0 0 A := by
  refine mw_ofW (cc := b_R_enqueueAll) (maxL := 5) (ret := none) [(.inr (.inr (some b0))), (.inr (.inr a1))] rfl (by decide +kernel) (Nat.le_of_ble_eq_true rfl) (L := [(0, (.inr (.inr (some b0)))), (1, (.inr (.inr a1)))]) rfl (fun p e s m args below meth c F hr hlk hnm hK ls hl hI => ?_)
  have h := hf
  unfold f_R_enqueueAll at h
  refine mt_aload_n F hl 1 rfl rfl d_R_enqueueAll_0 ?_
  refine mw_ifnonnull (tgt := 5) F d_R_enqueueAll_1 (by decide) (fun hc => ?_) (fun hc => ?_)
  · rw [if_neg hc] at h
    refine lv_iconst (v := 0) F.1 F.2.1 d_R_enqueueAll_5 (by decide) ?_
    refine mt_istore_n F hl rfl (Nat.le_of_ble_eq_true rfl) rfl d_R_enqueueAll_6 (fun ls hl => ?_)
    have hl : mt_L ls 5 [(2, (.inl 0)), (0, (.inr (.inr (some b0)))), (1, (.inr (.inr a1)))] := hl
    refine W.widen (k := 0) (n := 0) (Nat.le_of_ble_eq_true rfl) (Nat.le_of_ble_eq_true rfl) ?_
    exact (s_R_enqueueAll l D dA A b0 F hr hlk hnm hK out 5000) _ _ _ _ _ _ hI (mt_sub hl [1, 2, 0] rfl) h
  · rw [if_pos hc] at h
    exact mw_vret F hI hr hlk h (Nat.le_of_ble_eq_true rfl) (Nat.le_of_ble_eq_true rfl) d_R_enqueueAll_4
abbrev rm_R_walk : Room := { frames := 2, cells := 0, slots := 0, locals := 45 }
set_option maxHeartbeats 4000000 in
set_option maxRecDepth 100000 in
theorem s_R_walk (l : Launch) (D : va_G) (dA : Nat → ClassId) (A : Nat → Prop) (b0 : Nat) {p : Program} {e : Env} {s : State} {m : MethodId} {args : Array Value} {below : List Frame} {meth : Method} {c : Code} (F : CallFix p m c b_R_walk 3 s args (cd_R_walk :: ALL) y_R_walk.cls) (hr : meth.sig.returnType = none) (hlk : meth.locks = false) (hnm : meth.name = y_R_walk.name) (hK : mw_K D CL (TY dA) ZZ s) (out : mc_S) : ∀ n : Nat, (∀ (r1 : Option Nat) (x2 : Int32) (S : mc_S) (H : Heap) (locs : List Loc) (ls : Array Slot), mw_I D dA CL A S s.heap H locs → mt_L ls 3 [(0, (.inr (.inr (some b0)))), (1, (.inr (.inr r1))), (2, (.inl x2))] → g_R_walk b0 n 0 r1 x2 S = some out → W p l e rm_R_walk s m args below meth c H locs (0) (0) (MQ below (va_Qv (fun (_ : Unit) => True) (fun _ t => mw_R D dA CL A out t) A) args s 0 0 A) (F0 m 7 ls [])) ∧ (∀ (r1 : Option Nat) (x2 : Int32) (S : mc_S) (H : Heap) (locs : List Loc) (ls : Array Slot), mw_I D dA CL A S s.heap H locs → mt_L ls 3 [(0, (.inr (.inr (some b0)))), (1, (.inr (.inr r1))), (2, (.inl x2))] → g_R_walk b0 n 1 r1 x2 S = some out → W p l e rm_R_walk s m args below meth c H locs (0) (0) (MQ below (va_Qv (fun (_ : Unit) => True) (fun _ t => mw_R D dA CL A out t) A) args s 0 0 A) (F0 m 36 ls [])) := by
  intro n
  induction n with
  | zero =>
    refine ⟨?_, ?_⟩
    · intro r1 x2 S H locs ls hI hl h; have h : (none : Option mc_S) = some out := h; cases h
    · intro r1 x2 S H locs ls hI hl h; have h : (none : Option mc_S) = some out := h; cases h
  | succ k0 ih =>
    refine ⟨?_, ?_⟩
    · intro r1 x2 S H locs ls hI hl h
      have h : q_R_walk_0 b0 (g_R_walk b0 k0) r1 x2 S = some out := h
      unfold q_R_walk_0 at h
      refine mt_iload_n F hl 2 rfl rfl d_R_walk_7 ?_
      refine lv_bipush (v := 100) F.1 F.2.1 d_R_walk_8 (by decide) ?_
      refine lv_icmp_ge (tgt := 26) F.1 F.2.1 d_R_walk_10 (by decide) (fun hc => ?_) (fun hc => ?_)
      · rw [if_pos hc] at h
        refine mt_aload_n F hl 0 rfl rfl d_R_walk_26 ?_
        refine mt_aload_n F hl 1 rfl rfl d_R_walk_27 ?_
        obtain ⟨v1, e_v1, h⟩ := mw_bind h
        refine mw_getR F hK hI (in_2 _) (hc_2) 1 (by decide) (mA k_230) rfl e_v1 d_R_walk_28 ?_
        obtain ⟨b2, e_b2, h⟩ := mw_bind h
        obtain ⟨S3, e_S3, h⟩ := mw_bind h
        refine mw_callv hI (mw_runV F hK hI (c_R_enqueueAll l D dA A _ _ _ _ e_S3) (cwV 1 F.2.2.2.2 (gd_V k_231 k_232 k_233 k_234 k_24) rfl rfl rfl hd_R_enqueueAll ⟨Nat.le_of_ble_eq_true rfl, Nat.le_of_ble_eq_true rfl⟩) (hc_3) e_b2 rfl hl.1 rfl (Nat.zero_le _) d_R_walk_31 ⟨(Nat.le_of_ble_eq_true rfl), (Nat.le_of_ble_eq_true rfl)⟩) (fun H locs hI => ?_)
        refine lv_iconst (v := 0) F.1 F.2.1 d_R_walk_34 (by decide) ?_
        refine mt_istore_n F hl rfl (Nat.le_of_ble_eq_true rfl) rfl d_R_walk_35 (fun ls hl => ?_)
        have hl : mt_L ls 3 [(2, (.inl 0)), (0, (.inr (.inr (some b0)))), (1, (.inr (.inr r1)))] := hl
        refine W.widen (k := 0) (n := 0) (Nat.le_of_ble_eq_true rfl) (Nat.le_of_ble_eq_true rfl) ?_
        exact ih.2 _ _ _ _ _ _ hI (mt_sub hl [1, 2, 0] rfl) h
      · rw [if_neg hc] at h
        refine mt_aload_n F hl 0 rfl rfl d_R_walk_13 ?_
        obtain ⟨v4, e_v4, h⟩ := mw_bind h
        refine mw_getR F hK hI (in_3 _) (hc_3) 0 (by decide) (mA k_4) rfl e_v4 d_R_walk_14 ?_
        refine mt_iload_n F hl 2 rfl rfl d_R_walk_17 ?_
        refine lv_iconst (v := 0) F.1 F.2.1 d_R_walk_18 (by decide) ?_
        obtain ⟨S5, e_S5, h⟩ := mw_bind h
        refine mw_zast F hK hI (t0 := 2) rfl rfl e_S5 d_R_walk_19 (fun H locs hI => ?_)
        refine mt_iinc (v := (x2 + 1)) F hl 2 rfl (by rw [show Int32.ofInt 1 = (1 : Int32) from by decide]) (Nat.le_of_ble_eq_true rfl) rfl d_R_walk_20 (fun ls hl => ?_)
        have hl : mt_L ls 3 [(2, (.inl (x2 + 1))), (0, (.inr (.inr (some b0)))), (1, (.inr (.inr r1)))] := hl
        refine lv_goto (tgt := 7) F.1 F.2.1 d_R_walk_23 (by decide) ?_
        refine W.widen (k := 0) (n := 0) (Nat.le_of_ble_eq_true rfl) (Nat.le_of_ble_eq_true rfl) ?_
        exact ih.1 _ _ _ _ _ _ hI (mt_sub hl [1, 2, 0] rfl) h
    · intro r1 x2 S H locs ls hI hl h
      have h : q_R_walk_1 b0 (g_R_walk b0 k0) r1 x2 S = some out := h
      unfold q_R_walk_1 at h
      refine mt_iload_n F hl 2 rfl rfl d_R_walk_36 ?_
      refine mt_aload_n F hl 0 rfl rfl d_R_walk_37 ?_
      obtain ⟨v1, e_v1, h⟩ := mw_bind h
      refine mw_getI F hK hI (in_3 _) (hc_3) 2 (by decide) (mA k_7) rfl e_v1 d_R_walk_38 ?_
      refine lv_icmp_ge (tgt := 71) F.1 F.2.1 d_R_walk_41 (by decide) (fun hc => ?_) (fun hc => ?_)
      · rw [if_pos hc] at h
        exact mw_vret F hI hr hlk h (Nat.le_of_ble_eq_true rfl) (Nat.le_of_ble_eq_true rfl) d_R_walk_71
      · rw [if_neg hc] at h
        refine mt_iload_n F hl 2 rfl rfl d_R_walk_44 ?_
        refine lv_bipush (v := 100) F.1 F.2.1 d_R_walk_45 (by decide) ?_
        refine lv_icmp_ge (tgt := 71) F.1 F.2.1 d_R_walk_47 (by decide) (fun hc => ?_) (fun hc => ?_)
        · rw [if_pos hc] at h
          exact mw_vret F hI hr hlk h (Nat.le_of_ble_eq_true rfl) (Nat.le_of_ble_eq_true rfl) d_R_walk_71
        · rw [if_neg hc] at h
          refine mt_aload_n F hl 0 rfl rfl d_R_walk_50 ?_
          refine mt_aload_n F hl 1 rfl rfl d_R_walk_51 ?_
          obtain ⟨v2, e_v2, h⟩ := mw_bind h
          refine mw_getR F hK hI (in_2 _) (hc_2) 0 (by decide) (mA k_235) rfl e_v2 d_R_walk_52 ?_
          refine mt_aload_n F hl 0 rfl rfl d_R_walk_55 ?_
          obtain ⟨v3, e_v3, h⟩ := mw_bind h
          refine mw_getR F hK hI (in_3 _) (hc_3) 1 (by decide) (mA k_6) rfl e_v3 d_R_walk_56 ?_
          refine mt_iload_n F hl 2 rfl rfl d_R_walk_59 ?_
          obtain ⟨v4, e_v4, h⟩ := mw_bind h
          refine mw_iald F hK hI (t0 := 0) rfl e_v4 d_R_walk_60 ?_
          obtain ⟨v5, e_v5, h⟩ := mw_bind h
          refine mw_aald F hK hI (t0 := 3) rfl e_v5 d_R_walk_61 ?_
          obtain ⟨b6, e_b6, h⟩ := mw_bind h
          obtain ⟨S7, e_S7, h⟩ := mw_bind h
          refine mw_callv hI (mw_runV F hK hI (c_R_enqueueAll l D dA A _ _ _ _ e_S7) (cwV 1 F.2.2.2.2 (gd_V k_231 k_232 k_233 k_234 k_24) rfl rfl rfl hd_R_enqueueAll ⟨Nat.le_of_ble_eq_true rfl, Nat.le_of_ble_eq_true rfl⟩) (hc_3) e_b6 rfl hl.1 rfl (Nat.zero_le _) d_R_walk_62 ⟨(Nat.le_of_ble_eq_true rfl), (Nat.le_of_ble_eq_true rfl)⟩) (fun H locs hI => ?_)
          refine mt_iinc (v := (x2 + 1)) F hl 2 rfl (by rw [show Int32.ofInt 1 = (1 : Int32) from by decide]) (Nat.le_of_ble_eq_true rfl) rfl d_R_walk_65 (fun ls hl => ?_)
          have hl : mt_L ls 3 [(2, (.inl (x2 + 1))), (0, (.inr (.inr (some b0)))), (1, (.inr (.inr r1)))] := hl
          refine lv_goto (tgt := 36) F.1 F.2.1 d_R_walk_68 (by decide) ?_
          refine W.widen (k := 0) (n := 0) (Nat.le_of_ble_eq_true rfl) (Nat.le_of_ble_eq_true rfl) ?_
          exact ih.2 _ _ _ _ _ _ hI (mt_sub hl [1, 2, 0] rfl) h
set_option maxHeartbeats 4000000 in
set_option maxRecDepth 100000 in
theorem c_R_walk (l : Launch) (D : va_G) (dA : Nat → ClassId) (A : Nat → Prop) (b0 : Nat) (a1 : Option Nat) (S : mc_S) (out : mc_S) (hf : f_R_walk b0 a1 S = some out) : Met l y_R_walk (cd_R_walk :: ALL) rm_R_walk (va_Pc [va_rf (some b0), va_rf a1] (mw_B D dA CL (TY dA) ZZ A S)) (va_Qv (fun (_ : Unit) => True) (fun _ t => mw_R D dA CL A out t) A) 0 0 A := by
  refine mw_ofW (cc := b_R_walk) (maxL := 3) (ret := none) [(.inr (.inr (some b0))), (.inr (.inr a1))] rfl (by decide +kernel) (Nat.le_of_ble_eq_true rfl) (L := [(0, (.inr (.inr (some b0)))), (1, (.inr (.inr a1)))]) rfl (fun p e s m args below meth c F hr hlk hnm hK ls hl hI => ?_)
  have h := hf
  unfold f_R_walk at h
  refine mt_aload_n F hl 0 rfl rfl d_R_walk_0 ?_
  refine lv_iconst (v := 0) F.1 F.2.1 d_R_walk_1 (by decide) ?_
  obtain ⟨S1, e_S1, h⟩ := mw_bind h
  refine mw_put F hK hI (in_3 _) ty_3 ok_3 nm_3 (hc_3) 2 (by decide) (mA k_7) rfl rfl rfl rfl e_S1 d_R_walk_2 (fun H locs hI => ?_)
  refine lv_iconst (v := 0) F.1 F.2.1 d_R_walk_5 (by decide) ?_
  refine mt_istore_n F hl rfl (Nat.le_of_ble_eq_true rfl) rfl d_R_walk_6 (fun ls hl => ?_)
  have hl : mt_L ls 3 [(2, (.inl 0)), (0, (.inr (.inr (some b0)))), (1, (.inr (.inr a1)))] := hl
  refine W.widen (k := 0) (n := 0) (Nat.le_of_ble_eq_true rfl) (Nat.le_of_ble_eq_true rfl) ?_
  exact (s_R_walk l D dA A b0 F hr hlk hnm hK out 5000).1 _ _ _ _ _ _ hI (mt_sub hl [1, 2, 0] rfl) h
abbrev rm_R_dropUnreached : Room := { frames := 3, cells := 0, slots := 0, locals := 67 }
set_option maxHeartbeats 4000000 in
set_option maxRecDepth 100000 in
theorem s_R_dropUnreached (l : Launch) (D : va_G) (dA : Nat → ClassId) (A : Nat → Prop) (b0 : Nat) {p : Program} {e : Env} {s : State} {m : MethodId} {args : Array Value} {below : List Frame} {meth : Method} {c : Code} (F : CallFix p m c b_R_dropUnreached 4 s args (cd_R_dropUnreached :: ALL) y_R_dropUnreached.cls) (hr : meth.sig.returnType = (some .int)) (hlk : meth.locks = false) (hnm : meth.name = y_R_dropUnreached.name) (hK : mw_K D CL (TY dA) ZZ s) (out : (Int32 × mc_S)) : ∀ n : Nat, (∀ (r1 : Option Nat) (x2 : Int32) (x3 : Int32) (S : mc_S) (H : Heap) (locs : List Loc) (ls : Array Slot), mw_I D dA CL A S s.heap H locs → mt_L ls 4 [(0, (.inr (.inr (some b0)))), (1, (.inr (.inr r1))), (2, (.inl x2)), (3, (.inl x3))] → g_R_dropUnreached b0 n r1 x2 x3 S = some out → W p l e rm_R_dropUnreached s m args below meth c H locs (0) (0) (MQ below (va_Qi (fun x (_ : Unit) => x = out.1) (fun _ t => mw_R D dA CL A out.2 t) A) args s 0 0 A) (F0 m 9 ls [])) := by
  intro n
  induction n with
  | zero =>
    intro r1 x2 x3 S H locs ls hI hl h; have h : (none : Option (Int32 × mc_S)) = some out := h; cases h
  | succ k0 ih =>
    intro r1 x2 x3 S H locs ls hI hl h
    have h : q_R_dropUnreached_0 b0 (g_R_dropUnreached b0 k0) r1 x2 x3 S = some out := h
    unfold q_R_dropUnreached_0 at h
    refine mt_iload_n F hl 3 rfl rfl d_R_dropUnreached_9 ?_
    refine lv_bipush (v := 100) F.1 F.2.1 d_R_dropUnreached_10 (by decide) ?_
    refine lv_icmp_ge (tgt := 49) F.1 F.2.1 d_R_dropUnreached_12 (by decide) (fun hc => ?_) (fun hc => ?_)
    · rw [if_pos hc] at h
      refine mt_iload_n F hl 2 rfl rfl d_R_dropUnreached_49 ?_
      exact mw_iret F hI hr hlk h (Nat.le_of_ble_eq_true rfl) (Nat.le_of_ble_eq_true rfl) d_R_dropUnreached_50
    · rw [if_neg hc] at h
      refine mt_aload_n F hl 1 rfl rfl d_R_dropUnreached_15 ?_
      obtain ⟨v1, e_v1, h⟩ := mw_bind h
      refine mw_getR F hK hI (in_2 _) (hc_2) 0 (by decide) (mA k_235) rfl e_v1 d_R_dropUnreached_16 ?_
      refine mt_iload_n F hl 3 rfl rfl d_R_dropUnreached_19 ?_
      obtain ⟨v2, e_v2, h⟩ := mw_bind h
      refine mw_aald F hK hI (t0 := 3) rfl e_v2 d_R_dropUnreached_20 ?_
      refine mw_ifnull (tgt := 43) F d_R_dropUnreached_21 (by decide) (fun hc => ?_) (fun hc => ?_)
      · rw [if_pos hc] at h
        refine mt_iinc (v := (x3 + 1)) F hl 3 rfl (by rw [show Int32.ofInt 1 = (1 : Int32) from by decide]) (Nat.le_of_ble_eq_true rfl) rfl d_R_dropUnreached_43 (fun ls hl => ?_)
        have hl : mt_L ls 4 [(3, (.inl (x3 + 1))), (0, (.inr (.inr (some b0)))), (1, (.inr (.inr r1))), (2, (.inl x2))] := hl
        refine lv_goto (tgt := 9) F.1 F.2.1 d_R_dropUnreached_46 (by decide) ?_
        refine W.widen (k := 0) (n := 0) (Nat.le_of_ble_eq_true rfl) (Nat.le_of_ble_eq_true rfl) ?_
        exact ih _ _ _ _ _ _ _ hI (mt_sub hl [1, 2, 3, 0] rfl) h
      · rw [if_neg hc] at h
        refine mt_aload_n F hl 0 rfl rfl d_R_dropUnreached_24 ?_
        obtain ⟨v3, e_v3, h⟩ := mw_bind h
        refine mw_getR F hK hI (in_3 _) (hc_3) 0 (by decide) (mA k_4) rfl e_v3 d_R_dropUnreached_25 ?_
        refine mt_iload_n F hl 3 rfl rfl d_R_dropUnreached_28 ?_
        obtain ⟨v4, e_v4, h⟩ := mw_bind h
        refine mw_zald F hK hI (t0 := 2) rfl e_v4 d_R_dropUnreached_29 ?_
        refine lv_if_ne (tgt := 43) F.1 F.2.1 d_R_dropUnreached_30 (by decide) (fun hc => ?_) (fun hc => ?_)
        · rw [if_neg hc] at h
          refine mt_iinc (v := (x3 + 1)) F hl 3 rfl (by rw [show Int32.ofInt 1 = (1 : Int32) from by decide]) (Nat.le_of_ble_eq_true rfl) rfl d_R_dropUnreached_43 (fun ls hl => ?_)
          have hl : mt_L ls 4 [(3, (.inl (x3 + 1))), (0, (.inr (.inr (some b0)))), (1, (.inr (.inr r1))), (2, (.inl x2))] := hl
          refine lv_goto (tgt := 9) F.1 F.2.1 d_R_dropUnreached_46 (by decide) ?_
          refine W.widen (k := 0) (n := 0) (Nat.le_of_ble_eq_true rfl) (Nat.le_of_ble_eq_true rfl) ?_
          exact ih _ _ _ _ _ _ _ hI (mt_sub hl [1, 2, 3, 0] rfl) h
        · rw [if_pos hc] at h
          refine mt_aload_n F hl 1 rfl rfl d_R_dropUnreached_33 ?_
          obtain ⟨v5, e_v5, h⟩ := mw_bind h
          refine mw_getR F hK hI (in_2 _) (hc_2) 0 (by decide) (mA k_235) rfl e_v5 d_R_dropUnreached_34 ?_
          refine mt_iload_n F hl 3 rfl rfl d_R_dropUnreached_37 ?_
          refine mw_null F d_R_dropUnreached_38 ?_
          obtain ⟨S6, e_S6, h⟩ := mw_bind h
          refine mw_aast F hK hI (t0 := 3) (ci := 1) (q0 := cq_1) rfl rfl e_S6 d_R_dropUnreached_39 (fun H locs hI => ?_)
          refine mt_iinc (v := (x2 + 1)) F hl 2 rfl (by rw [show Int32.ofInt 1 = (1 : Int32) from by decide]) (Nat.le_of_ble_eq_true rfl) rfl d_R_dropUnreached_40 (fun ls hl => ?_)
          have hl : mt_L ls 4 [(2, (.inl (x2 + 1))), (0, (.inr (.inr (some b0)))), (1, (.inr (.inr r1))), (3, (.inl x3))] := hl
          refine mt_iinc (v := (x3 + 1)) F hl 3 rfl (by rw [show Int32.ofInt 1 = (1 : Int32) from by decide]) (Nat.le_of_ble_eq_true rfl) rfl d_R_dropUnreached_43 (fun ls hl => ?_)
          have hl : mt_L ls 4 [(3, (.inl (x3 + 1))), (2, (.inl (x2 + 1))), (0, (.inr (.inr (some b0)))), (1, (.inr (.inr r1)))] := hl
          refine lv_goto (tgt := 9) F.1 F.2.1 d_R_dropUnreached_46 (by decide) ?_
          refine W.widen (k := 0) (n := 0) (Nat.le_of_ble_eq_true rfl) (Nat.le_of_ble_eq_true rfl) ?_
          exact ih _ _ _ _ _ _ _ hI (mt_sub hl [2, 3, 1, 0] rfl) h
set_option maxHeartbeats 4000000 in
set_option maxRecDepth 100000 in
theorem c_R_dropUnreached (l : Launch) (D : va_G) (dA : Nat → ClassId) (A : Nat → Prop) (b0 : Nat) (a1 : Option Nat) (S : mc_S) (out : (Int32 × mc_S)) (hf : f_R_dropUnreached b0 a1 S = some out) : Met l y_R_dropUnreached (cd_R_dropUnreached :: ALL) rm_R_dropUnreached (va_Pc [va_rf (some b0), va_rf a1] (mw_B D dA CL (TY dA) ZZ A S)) (va_Qi (fun x (_ : Unit) => x = out.1) (fun _ t => mw_R D dA CL A out.2 t) A) 0 0 A := by
  refine mw_ofW (cc := b_R_dropUnreached) (maxL := 4) (ret := (some .int)) [(.inr (.inr (some b0))), (.inr (.inr a1))] rfl (by decide +kernel) (Nat.le_of_ble_eq_true rfl) (L := [(0, (.inr (.inr (some b0)))), (1, (.inr (.inr a1)))]) rfl (fun p e s m args below meth c F hr hlk hnm hK ls hl hI => ?_)
  have h := hf
  unfold f_R_dropUnreached at h
  refine mt_aload_n F hl 0 rfl rfl d_R_dropUnreached_0 ?_
  refine mt_aload_n F hl 1 rfl rfl d_R_dropUnreached_1 ?_
  obtain ⟨b1, e_b1, h⟩ := mw_bind h
  obtain ⟨S2, e_S2, h⟩ := mw_bind h
  refine mw_callv hI (mw_runV F hK hI (c_R_walk l D dA A _ _ _ _ e_S2) (cwV 1 F.2.2.2.2 (gd_V k_236 k_237 k_238 k_239 k_24) rfl rfl rfl hd_R_walk ⟨Nat.le_of_ble_eq_true rfl, Nat.le_of_ble_eq_true rfl⟩) (hc_3) e_b1 rfl hl.1 rfl (Nat.zero_le _) d_R_dropUnreached_2 ⟨(Nat.le_of_ble_eq_true rfl), (Nat.le_of_ble_eq_true rfl)⟩) (fun H locs hI => ?_)
  refine lv_iconst (v := 0) F.1 F.2.1 d_R_dropUnreached_5 (by decide) ?_
  refine mt_istore_n F hl rfl (Nat.le_of_ble_eq_true rfl) rfl d_R_dropUnreached_6 (fun ls hl => ?_)
  have hl : mt_L ls 4 [(2, (.inl 0)), (0, (.inr (.inr (some b0)))), (1, (.inr (.inr a1)))] := hl
  refine lv_iconst (v := 0) F.1 F.2.1 d_R_dropUnreached_7 (by decide) ?_
  refine mt_istore_n F hl rfl (Nat.le_of_ble_eq_true rfl) rfl d_R_dropUnreached_8 (fun ls hl => ?_)
  have hl : mt_L ls 4 [(3, (.inl 0)), (2, (.inl 0)), (0, (.inr (.inr (some b0)))), (1, (.inr (.inr a1)))] := hl
  refine W.widen (k := 0) (n := 0) (Nat.le_of_ble_eq_true rfl) (Nat.le_of_ble_eq_true rfl) ?_
  exact (s_R_dropUnreached l D dA A b0 F hr hlk hnm hK out 5000) _ _ _ _ _ _ _ hI (mt_sub hl [2, 3, 1, 0] rfl) h
abbrev rm_K_sweep : Room := { frames := 4, cells := 0, slots := 0, locals := 90 }
set_option maxHeartbeats 4000000 in
set_option maxRecDepth 100000 in
theorem c_K_sweep (l : Launch) (D : va_G) (dA : Nat → ClassId) (A : Nat → Prop) (b0 : Nat) (S : mc_S) (out : (Int32 × mc_S)) (hf : f_K_sweep b0 S = some out) : Met l y_K_sweep (cd_K_sweep :: ALL) rm_K_sweep (va_Pc [va_rf (some b0)] (mw_B D dA CL (TY dA) ZZ A S)) (va_Qi (fun x (_ : Unit) => x = out.1) (fun _ t => mw_R D dA CL A out.2 t) A) 0 0 A := by
  refine mw_ofW (cc := b_K_sweep) (maxL := 2) (ret := (some .int)) [(.inr (.inr (some b0)))] rfl (by decide +kernel) (Nat.le_of_ble_eq_true rfl) (L := [(0, (.inr (.inr (some b0))))]) rfl (fun p e s m args below meth c F hr hlk hnm hK ls hl hI => ?_)
  have h := hf
  unfold f_K_sweep at h
  refine mt_aload_n F hl 0 rfl rfl d_K_sweep_0 ?_
  obtain ⟨v1, e_v1, h⟩ := mw_bind h
  refine mw_getR F hK hI (in_0 _) (hc_0) 0 (by decide) (mA k_42) rfl e_v1 d_K_sweep_1 ?_
  refine mt_aload_n F hl 0 rfl rfl d_K_sweep_4 ?_
  obtain ⟨b2, e_b2, h⟩ := mw_bind h
  obtain ⟨o3, e_o3, h⟩ := mw_bind h
  refine mw_callq hI (mw_runV F hK hI (c_K_kept l D dA A _ _ _ e_o3) (cwV 0 F.2.2.2.2 (gd_V k_89 k_90 k_91 k_92 k_78) rfl rfl rfl hd_K_kept ⟨Nat.le_of_ble_eq_true rfl, Nat.le_of_ble_eq_true rfl⟩) (hc_0) e_b2 rfl hl.1 rfl (by simp [mw_cat, mw_cI, mw_cL]) d_K_sweep_5 ⟨(Nat.le_of_ble_eq_true rfl), (Nat.le_of_ble_eq_true rfl)⟩) (fun H locs hI => ?_)
  obtain ⟨b4, e_b4, h⟩ := mw_bind h
  obtain ⟨S5, e_S5, h⟩ := mw_bind h
  refine mw_callv hI (mw_runV F hK hI (c_T_become l D dA A _ _ _ _ e_S5) (cwV 1 F.2.2.2.2 (gd_V k_189 k_190 k_191 k_192 k_38) rfl rfl rfl hd_T_become ⟨Nat.le_of_ble_eq_true rfl, Nat.le_of_ble_eq_true rfl⟩) (hc_2) e_b4 rfl hl.1 rfl (Nat.zero_le _) d_K_sweep_8 ⟨(Nat.le_of_ble_eq_true rfl), (Nat.le_of_ble_eq_true rfl)⟩) (fun H locs hI => ?_)
  refine mt_aload_n F hl 0 rfl rfl d_K_sweep_11 ?_
  obtain ⟨v6, e_v6, h⟩ := mw_bind h
  refine mw_getR F hK hI (in_0 _) (hc_0) 3 (by decide) (mA k_27) rfl e_v6 d_K_sweep_12 ?_
  refine mt_aload_n F hl 0 rfl rfl d_K_sweep_15 ?_
  obtain ⟨v7, e_v7, h⟩ := mw_bind h
  refine mw_getR F hK hI (in_0 _) (hc_0) 0 (by decide) (mA k_42) rfl e_v7 d_K_sweep_16 ?_
  obtain ⟨b8, e_b8, h⟩ := mw_bind h
  obtain ⟨o9, e_o9, h⟩ := mw_bind h
  refine mw_calli hI (mw_runV F hK hI (c_R_dropUnreached l D dA A _ _ _ _ e_o9) (cwV 1 F.2.2.2.2 (gd_V k_240 k_241 k_242 k_243 k_24) rfl rfl rfl hd_R_dropUnreached ⟨Nat.le_of_ble_eq_true rfl, Nat.le_of_ble_eq_true rfl⟩) (hc_3) e_b8 rfl hl.1 rfl (Nat.zero_le _) d_K_sweep_19 ⟨(Nat.le_of_ble_eq_true rfl), (Nat.le_of_ble_eq_true rfl)⟩) (fun H locs hI => ?_)
  refine mt_istore_n F hl rfl (Nat.le_of_ble_eq_true rfl) rfl d_K_sweep_22 (fun ls hl => ?_)
  have hl : mt_L ls 2 [(1, (.inl o9.1)), (0, (.inr (.inr (some b0))))] := hl
  refine mt_iload_n F hl 0 rfl rfl d_K_sweep_23 ?_
  refine lv_if_le (tgt := 33) F.1 F.2.1 d_K_sweep_24 (by decide) (fun hc => ?_) (fun hc => ?_)
  · rw [if_pos hc] at h
    refine mt_iload_n F hl 0 rfl rfl d_K_sweep_33 ?_
    exact mw_iret F hI hr hlk h (Nat.le_of_ble_eq_true rfl) (Nat.le_of_ble_eq_true rfl) d_K_sweep_34
  · rw [if_neg hc] at h
    refine mt_aload_n F hl 1 rfl rfl d_K_sweep_27 ?_
    refine lv_bipush (v := 8) F.1 F.2.1 d_K_sweep_28 (by decide) ?_
    obtain ⟨b10, e_b10, h⟩ := mw_bind h
    obtain ⟨S11, e_S11, h⟩ := mw_bind h
    refine mw_callv hI (mw_runV F hK hI (c_K_keepNow l D dA A _ _ _ _ e_S11) (cwV 1 F.2.2.2.2 (gd_V k_197 k_198 k_199 k_200 k_78) rfl rfl rfl hd_K_keepNow ⟨Nat.le_of_ble_eq_true rfl, Nat.le_of_ble_eq_true rfl⟩) (hc_0) e_b10 rfl hl.1 rfl (Nat.zero_le _) d_K_sweep_30 ⟨(Nat.le_of_ble_eq_true rfl), (Nat.le_of_ble_eq_true rfl)⟩) (fun H locs hI => ?_)
    refine mt_iload_n F hl 0 rfl rfl d_K_sweep_33 ?_
    exact mw_iret F hI hr hlk h (Nat.le_of_ble_eq_true rfl) (Nat.le_of_ble_eq_true rfl) d_K_sweep_34
abbrev rm_M_reach : Room := { frames := 0, cells := 0, slots := 0, locals := 0 }
set_option maxHeartbeats 4000000 in
set_option maxRecDepth 100000 in
theorem c_M_reach (l : Launch) (D : va_G) (dA : Nat → ClassId) (A : Nat → Prop) (b0 : Nat) (a1 : Int64) (a2 : Int32) (S : mc_S) (out : (Int32 × mc_S)) (hf : f_M_reach b0 a1 a2 S = some out) : Met l y_M_reach (cd_M_reach :: ALL) rm_M_reach (va_Pc [va_rf (some b0), .long a1, .int a2] (mw_B D dA CL (TY dA) ZZ A S)) (va_Qi (fun x (_ : Unit) => x = out.1) (fun _ t => mw_R D dA CL A out.2 t) A) 0 0 A := by
  refine mw_ofW (cc := b_M_reach) (maxL := 4) (ret := (some .int)) [(.inr (.inr (some b0))), (.inr (.inl a1)), (.inl a2)] rfl (by decide +kernel) (Nat.le_of_ble_eq_true rfl) (L := [(0, (.inr (.inr (some b0)))), (1, (.inr (.inl a1))), (3, (.inl a2))]) rfl (fun p e s m args below meth c F hr hlk hnm hK ls hl hI => ?_)
  have h := hf
  unfold f_M_reach at h
  refine mt_lload_n F hl 1 rfl rfl d_M_reach_0 ?_
  refine lv_ldc2 (v := 1099511627776) F.1 F.2.1 F.2.2.2.1 (F.2.2.2.2 _ (mA k_136)) d_M_reach_1 ?_
  refine W.lcmp F.1 F.2.1 d_M_reach_4 ?_
  refine lv_if_le (tgt := 24) F.1 F.2.1 d_M_reach_5 (by decide) (fun hc => ?_) (fun hc => ?_)
  · rw [if_pos hc] at h
    refine mt_iload_n F hl 2 rfl rfl d_M_reach_24 ?_
    exact mw_iret F hI hr hlk h (Nat.le_of_ble_eq_true rfl) (Nat.le_of_ble_eq_true rfl) d_M_reach_25
  · rw [if_neg hc] at h
    refine mt_aload_n F hl 0 rfl rfl d_M_reach_8 ?_
    obtain ⟨v1, e_v1, h⟩ := mw_bind h
    refine mw_getR F hK hI (in_4 _) (hc_4) 6 (by decide) (mA k_60) rfl e_v1 d_M_reach_9 ?_
    refine mt_lload_n F hl 1 rfl rfl d_M_reach_12 ?_
    refine lv_ldc2 (v := 1099511627776) F.1 F.2.1 F.2.2.2.1 (F.2.2.2.2 _ (mA k_136)) d_M_reach_13 ?_
    refine lv_lsub F.1 F.2.1 d_M_reach_16 ?_
    refine lv_lconst (v := 1) F.1 F.2.1 d_M_reach_17 (by decide) ?_
    refine lv_lsub F.1 F.2.1 d_M_reach_18 ?_
    refine lv_l2i F.1 F.2.1 d_M_reach_19 rfl ?_
    obtain ⟨v2, e_v2, h⟩ := mw_bind h
    refine mw_zald F hK hI (t0 := 2) rfl e_v2 d_M_reach_20 ?_
    refine lv_if_eq (tgt := 26) F.1 F.2.1 d_M_reach_21 (by decide) (fun hc => ?_) (fun hc => ?_)
    · rw [if_pos hc] at h
      refine mt_aload_n F hl 0 rfl rfl d_M_reach_26 ?_
      obtain ⟨v3, e_v3, h⟩ := mw_bind h
      refine mw_getR F hK hI (in_4 _) (hc_4) 6 (by decide) (mA k_60) rfl e_v3 d_M_reach_27 ?_
      refine mt_lload_n F hl 1 rfl rfl d_M_reach_30 ?_
      refine lv_ldc2 (v := 1099511627776) F.1 F.2.1 F.2.2.2.1 (F.2.2.2.2 _ (mA k_136)) d_M_reach_31 ?_
      refine lv_lsub F.1 F.2.1 d_M_reach_34 ?_
      refine lv_lconst (v := 1) F.1 F.2.1 d_M_reach_35 (by decide) ?_
      refine lv_lsub F.1 F.2.1 d_M_reach_36 ?_
      refine lv_l2i F.1 F.2.1 d_M_reach_37 rfl ?_
      refine lv_iconst (v := 1) F.1 F.2.1 d_M_reach_38 (by decide) ?_
      obtain ⟨S4, e_S4, h⟩ := mw_bind h
      refine mw_zast F hK hI (t0 := 2) rfl rfl e_S4 d_M_reach_39 (fun H locs hI => ?_)
      refine mt_aload_n F hl 0 rfl rfl d_M_reach_40 ?_
      obtain ⟨v5, e_v5, h⟩ := mw_bind h
      refine mw_getR F hK hI (in_4 _) (hc_4) 7 (by decide) (mA k_61) rfl e_v5 d_M_reach_41 ?_
      refine mt_iload_n F hl 2 rfl rfl d_M_reach_44 ?_
      refine mt_lload_n F hl 1 rfl rfl d_M_reach_45 ?_
      refine lv_ldc2 (v := 1099511627776) F.1 F.2.1 F.2.2.2.1 (F.2.2.2.2 _ (mA k_136)) d_M_reach_46 ?_
      refine lv_lsub F.1 F.2.1 d_M_reach_49 ?_
      refine lv_lconst (v := 1) F.1 F.2.1 d_M_reach_50 (by decide) ?_
      refine lv_lsub F.1 F.2.1 d_M_reach_51 ?_
      refine lv_l2i F.1 F.2.1 d_M_reach_52 rfl ?_
      obtain ⟨S6, e_S6, h⟩ := mw_bind h
      refine mw_iast F hK hI (t0 := 0) rfl e_S6 d_M_reach_53 (fun H locs hI => ?_)
      refine mt_iload_n F hl 2 rfl rfl d_M_reach_54 ?_
      refine lv_iconst (v := 1) F.1 F.2.1 d_M_reach_55 (by decide) ?_
      refine lv_iadd F.1 F.2.1 d_M_reach_56 ?_
      exact mw_iret F hI hr hlk h (Nat.le_of_ble_eq_true rfl) (Nat.le_of_ble_eq_true rfl) d_M_reach_57
    · rw [if_neg hc] at h
      refine mt_iload_n F hl 2 rfl rfl d_M_reach_24 ?_
      exact mw_iret F hI hr hlk h (Nat.le_of_ble_eq_true rfl) (Nat.le_of_ble_eq_true rfl) d_M_reach_25
abbrev rm_M_sweep : Room := { frames := 3, cells := 0, slots := 0, locals := 62 }
set_option maxHeartbeats 4000000 in
set_option maxRecDepth 100000 in
theorem s_M_sweep (l : Launch) (D : va_G) (dA : Nat → ClassId) (A : Nat → Prop) (b0 : Nat) {p : Program} {e : Env} {s : State} {m : MethodId} {args : Array Value} {below : List Frame} {meth : Method} {c : Code} (F : CallFix p m c b_M_sweep 7 s args (cd_M_sweep :: ALL) y_M_sweep.cls) (hr : meth.sig.returnType = (some .int)) (hlk : meth.locks = false) (hnm : meth.name = y_M_sweep.name) (hK : mw_K D CL (TY dA) ZZ s) (out : (Int32 × mc_S)) : ∀ n : Nat, (∀ (r1 : Option Nat) (r2 : Option Nat) (x3 : Int32) (x4 : Int32) (x5 : Int32) (x6 : Int32) (S : mc_S) (H : Heap) (locs : List Loc) (ls : Array Slot), mw_I D dA CL A S s.heap H locs → mt_L ls 7 [(0, (.inr (.inr (some b0)))), (1, (.inr (.inr r1))), (2, (.inr (.inr r2))), (3, (.inl x3)), (4, (.inl x4)), (5, (.inl x5))] → g_M_sweep b0 n 0 r1 r2 x3 x4 x5 x6 S = some out → W p l e rm_M_sweep s m args below meth c H locs (0) (0) (MQ below (va_Qi (fun x (_ : Unit) => x = out.1) (fun _ t => mw_R D dA CL A out.2 t) A) args s 0 0 A) (F0 m 29 ls [])) ∧ (∀ (r1 : Option Nat) (r2 : Option Nat) (x3 : Int32) (x4 : Int32) (x5 : Int32) (x6 : Int32) (S : mc_S) (H : Heap) (locs : List Loc) (ls : Array Slot), mw_I D dA CL A S s.heap H locs → mt_L ls 7 [(0, (.inr (.inr (some b0)))), (1, (.inr (.inr r1))), (2, (.inr (.inr r2))), (3, (.inl x3)), (4, (.inl x4)), (5, (.inl x5))] → g_M_sweep b0 n 1 r1 r2 x3 x4 x5 x6 S = some out → W p l e rm_M_sweep s m args below meth c H locs (0) (0) (MQ below (va_Qi (fun x (_ : Unit) => x = out.1) (fun _ t => mw_R D dA CL A out.2 t) A) args s 0 0 A) (F0 m 50 ls [])) ∧ (∀ (r1 : Option Nat) (r2 : Option Nat) (x3 : Int32) (x4 : Int32) (x5 : Int32) (x6 : Int32) (S : mc_S) (H : Heap) (locs : List Loc) (ls : Array Slot), mw_I D dA CL A S s.heap H locs → mt_L ls 7 [(0, (.inr (.inr (some b0)))), (1, (.inr (.inr r1))), (2, (.inr (.inr r2))), (3, (.inl x3)), (4, (.inl x4)), (5, (.inl x5))] → g_M_sweep b0 n 2 r1 r2 x3 x4 x5 x6 S = some out → W p l e rm_M_sweep s m args below meth c H locs (0) (0) (MQ below (va_Qi (fun x (_ : Unit) => x = out.1) (fun _ t => mw_R D dA CL A out.2 t) A) args s 0 0 A) (F0 m 87 ls [])) ∧ (∀ (r1 : Option Nat) (r2 : Option Nat) (x3 : Int32) (x4 : Int32) (x5 : Int32) (x6 : Int32) (S : mc_S) (H : Heap) (locs : List Loc) (ls : Array Slot), mw_I D dA CL A S s.heap H locs → mt_L ls 7 [(0, (.inr (.inr (some b0)))), (1, (.inr (.inr r1))), (2, (.inr (.inr r2))), (3, (.inl x3)), (4, (.inl x4)), (5, (.inl x5)), (6, (.inl x6))] → g_M_sweep b0 n 3 r1 r2 x3 x4 x5 x6 S = some out → W p l e rm_M_sweep s m args below meth c H locs (0) (0) (MQ below (va_Qi (fun x (_ : Unit) => x = out.1) (fun _ t => mw_R D dA CL A out.2 t) A) args s 0 0 A) (F0 m 96 ls [])) ∧ (∀ (r1 : Option Nat) (r2 : Option Nat) (x3 : Int32) (x4 : Int32) (x5 : Int32) (x6 : Int32) (S : mc_S) (H : Heap) (locs : List Loc) (ls : Array Slot), mw_I D dA CL A S s.heap H locs → mt_L ls 7 [(0, (.inr (.inr (some b0)))), (1, (.inr (.inr r1))), (2, (.inr (.inr r2))), (3, (.inl x3)), (4, (.inl x4)), (5, (.inl x5))] → g_M_sweep b0 n 4 r1 r2 x3 x4 x5 x6 S = some out → W p l e rm_M_sweep s m args below meth c H locs (0) (0) (MQ below (va_Qi (fun x (_ : Unit) => x = out.1) (fun _ t => mw_R D dA CL A out.2 t) A) args s 0 0 A) (F0 m 152 ls [])) := by
  intro n
  induction n with
  | zero =>
    refine ⟨?_, ?_, ?_, ?_, ?_⟩
    · intro r1 r2 x3 x4 x5 x6 S H locs ls hI hl h; have h : (none : Option (Int32 × mc_S)) = some out := h; cases h
    · intro r1 r2 x3 x4 x5 x6 S H locs ls hI hl h; have h : (none : Option (Int32 × mc_S)) = some out := h; cases h
    · intro r1 r2 x3 x4 x5 x6 S H locs ls hI hl h; have h : (none : Option (Int32 × mc_S)) = some out := h; cases h
    · intro r1 r2 x3 x4 x5 x6 S H locs ls hI hl h; have h : (none : Option (Int32 × mc_S)) = some out := h; cases h
    · intro r1 r2 x3 x4 x5 x6 S H locs ls hI hl h; have h : (none : Option (Int32 × mc_S)) = some out := h; cases h
  | succ k0 ih =>
    refine ⟨?_, ?_, ?_, ?_, ?_⟩
    · intro r1 r2 x3 x4 x5 x6 S H locs ls hI hl h
      have h : q_M_sweep_0 b0 (g_M_sweep b0 k0) r1 r2 x3 x4 x5 x6 S = some out := h
      unfold q_M_sweep_0 at h
      refine mt_iload F hl 5 rfl d_M_sweep_29 ?_
      refine lv_bipush (v := 100) F.1 F.2.1 d_M_sweep_31 (by decide) ?_
      refine lv_icmp_ge (tgt := 47) F.1 F.2.1 d_M_sweep_33 (by decide) (fun hc => ?_) (fun hc => ?_)
      · rw [if_pos hc] at h
        refine lv_iconst (v := 0) F.1 F.2.1 d_M_sweep_47 (by decide) ?_
        refine mt_istore F hl (Nat.le_of_ble_eq_true rfl) rfl d_M_sweep_48 (fun ls hl => ?_)
        have hl : mt_L ls 7 [(5, (.inl 0)), (0, (.inr (.inr (some b0)))), (1, (.inr (.inr r1))), (2, (.inr (.inr r2))), (3, (.inl x3)), (4, (.inl x4))] := hl
        refine W.widen (k := 0) (n := 0) (Nat.le_of_ble_eq_true rfl) (Nat.le_of_ble_eq_true rfl) ?_
        exact ih.2.1 _ _ _ _ _ _ _ _ _ _ hI (mt_sub hl [1, 2, 3, 4, 5, 0] rfl) h
      · rw [if_neg hc] at h
        refine mt_aload_n F hl 1 rfl rfl d_M_sweep_36 ?_
        refine mt_iload F hl 5 rfl d_M_sweep_37 ?_
        refine lv_iconst (v := 0) F.1 F.2.1 d_M_sweep_39 (by decide) ?_
        obtain ⟨S1, e_S1, h⟩ := mw_bind h
        refine mw_zast F hK hI (t0 := 2) rfl rfl e_S1 d_M_sweep_40 (fun H locs hI => ?_)
        refine mt_iinc (v := (x5 + 1)) F hl 5 rfl (by rw [show Int32.ofInt 1 = (1 : Int32) from by decide]) (Nat.le_of_ble_eq_true rfl) rfl d_M_sweep_41 (fun ls hl => ?_)
        have hl : mt_L ls 7 [(5, (.inl (x5 + 1))), (0, (.inr (.inr (some b0)))), (1, (.inr (.inr r1))), (2, (.inr (.inr r2))), (3, (.inl x3)), (4, (.inl x4))] := hl
        refine lv_goto (tgt := 29) F.1 F.2.1 d_M_sweep_44 (by decide) ?_
        refine W.widen (k := 0) (n := 0) (Nat.le_of_ble_eq_true rfl) (Nat.le_of_ble_eq_true rfl) ?_
        exact ih.1 _ _ _ _ _ _ _ _ _ _ hI (mt_sub hl [1, 2, 3, 4, 5, 0] rfl) h
    · intro r1 r2 x3 x4 x5 x6 S H locs ls hI hl h
      have h : q_M_sweep_1 b0 (g_M_sweep b0 k0) r1 r2 x3 x4 x5 x6 S = some out := h
      unfold q_M_sweep_1 at h
      refine mt_iload F hl 5 rfl d_M_sweep_50 ?_
      refine mt_aload_n F hl 0 rfl rfl d_M_sweep_52 ?_
      obtain ⟨v1, e_v1, h⟩ := mw_bind h
      refine mw_getR F hK hI (in_4 _) (hc_4) 0 (by decide) (mA k_56) rfl e_v1 d_M_sweep_53 ?_
      obtain ⟨v2, e_v2, h⟩ := mw_bind h
      refine mw_getI F hK hI (in_5 _) (hc_5) 6 (by decide) (mA k_178) rfl e_v2 d_M_sweep_56 ?_
      refine lv_icmp_ge (tgt := 84) F.1 F.2.1 d_M_sweep_59 (by decide) (fun hc => ?_) (fun hc => ?_)
      · rw [if_pos hc] at h
        refine lv_iconst (v := 0) F.1 F.2.1 d_M_sweep_84 (by decide) ?_
        refine mt_istore F hl (Nat.le_of_ble_eq_true rfl) rfl d_M_sweep_85 (fun ls hl => ?_)
        have hl : mt_L ls 7 [(5, (.inl 0)), (0, (.inr (.inr (some b0)))), (1, (.inr (.inr r1))), (2, (.inr (.inr r2))), (3, (.inl x3)), (4, (.inl x4))] := hl
        refine W.widen (k := 0) (n := 0) (Nat.le_of_ble_eq_true rfl) (Nat.le_of_ble_eq_true rfl) ?_
        exact ih.2.2.1 _ _ _ _ _ _ _ _ _ _ hI (mt_sub hl [1, 2, 3, 4, 5, 0] rfl) h
      · rw [if_neg hc] at h
        refine mt_aload_n F hl 0 rfl rfl d_M_sweep_62 ?_
        refine mt_aload_n F hl 0 rfl rfl d_M_sweep_63 ?_
        obtain ⟨v3, e_v3, h⟩ := mw_bind h
        refine mw_getR F hK hI (in_4 _) (hc_4) 0 (by decide) (mA k_56) rfl e_v3 d_M_sweep_64 ?_
        obtain ⟨v4, e_v4, h⟩ := mw_bind h
        refine mw_getR F hK hI (in_5 _) (hc_5) 5 (by decide) (mA k_177) rfl e_v4 d_M_sweep_67 ?_
        refine mt_iload F hl 5 rfl d_M_sweep_70 ?_
        obtain ⟨v5, e_v5, h⟩ := mw_bind h
        refine mw_lald F hK hI (t0 := 1) rfl e_v5 d_M_sweep_72 ?_
        refine mt_iload_n F hl 3 rfl rfl d_M_sweep_73 ?_
        obtain ⟨b6, e_b6, h⟩ := mw_bind h
        obtain ⟨o7, e_o7, h⟩ := mw_bind h
        refine mw_calli hI (mw_runV F hK hI (c_M_reach l D dA A _ _ _ _ _ e_o7) (cwV 2 F.2.2.2.2 (gd_V k_244 k_245 k_246 k_247 k_130) rfl rfl rfl hd_M_reach ⟨Nat.le_of_ble_eq_true rfl, Nat.le_of_ble_eq_true rfl⟩) (hc_4) e_b6 rfl hl.1 rfl (Nat.zero_le _) d_M_sweep_74 ⟨(Nat.le_of_ble_eq_true rfl), (Nat.le_of_ble_eq_true rfl)⟩) (fun H locs hI => ?_)
        refine mt_istore_n F hl rfl (Nat.le_of_ble_eq_true rfl) rfl d_M_sweep_77 (fun ls hl => ?_)
        have hl : mt_L ls 7 [(3, (.inl o7.1)), (0, (.inr (.inr (some b0)))), (1, (.inr (.inr r1))), (2, (.inr (.inr r2))), (4, (.inl x4)), (5, (.inl x5))] := hl
        refine mt_iinc (v := (x5 + 1)) F hl 5 rfl (by rw [show Int32.ofInt 1 = (1 : Int32) from by decide]) (Nat.le_of_ble_eq_true rfl) rfl d_M_sweep_78 (fun ls hl => ?_)
        have hl : mt_L ls 7 [(5, (.inl (x5 + 1))), (3, (.inl o7.1)), (0, (.inr (.inr (some b0)))), (1, (.inr (.inr r1))), (2, (.inr (.inr r2))), (4, (.inl x4))] := hl
        refine lv_goto (tgt := 50) F.1 F.2.1 d_M_sweep_81 (by decide) ?_
        refine W.widen (k := 0) (n := 0) (Nat.le_of_ble_eq_true rfl) (Nat.le_of_ble_eq_true rfl) ?_
        exact ih.2.1 _ _ _ _ _ _ _ _ _ _ hI (mt_sub hl [2, 3, 4, 1, 5, 0] rfl) h
    · intro r1 r2 x3 x4 x5 x6 S H locs ls hI hl h
      have h : q_M_sweep_2 b0 (g_M_sweep b0 k0) r1 r2 x3 x4 x5 x6 S = some out := h
      unfold q_M_sweep_2 at h
      refine mt_iload F hl 5 rfl d_M_sweep_87 ?_
      refine mt_iload_n F hl 3 rfl rfl d_M_sweep_89 ?_
      refine lv_icmp_ge (tgt := 149) F.1 F.2.1 d_M_sweep_90 (by decide) (fun hc => ?_) (fun hc => ?_)
      · rw [if_pos hc] at h
        refine lv_iconst (v := 0) F.1 F.2.1 d_M_sweep_149 (by decide) ?_
        refine mt_istore F hl (Nat.le_of_ble_eq_true rfl) rfl d_M_sweep_150 (fun ls hl => ?_)
        have hl : mt_L ls 7 [(5, (.inl 0)), (0, (.inr (.inr (some b0)))), (1, (.inr (.inr r1))), (2, (.inr (.inr r2))), (3, (.inl x3)), (4, (.inl x4))] := hl
        refine W.widen (k := 0) (n := 0) (Nat.le_of_ble_eq_true rfl) (Nat.le_of_ble_eq_true rfl) ?_
        exact ih.2.2.2.2 _ _ _ _ _ _ _ _ _ _ hI (mt_sub hl [1, 2, 3, 4, 5, 0] rfl) h
      · rw [if_neg hc] at h
        refine lv_iconst (v := 0) F.1 F.2.1 d_M_sweep_93 (by decide) ?_
        refine mt_istore F hl (Nat.le_of_ble_eq_true rfl) rfl d_M_sweep_94 (fun ls hl => ?_)
        have hl : mt_L ls 7 [(6, (.inl 0)), (0, (.inr (.inr (some b0)))), (1, (.inr (.inr r1))), (2, (.inr (.inr r2))), (3, (.inl x3)), (4, (.inl x4)), (5, (.inl x5))] := hl
        refine W.widen (k := 0) (n := 0) (Nat.le_of_ble_eq_true rfl) (Nat.le_of_ble_eq_true rfl) ?_
        exact ih.2.2.2.1 _ _ _ _ _ _ _ _ _ _ hI (mt_sub hl [1, 2, 3, 4, 5, 6, 0] rfl) h
    · intro r1 r2 x3 x4 x5 x6 S H locs ls hI hl h
      have h : q_M_sweep_3 b0 (g_M_sweep b0 k0) r1 r2 x3 x4 x5 x6 S = some out := h
      unfold q_M_sweep_3 at h
      refine mt_iload F hl 6 rfl d_M_sweep_96 ?_
      refine mt_aload_n F hl 0 rfl rfl d_M_sweep_98 ?_
      obtain ⟨v1, e_v1, h⟩ := mw_bind h
      refine mw_getR F hK hI (in_4 _) (hc_4) 0 (by decide) (mA k_56) rfl e_v1 d_M_sweep_99 ?_
      obtain ⟨v2, e_v2, h⟩ := mw_bind h
      refine mw_getR F hK hI (in_5 _) (hc_5) 1 (by decide) (mA k_64) rfl e_v2 d_M_sweep_102 ?_
      refine mt_aload_n F hl 2 rfl rfl d_M_sweep_105 ?_
      refine mt_iload F hl 5 rfl d_M_sweep_106 ?_
      obtain ⟨v3, e_v3, h⟩ := mw_bind h
      refine mw_iald F hK hI (t0 := 0) rfl e_v3 d_M_sweep_108 ?_
      obtain ⟨v4, e_v4, h⟩ := mw_bind h
      refine mw_iald F hK hI (t0 := 0) rfl e_v4 d_M_sweep_109 ?_
      refine lv_icmp_ge (tgt := 143) F.1 F.2.1 d_M_sweep_110 (by decide) (fun hc => ?_) (fun hc => ?_)
      · rw [if_pos hc] at h
        refine mt_iinc (v := (x5 + 1)) F hl 5 rfl (by rw [show Int32.ofInt 1 = (1 : Int32) from by decide]) (Nat.le_of_ble_eq_true rfl) rfl d_M_sweep_143 (fun ls hl => ?_)
        have hl : mt_L ls 7 [(5, (.inl (x5 + 1))), (0, (.inr (.inr (some b0)))), (1, (.inr (.inr r1))), (2, (.inr (.inr r2))), (3, (.inl x3)), (4, (.inl x4)), (6, (.inl x6))] := hl
        refine lv_goto (tgt := 87) F.1 F.2.1 d_M_sweep_146 (by decide) ?_
        refine W.widen (k := 0) (n := 0) (Nat.le_of_ble_eq_true rfl) (Nat.le_of_ble_eq_true rfl) ?_
        exact ih.2.2.1 _ _ _ _ _ _ _ _ _ _ hI (mt_sub hl [1, 2, 3, 4, 5, 0] rfl) h
      · rw [if_neg hc] at h
        refine mt_aload_n F hl 0 rfl rfl d_M_sweep_113 ?_
        refine mt_aload_n F hl 0 rfl rfl d_M_sweep_114 ?_
        obtain ⟨v5, e_v5, h⟩ := mw_bind h
        refine mw_getR F hK hI (in_4 _) (hc_4) 0 (by decide) (mA k_56) rfl e_v5 d_M_sweep_115 ?_
        obtain ⟨v6, e_v6, h⟩ := mw_bind h
        refine mw_getR F hK hI (in_5 _) (hc_5) 4 (by decide) (mA k_149) rfl e_v6 d_M_sweep_118 ?_
        refine lv_bipush (v := 20) F.1 F.2.1 d_M_sweep_121 (by decide) ?_
        refine mt_aload_n F hl 2 rfl rfl d_M_sweep_123 ?_
        refine mt_iload F hl 5 rfl d_M_sweep_124 ?_
        obtain ⟨v7, e_v7, h⟩ := mw_bind h
        refine mw_iald F hK hI (t0 := 0) rfl e_v7 d_M_sweep_126 ?_
        refine lv_imul F.1 F.2.1 d_M_sweep_127 ?_
        refine mt_iload F hl 6 rfl d_M_sweep_128 ?_
        refine lv_iadd F.1 F.2.1 d_M_sweep_130 ?_
        obtain ⟨v8, e_v8, h⟩ := mw_bind h
        refine mw_lald F hK hI (t0 := 1) rfl e_v8 d_M_sweep_131 ?_
        refine mt_iload_n F hl 3 rfl rfl d_M_sweep_132 ?_
        obtain ⟨b9, e_b9, h⟩ := mw_bind h
        obtain ⟨o10, e_o10, h⟩ := mw_bind h
        refine mw_calli hI (mw_runV F hK hI (c_M_reach l D dA A _ _ _ _ _ e_o10) (cwV 2 F.2.2.2.2 (gd_V k_244 k_245 k_246 k_247 k_130) rfl rfl rfl hd_M_reach ⟨Nat.le_of_ble_eq_true rfl, Nat.le_of_ble_eq_true rfl⟩) (hc_4) e_b9 rfl hl.1 rfl (Nat.zero_le _) d_M_sweep_133 ⟨(Nat.le_of_ble_eq_true rfl), (Nat.le_of_ble_eq_true rfl)⟩) (fun H locs hI => ?_)
        refine mt_istore_n F hl rfl (Nat.le_of_ble_eq_true rfl) rfl d_M_sweep_136 (fun ls hl => ?_)
        have hl : mt_L ls 7 [(3, (.inl o10.1)), (0, (.inr (.inr (some b0)))), (1, (.inr (.inr r1))), (2, (.inr (.inr r2))), (4, (.inl x4)), (5, (.inl x5)), (6, (.inl x6))] := hl
        refine mt_iinc (v := (x6 + 1)) F hl 6 rfl (by rw [show Int32.ofInt 1 = (1 : Int32) from by decide]) (Nat.le_of_ble_eq_true rfl) rfl d_M_sweep_137 (fun ls hl => ?_)
        have hl : mt_L ls 7 [(6, (.inl (x6 + 1))), (3, (.inl o10.1)), (0, (.inr (.inr (some b0)))), (1, (.inr (.inr r1))), (2, (.inr (.inr r2))), (4, (.inl x4)), (5, (.inl x5))] := hl
        refine lv_goto (tgt := 96) F.1 F.2.1 d_M_sweep_140 (by decide) ?_
        refine W.widen (k := 0) (n := 0) (Nat.le_of_ble_eq_true rfl) (Nat.le_of_ble_eq_true rfl) ?_
        exact ih.2.2.2.1 _ _ _ _ _ _ _ _ _ _ hI (mt_sub hl [2, 3, 4, 1, 5, 6, 0] rfl) h
    · intro r1 r2 x3 x4 x5 x6 S H locs ls hI hl h
      have h : q_M_sweep_4 b0 (g_M_sweep b0 k0) r1 r2 x3 x4 x5 x6 S = some out := h
      unfold q_M_sweep_4 at h
      refine mt_iload F hl 5 rfl d_M_sweep_152 ?_
      refine lv_bipush (v := 100) F.1 F.2.1 d_M_sweep_154 (by decide) ?_
      refine lv_icmp_ge (tgt := 202) F.1 F.2.1 d_M_sweep_156 (by decide) (fun hc => ?_) (fun hc => ?_)
      · rw [if_pos hc] at h
        refine mt_iload F hl 4 rfl d_M_sweep_202 ?_
        refine lv_if_le (tgt := 213) F.1 F.2.1 d_M_sweep_204 (by decide) (fun hc => ?_) (fun hc => ?_)
        · rw [if_pos hc] at h
          refine mt_iload F hl 4 rfl d_M_sweep_213 ?_
          exact mw_iret F hI hr hlk h (Nat.le_of_ble_eq_true rfl) (Nat.le_of_ble_eq_true rfl) d_M_sweep_215
        · rw [if_neg hc] at h
          refine mt_aload_n F hl 0 rfl rfl d_M_sweep_207 ?_
          refine lv_bipush (v := 8) F.1 F.2.1 d_M_sweep_208 (by decide) ?_
          obtain ⟨b1, e_b1, h⟩ := mw_bind h
          obtain ⟨S2, e_S2, h⟩ := mw_bind h
          refine mw_callv hI (mw_runV F hK hI (c_M_keep l D dA A _ _ _ _ e_S2) (cwV 1 F.2.2.2.2 (gd_V k_218 k_219 k_220 k_221 k_130) rfl rfl rfl hd_M_keep ⟨Nat.le_of_ble_eq_true rfl, Nat.le_of_ble_eq_true rfl⟩) (hc_4) e_b1 rfl hl.1 rfl (Nat.zero_le _) d_M_sweep_210 ⟨(Nat.le_of_ble_eq_true rfl), (Nat.le_of_ble_eq_true rfl)⟩) (fun H locs hI => ?_)
          refine mt_iload F hl 4 rfl d_M_sweep_213 ?_
          exact mw_iret F hI hr hlk h (Nat.le_of_ble_eq_true rfl) (Nat.le_of_ble_eq_true rfl) d_M_sweep_215
      · rw [if_neg hc] at h
        refine mt_aload_n F hl 0 rfl rfl d_M_sweep_159 ?_
        obtain ⟨v3, e_v3, h⟩ := mw_bind h
        refine mw_getR F hK hI (in_4 _) (hc_4) 0 (by decide) (mA k_56) rfl e_v3 d_M_sweep_160 ?_
        obtain ⟨v4, e_v4, h⟩ := mw_bind h
        refine mw_getR F hK hI (in_5 _) (hc_5) 0 (by decide) (mA k_63) rfl e_v4 d_M_sweep_163 ?_
        refine mt_iload F hl 5 rfl d_M_sweep_166 ?_
        obtain ⟨v5, e_v5, h⟩ := mw_bind h
        refine mw_iald F hK hI (t0 := 0) rfl e_v5 d_M_sweep_168 ?_
        refine lv_if_eq (tgt := 196) F.1 F.2.1 d_M_sweep_169 (by decide) (fun hc => ?_) (fun hc => ?_)
        · rw [if_pos hc] at h
          refine mt_iinc (v := (x5 + 1)) F hl 5 rfl (by rw [show Int32.ofInt 1 = (1 : Int32) from by decide]) (Nat.le_of_ble_eq_true rfl) rfl d_M_sweep_196 (fun ls hl => ?_)
          have hl : mt_L ls 7 [(5, (.inl (x5 + 1))), (0, (.inr (.inr (some b0)))), (1, (.inr (.inr r1))), (2, (.inr (.inr r2))), (3, (.inl x3)), (4, (.inl x4))] := hl
          refine lv_goto (tgt := 152) F.1 F.2.1 d_M_sweep_199 (by decide) ?_
          refine W.widen (k := 0) (n := 0) (Nat.le_of_ble_eq_true rfl) (Nat.le_of_ble_eq_true rfl) ?_
          exact ih.2.2.2.2 _ _ _ _ _ _ _ _ _ _ hI (mt_sub hl [1, 2, 3, 4, 5, 0] rfl) h
        · rw [if_neg hc] at h
          refine mt_aload_n F hl 1 rfl rfl d_M_sweep_172 ?_
          refine mt_iload F hl 5 rfl d_M_sweep_173 ?_
          obtain ⟨v6, e_v6, h⟩ := mw_bind h
          refine mw_zald F hK hI (t0 := 2) rfl e_v6 d_M_sweep_175 ?_
          refine lv_if_eq (tgt := 182) F.1 F.2.1 d_M_sweep_176 (by decide) (fun hc => ?_) (fun hc => ?_)
          · rw [if_pos hc] at h
            refine mt_aload_n F hl 0 rfl rfl d_M_sweep_182 ?_
            obtain ⟨v7, e_v7, h⟩ := mw_bind h
            refine mw_getR F hK hI (in_4 _) (hc_4) 0 (by decide) (mA k_56) rfl e_v7 d_M_sweep_183 ?_
            obtain ⟨v8, e_v8, h⟩ := mw_bind h
            refine mw_getR F hK hI (in_5 _) (hc_5) 0 (by decide) (mA k_63) rfl e_v8 d_M_sweep_186 ?_
            refine mt_iload F hl 5 rfl d_M_sweep_189 ?_
            refine lv_iconst (v := 0) F.1 F.2.1 d_M_sweep_191 (by decide) ?_
            obtain ⟨S9, e_S9, h⟩ := mw_bind h
            refine mw_iast F hK hI (t0 := 0) rfl e_S9 d_M_sweep_192 (fun H locs hI => ?_)
            refine mt_iinc (v := (x4 + 1)) F hl 4 rfl (by rw [show Int32.ofInt 1 = (1 : Int32) from by decide]) (Nat.le_of_ble_eq_true rfl) rfl d_M_sweep_193 (fun ls hl => ?_)
            have hl : mt_L ls 7 [(4, (.inl (x4 + 1))), (0, (.inr (.inr (some b0)))), (1, (.inr (.inr r1))), (2, (.inr (.inr r2))), (3, (.inl x3)), (5, (.inl x5))] := hl
            refine mt_iinc (v := (x5 + 1)) F hl 5 rfl (by rw [show Int32.ofInt 1 = (1 : Int32) from by decide]) (Nat.le_of_ble_eq_true rfl) rfl d_M_sweep_196 (fun ls hl => ?_)
            have hl : mt_L ls 7 [(5, (.inl (x5 + 1))), (4, (.inl (x4 + 1))), (0, (.inr (.inr (some b0)))), (1, (.inr (.inr r1))), (2, (.inr (.inr r2))), (3, (.inl x3))] := hl
            refine lv_goto (tgt := 152) F.1 F.2.1 d_M_sweep_199 (by decide) ?_
            refine W.widen (k := 0) (n := 0) (Nat.le_of_ble_eq_true rfl) (Nat.le_of_ble_eq_true rfl) ?_
            exact ih.2.2.2.2 _ _ _ _ _ _ _ _ _ _ hI (mt_sub hl [2, 3, 4, 5, 1, 0] rfl) h
          · rw [if_neg hc] at h
            refine lv_goto (tgt := 196) F.1 F.2.1 d_M_sweep_179 (by decide) ?_
            refine mt_iinc (v := (x5 + 1)) F hl 5 rfl (by rw [show Int32.ofInt 1 = (1 : Int32) from by decide]) (Nat.le_of_ble_eq_true rfl) rfl d_M_sweep_196 (fun ls hl => ?_)
            have hl : mt_L ls 7 [(5, (.inl (x5 + 1))), (0, (.inr (.inr (some b0)))), (1, (.inr (.inr r1))), (2, (.inr (.inr r2))), (3, (.inl x3)), (4, (.inl x4))] := hl
            refine lv_goto (tgt := 152) F.1 F.2.1 d_M_sweep_199 (by decide) ?_
            refine W.widen (k := 0) (n := 0) (Nat.le_of_ble_eq_true rfl) (Nat.le_of_ble_eq_true rfl) ?_
            exact ih.2.2.2.2 _ _ _ _ _ _ _ _ _ _ hI (mt_sub hl [1, 2, 3, 4, 5, 0] rfl) h
set_option maxHeartbeats 4000000 in
set_option maxRecDepth 100000 in
theorem c_M_sweep (l : Launch) (D : va_G) (dA : Nat → ClassId) (A : Nat → Prop) (b0 : Nat) (S : mc_S) (out : (Int32 × mc_S)) (hf : f_M_sweep b0 S = some out) : Met l y_M_sweep (cd_M_sweep :: ALL) rm_M_sweep (va_Pc [va_rf (some b0)] (mw_B D dA CL (TY dA) ZZ A S)) (va_Qi (fun x (_ : Unit) => x = out.1) (fun _ t => mw_R D dA CL A out.2 t) A) 0 0 A := by
  refine mw_ofW (cc := b_M_sweep) (maxL := 7) (ret := (some .int)) [(.inr (.inr (some b0)))] rfl (by decide +kernel) (Nat.le_of_ble_eq_true rfl) (L := [(0, (.inr (.inr (some b0))))]) rfl (fun p e s m args below meth c F hr hlk hnm hK ls hl hI => ?_)
  have h := hf
  unfold f_M_sweep at h
  refine mt_aload_n F hl 0 rfl rfl d_M_sweep_0 ?_
  obtain ⟨v1, e_v1, h⟩ := mw_bind h
  refine mw_getR F hK hI (in_4 _) (hc_4) 0 (by decide) (mA k_56) rfl e_v1 d_M_sweep_1 ?_
  refine mt_aload_n F hl 0 rfl rfl d_M_sweep_4 ?_
  obtain ⟨v2, e_v2, h⟩ := mw_bind h
  refine mw_getR F hK hI (in_4 _) (hc_4) 1 (by decide) (mA k_57) rfl e_v2 d_M_sweep_5 ?_
  obtain ⟨b3, e_b3, h⟩ := mw_bind h
  obtain ⟨S4, e_S4, h⟩ := mw_bind h
  refine mw_callv hI (mw_runV F hK hI (c_N_copy l D dA A _ _ _ _ e_S4) (cwV 1 F.2.2.2.2 (gd_V k_207 k_208 k_209 k_210 k_53) rfl rfl rfl hd_N_copy ⟨Nat.le_of_ble_eq_true rfl, Nat.le_of_ble_eq_true rfl⟩) (hc_5) e_b3 rfl hl.1 rfl (Nat.zero_le _) d_M_sweep_8 ⟨(Nat.le_of_ble_eq_true rfl), (Nat.le_of_ble_eq_true rfl)⟩) (fun H locs hI => ?_)
  refine mt_aload_n F hl 0 rfl rfl d_M_sweep_11 ?_
  obtain ⟨v5, e_v5, h⟩ := mw_bind h
  refine mw_getR F hK hI (in_4 _) (hc_4) 6 (by decide) (mA k_60) rfl e_v5 d_M_sweep_12 ?_
  refine mt_astore_n F hl rfl (Nat.le_of_ble_eq_true rfl) rfl d_M_sweep_15 (fun ls hl => ?_)
  have hl : mt_L ls 7 [(1, (.inr (.inr v5))), (0, (.inr (.inr (some b0))))] := hl
  refine mt_aload_n F hl 1 rfl rfl d_M_sweep_16 ?_
  obtain ⟨v6, e_v6, h⟩ := mw_bind h
  refine mw_getR F hK hI (in_4 _) (hc_4) 7 (by decide) (mA k_61) rfl e_v6 d_M_sweep_17 ?_
  refine mt_astore_n F hl rfl (Nat.le_of_ble_eq_true rfl) rfl d_M_sweep_20 (fun ls hl => ?_)
  have hl : mt_L ls 7 [(2, (.inr (.inr v6))), (1, (.inr (.inr v5))), (0, (.inr (.inr (some b0))))] := hl
  refine lv_iconst (v := 0) F.1 F.2.1 d_M_sweep_21 (by decide) ?_
  refine mt_istore_n F hl rfl (Nat.le_of_ble_eq_true rfl) rfl d_M_sweep_22 (fun ls hl => ?_)
  have hl : mt_L ls 7 [(3, (.inl 0)), (2, (.inr (.inr v6))), (1, (.inr (.inr v5))), (0, (.inr (.inr (some b0))))] := hl
  refine lv_iconst (v := 0) F.1 F.2.1 d_M_sweep_23 (by decide) ?_
  refine mt_istore F hl (Nat.le_of_ble_eq_true rfl) rfl d_M_sweep_24 (fun ls hl => ?_)
  have hl : mt_L ls 7 [(4, (.inl 0)), (3, (.inl 0)), (2, (.inr (.inr v6))), (1, (.inr (.inr v5))), (0, (.inr (.inr (some b0))))] := hl
  refine lv_iconst (v := 0) F.1 F.2.1 d_M_sweep_26 (by decide) ?_
  refine mt_istore F hl (Nat.le_of_ble_eq_true rfl) rfl d_M_sweep_27 (fun ls hl => ?_)
  have hl : mt_L ls 7 [(5, (.inl 0)), (4, (.inl 0)), (3, (.inl 0)), (2, (.inr (.inr v6))), (1, (.inr (.inr v5))), (0, (.inr (.inr (some b0))))] := hl
  refine W.widen (k := 0) (n := 0) (Nat.le_of_ble_eq_true rfl) (Nat.le_of_ble_eq_true rfl) ?_
  exact (s_M_sweep l D dA A b0 F hr hlk hnm hK out 5000).1 _ _ _ _ _ _ _ _ _ _ hI (mt_sub hl [5, 4, 3, 2, 1, 0] rfl) h
abbrev rm_K_sync : Room := { frames := 1, cells := 0, slots := 0, locals := 21 }
set_option maxHeartbeats 4000000 in
set_option maxRecDepth 100000 in
theorem c_K_sync (l : Launch) (D : va_G) (dA : Nat → ClassId) (A : Nat → Prop) (b0 : Nat) (S : mc_S) (out : (Int32 × mc_S)) (hf : f_K_sync b0 S = some out) : Met l y_K_sync (cd_K_sync :: ALL) rm_K_sync (va_Pc [va_rf (some b0)] (mw_B D dA CL (TY dA) ZZ A S)) (va_Qi (fun x (_ : Unit) => x = out.1) (fun _ t => mw_R D dA CL A out.2 t) A) 0 0 A := by
  refine mw_ofW (cc := b_K_sync) (maxL := 2) (ret := (some .int)) [(.inr (.inr (some b0)))] rfl (by decide +kernel) (Nat.le_of_ble_eq_true rfl) (L := [(0, (.inr (.inr (some b0))))]) rfl (fun p e s m args below meth c F hr hlk hnm hK ls hl hI => ?_)
  have h := hf
  unfold f_K_sync at h
  refine mt_aload_n F hl 0 rfl rfl d_K_sync_0 ?_
  obtain ⟨v1, e_v1, h⟩ := mw_bind h
  refine mw_getI F hK hI (in_0 _) (hc_0) 5 (by decide) (mA k_29) rfl e_v1 d_K_sync_1 ?_
  refine mt_istore_n F hl rfl (Nat.le_of_ble_eq_true rfl) rfl d_K_sync_4 (fun ls hl => ?_)
  have hl : mt_L ls 2 [(1, (.inl v1)), (0, (.inr (.inr (some b0))))] := hl
  refine mt_aload_n F hl 1 rfl rfl d_K_sync_5 ?_
  refine mt_aload_n F hl 1 rfl rfl d_K_sync_6 ?_
  refine mt_iload_n F hl 0 rfl rfl d_K_sync_7 ?_
  obtain ⟨b2, e_b2, h⟩ := mw_bind h
  obtain ⟨o3, e_o3, h⟩ := mw_bind h
  refine mw_calli hI (mw_runV F hK hI (c_K_ringIndex l D dA A _ _ _ _ e_o3) (cwV 1 F.2.2.2.2 (gd_V k_74 k_75 k_76 k_77 k_78) rfl rfl rfl hd_K_ringIndex ⟨Nat.le_of_ble_eq_true rfl, Nat.le_of_ble_eq_true rfl⟩) (hc_0) e_b2 rfl hl.1 rfl (by simp [mw_cat, mw_cI, mw_cL]) d_K_sync_8 ⟨(Nat.le_of_ble_eq_true rfl), (Nat.le_of_ble_eq_true rfl)⟩) (fun H locs hI => ?_)
  obtain ⟨S4, e_S4, h⟩ := mw_bind h
  refine mw_put F hK hI (in_0 _) ty_0 ok_0 nm_0 (hc_0) 4 (by decide) (mA k_28) rfl rfl rfl rfl e_S4 d_K_sync_11 (fun H locs hI => ?_)
  refine mt_aload_n F hl 1 rfl rfl d_K_sync_14 ?_
  refine lv_iconst (v := 0) F.1 F.2.1 d_K_sync_15 (by decide) ?_
  obtain ⟨S5, e_S5, h⟩ := mw_bind h
  refine mw_put F hK hI (in_0 _) ty_0 ok_0 nm_0 (hc_0) 5 (by decide) (mA k_29) rfl rfl rfl rfl e_S5 d_K_sync_16 (fun H locs hI => ?_)
  refine mt_iload_n F hl 0 rfl rfl d_K_sync_19 ?_
  exact mw_iret F hI hr hlk h (Nat.le_of_ble_eq_true rfl) (Nat.le_of_ble_eq_true rfl) d_K_sync_20
abbrev rm_M_sync : Room := { frames := 2, cells := 0, slots := 0, locals := 39 }
set_option maxHeartbeats 4000000 in
set_option maxRecDepth 100000 in
theorem c_M_sync (l : Launch) (D : va_G) (dA : Nat → ClassId) (A : Nat → Prop) (b0 : Nat) (S : mc_S) (out : (Int32 × mc_S)) (hf : f_M_sync b0 S = some out) : Met l y_M_sync (cd_M_sync :: ALL) rm_M_sync (va_Pc [va_rf (some b0)] (mw_B D dA CL (TY dA) ZZ A S)) (va_Qi (fun x (_ : Unit) => x = out.1) (fun _ t => mw_R D dA CL A out.2 t) A) 0 0 A := by
  refine mw_ofW (cc := b_M_sync) (maxL := 2) (ret := (some .int)) [(.inr (.inr (some b0)))] rfl (by decide +kernel) (Nat.le_of_ble_eq_true rfl) (L := [(0, (.inr (.inr (some b0))))]) rfl (fun p e s m args below meth c F hr hlk hnm hK ls hl hI => ?_)
  have h := hf
  unfold f_M_sync at h
  refine mt_aload_n F hl 0 rfl rfl d_M_sync_0 ?_
  obtain ⟨v1, e_v1, h⟩ := mw_bind h
  refine mw_getI F hK hI (in_4 _) (hc_4) 4 (by decide) (mA k_212) rfl e_v1 d_M_sync_1 ?_
  refine mt_istore_n F hl rfl (Nat.le_of_ble_eq_true rfl) rfl d_M_sync_4 (fun ls hl => ?_)
  have hl : mt_L ls 2 [(1, (.inl v1)), (0, (.inr (.inr (some b0))))] := hl
  refine mt_aload_n F hl 1 rfl rfl d_M_sync_5 ?_
  obtain ⟨v2, e_v2, h⟩ := mw_bind h
  refine mw_getR F hK hI (in_4 _) (hc_4) 2 (by decide) (mA k_58) rfl e_v2 d_M_sync_6 ?_
  refine mt_aload_n F hl 1 rfl rfl d_M_sync_9 ?_
  obtain ⟨v3, e_v3, h⟩ := mw_bind h
  refine mw_getR F hK hI (in_4 _) (hc_4) 1 (by decide) (mA k_57) rfl e_v3 d_M_sync_10 ?_
  obtain ⟨b4, e_b4, h⟩ := mw_bind h
  obtain ⟨S5, e_S5, h⟩ := mw_bind h
  refine mw_callv hI (mw_runV F hK hI (c_N_copy l D dA A _ _ _ _ e_S5) (cwV 1 F.2.2.2.2 (gd_V k_207 k_208 k_209 k_210 k_53) rfl rfl rfl hd_N_copy ⟨Nat.le_of_ble_eq_true rfl, Nat.le_of_ble_eq_true rfl⟩) (hc_5) e_b4 rfl hl.1 rfl (Nat.zero_le _) d_M_sync_13 ⟨(Nat.le_of_ble_eq_true rfl), (Nat.le_of_ble_eq_true rfl)⟩) (fun H locs hI => ?_)
  refine mt_aload_n F hl 1 rfl rfl d_M_sync_16 ?_
  refine lv_iconst (v := 0) F.1 F.2.1 d_M_sync_17 (by decide) ?_
  obtain ⟨S6, e_S6, h⟩ := mw_bind h
  refine mw_put F hK hI (in_4 _) ty_4 ok_4 nm_4 (hc_4) 4 (by decide) (mA k_212) rfl rfl rfl rfl e_S6 d_M_sync_18 (fun H locs hI => ?_)
  refine mt_iload_n F hl 0 rfl rfl d_M_sync_21 ?_
  exact mw_iret F hI hr hlk h (Nat.le_of_ble_eq_true rfl) (Nat.le_of_ble_eq_true rfl) d_M_sync_22
abbrev rm_K_entriesWithin : Room := { frames := 1, cells := 0, slots := 0, locals := 21 }
set_option maxHeartbeats 4000000 in
set_option maxRecDepth 100000 in
theorem s_K_entriesWithin (l : Launch) (D : va_G) (dA : Nat → ClassId) (A : Nat → Prop) (b0 : Nat) {p : Program} {e : Env} {s : State} {m : MethodId} {args : Array Value} {below : List Frame} {meth : Method} {c : Code} (F : CallFix p m c b_K_entriesWithin 5 s args (cd_K_entriesWithin :: ALL) y_K_entriesWithin.cls) (hr : meth.sig.returnType = (some .int)) (hlk : meth.locks = false) (hnm : meth.name = y_K_entriesWithin.name) (hK : mw_K D CL (TY dA) ZZ s) (out : (Int32 × mc_S)) : ∀ n : Nat, (∀ (x1 : Int32) (x2 : Int32) (x3 : Int32) (S : mc_S) (H : Heap) (locs : List Loc) (ls : Array Slot), mw_I D dA CL A S s.heap H locs → mt_L ls 5 [(0, (.inr (.inr (some b0)))), (1, (.inl x1)), (2, (.inl x2)), (3, (.inl x3))] → g_K_entriesWithin b0 n x1 x2 x3 S = some out → W p l e rm_K_entriesWithin s m args below meth c H locs (0) (0) (MQ below (va_Qi (fun x (_ : Unit) => x = out.1) (fun _ t => mw_R D dA CL A out.2 t) A) args s 0 0 A) (F0 m 4 ls [])) := by
  intro n
  induction n with
  | zero =>
    intro x1 x2 x3 S H locs ls hI hl h; have h : (none : Option (Int32 × mc_S)) = some out := h; cases h
  | succ k0 ih =>
    intro x1 x2 x3 S H locs ls hI hl h
    have h : q_K_entriesWithin_0 b0 (g_K_entriesWithin b0 k0) x1 x2 x3 S = some out := h
    unfold q_K_entriesWithin_0 at h
    refine mt_iload_n F hl 3 rfl rfl d_K_entriesWithin_4 ?_
    refine mt_aload_n F hl 0 rfl rfl d_K_entriesWithin_5 ?_
    obtain ⟨v1, e_v1, h⟩ := mw_bind h
    refine mw_getI F hK hI (in_0 _) (hc_0) 5 (by decide) (mA k_29) rfl e_v1 d_K_entriesWithin_6 ?_
    refine lv_icmp_gt (tgt := 45) F.1 F.2.1 d_K_entriesWithin_9 (by decide) (fun hc => ?_) (fun hc => ?_)
    · rw [if_pos hc] at h
      refine mt_aload_n F hl 0 rfl rfl d_K_entriesWithin_45 ?_
      obtain ⟨v2, e_v2, h⟩ := mw_bind h
      refine mw_getI F hK hI (in_0 _) (hc_0) 5 (by decide) (mA k_29) rfl e_v2 d_K_entriesWithin_46 ?_
      exact mw_iret F hI hr hlk h (Nat.le_of_ble_eq_true rfl) (Nat.le_of_ble_eq_true rfl) d_K_entriesWithin_49
    · rw [if_neg hc] at h
      refine mt_aload_n F hl 0 rfl rfl d_K_entriesWithin_12 ?_
      obtain ⟨v3, e_v3, h⟩ := mw_bind h
      refine mw_getR F hK hI (in_0 _) (hc_0) 2 (by decide) (mA k_21) rfl e_v3 d_K_entriesWithin_13 ?_
      refine mt_aload_n F hl 0 rfl rfl d_K_entriesWithin_16 ?_
      refine mt_iload_n F hl 3 rfl rfl d_K_entriesWithin_17 ?_
      obtain ⟨b4, e_b4, h⟩ := mw_bind h
      obtain ⟨o5, e_o5, h⟩ := mw_bind h
      refine mw_calli hI (mw_runV F hK hI (c_K_ringIndex l D dA A _ _ _ _ e_o5) (cwV 1 F.2.2.2.2 (gd_V k_74 k_75 k_76 k_77 k_78) rfl rfl rfl hd_K_ringIndex ⟨Nat.le_of_ble_eq_true rfl, Nat.le_of_ble_eq_true rfl⟩) (hc_0) e_b4 rfl hl.1 rfl (by simp [mw_cat, mw_cI, mw_cL]) d_K_entriesWithin_18 ⟨(Nat.le_of_ble_eq_true rfl), (Nat.le_of_ble_eq_true rfl)⟩) (fun H locs hI => ?_)
      obtain ⟨v6, e_v6, h⟩ := mw_bind h
      refine mw_iald F hK hI (t0 := 0) rfl e_v6 d_K_entriesWithin_21 ?_
      refine mt_istore F hl (Nat.le_of_ble_eq_true rfl) rfl d_K_entriesWithin_22 (fun ls hl => ?_)
      have hl : mt_L ls 5 [(4, (.inl v6)), (0, (.inr (.inr (some b0)))), (1, (.inl x1)), (2, (.inl x2)), (3, (.inl x3))] := hl
      refine mt_iload F hl 0 rfl d_K_entriesWithin_24 ?_
      refine mt_iload_n F hl 3 rfl rfl d_K_entriesWithin_26 ?_
      refine lv_icmp_le (tgt := 34) F.1 F.2.1 d_K_entriesWithin_27 (by decide) (fun hc => ?_) (fun hc => ?_)
      · rw [if_pos hc] at h
        refine mt_iload_n F hl 3 rfl rfl d_K_entriesWithin_34 ?_
        refine mt_iload F hl 0 rfl d_K_entriesWithin_35 ?_
        refine lv_isub F.1 F.2.1 d_K_entriesWithin_37 ?_
        refine mt_istore_n F hl rfl (Nat.le_of_ble_eq_true rfl) rfl d_K_entriesWithin_38 (fun ls hl => ?_)
        have hl : mt_L ls 5 [(2, (.inl (x2 - v6))), (4, (.inl v6)), (0, (.inr (.inr (some b0)))), (1, (.inl x1)), (3, (.inl x3))] := hl
        refine mt_iinc (v := (x3 + 1)) F hl 4 rfl (by rw [show Int32.ofInt 1 = (1 : Int32) from by decide]) (Nat.le_of_ble_eq_true rfl) rfl d_K_entriesWithin_39 (fun ls hl => ?_)
        have hl : mt_L ls 5 [(3, (.inl (x3 + 1))), (2, (.inl (x2 - v6))), (4, (.inl v6)), (0, (.inr (.inr (some b0)))), (1, (.inl x1))] := hl
        refine lv_goto (tgt := 4) F.1 F.2.1 d_K_entriesWithin_42 (by decide) ?_
        refine W.widen (k := 0) (n := 0) (Nat.le_of_ble_eq_true rfl) (Nat.le_of_ble_eq_true rfl) ?_
        exact ih _ _ _ _ _ _ _ hI (mt_sub hl [3, 4, 1, 0] rfl) h
      · rw [if_neg hc] at h
        refine mt_iload_n F hl 4 rfl rfl d_K_entriesWithin_30 ?_
        refine lv_iconst (v := 1) F.1 F.2.1 d_K_entriesWithin_31 (by decide) ?_
        refine lv_isub F.1 F.2.1 d_K_entriesWithin_32 ?_
        exact mw_iret F hI hr hlk h (Nat.le_of_ble_eq_true rfl) (Nat.le_of_ble_eq_true rfl) d_K_entriesWithin_33
set_option maxHeartbeats 4000000 in
set_option maxRecDepth 100000 in
theorem c_K_entriesWithin (l : Launch) (D : va_G) (dA : Nat → ClassId) (A : Nat → Prop) (b0 : Nat) (a1 : Int32) (S : mc_S) (out : (Int32 × mc_S)) (hf : f_K_entriesWithin b0 a1 S = some out) : Met l y_K_entriesWithin (cd_K_entriesWithin :: ALL) rm_K_entriesWithin (va_Pc [va_rf (some b0), .int a1] (mw_B D dA CL (TY dA) ZZ A S)) (va_Qi (fun x (_ : Unit) => x = out.1) (fun _ t => mw_R D dA CL A out.2 t) A) 0 0 A := by
  refine mw_ofW (cc := b_K_entriesWithin) (maxL := 5) (ret := (some .int)) [(.inr (.inr (some b0))), (.inl a1)] rfl (by decide +kernel) (Nat.le_of_ble_eq_true rfl) (L := [(0, (.inr (.inr (some b0)))), (1, (.inl a1))]) rfl (fun p e s m args below meth c F hr hlk hnm hK ls hl hI => ?_)
  have h := hf
  unfold f_K_entriesWithin at h
  refine mt_iload_n F hl 1 rfl rfl d_K_entriesWithin_0 ?_
  refine mt_istore_n F hl rfl (Nat.le_of_ble_eq_true rfl) rfl d_K_entriesWithin_1 (fun ls hl => ?_)
  have hl : mt_L ls 5 [(2, (.inl a1)), (0, (.inr (.inr (some b0)))), (1, (.inl a1))] := hl
  refine lv_iconst (v := 1) F.1 F.2.1 d_K_entriesWithin_2 (by decide) ?_
  refine mt_istore_n F hl rfl (Nat.le_of_ble_eq_true rfl) rfl d_K_entriesWithin_3 (fun ls hl => ?_)
  have hl : mt_L ls 5 [(3, (.inl 1)), (2, (.inl a1)), (0, (.inr (.inr (some b0)))), (1, (.inl a1))] := hl
  refine W.widen (k := 0) (n := 0) (Nat.le_of_ble_eq_true rfl) (Nat.le_of_ble_eq_true rfl) ?_
  exact (s_K_entriesWithin l D dA A b0 F hr hlk hnm hK out 5000) _ _ _ _ _ _ _ hI (mt_sub hl [2, 3, 1, 0] rfl) h
abbrev rm_K_crash : Room := { frames := 2, cells := 0, slots := 0, locals := 45 }
set_option maxHeartbeats 4000000 in
set_option maxRecDepth 100000 in
theorem s_K_crash (l : Launch) (D : va_G) (dA : Nat → ClassId) (A : Nat → Prop) (b0 : Nat) {p : Program} {e : Env} {s : State} {m : MethodId} {args : Array Value} {below : List Frame} {meth : Method} {c : Code} (F : CallFix p m c b_K_crash 4 s args (cd_K_crash :: ALL) y_K_crash.cls) (hr : meth.sig.returnType = (some .int)) (hlk : meth.locks = false) (hnm : meth.name = y_K_crash.name) (hK : mw_K D CL (TY dA) ZZ s) (out : (Int32 × mc_S)) : ∀ n : Nat, (∀ (x1 : Int32) (x2 : Int32) (x3 : Int32) (S : mc_S) (H : Heap) (locs : List Loc) (ls : Array Slot), mw_I D dA CL A S s.heap H locs → mt_L ls 4 [(0, (.inr (.inr (some b0)))), (1, (.inl x1)), (2, (.inl x2)), (3, (.inl x3))] → g_K_crash b0 n x1 x2 x3 S = some out → W p l e rm_K_crash s m args below meth c H locs (0) (0) (MQ below (va_Qi (fun x (_ : Unit) => x = out.1) (fun _ t => mw_R D dA CL A out.2 t) A) args s 0 0 A) (F0 m 16 ls [])) := by
  intro n
  induction n with
  | zero =>
    intro x1 x2 x3 S H locs ls hI hl h; have h : (none : Option (Int32 × mc_S)) = some out := h; cases h
  | succ k0 ih =>
    intro x1 x2 x3 S H locs ls hI hl h
    have h : q_K_crash_0 b0 (g_K_crash b0 k0) x1 x2 x3 S = some out := h
    unfold q_K_crash_0 at h
    refine mt_iload_n F hl 3 rfl rfl d_K_crash_16 ?_
    refine mt_aload_n F hl 0 rfl rfl d_K_crash_17 ?_
    obtain ⟨v1, e_v1, h⟩ := mw_bind h
    refine mw_getI F hK hI (in_0 _) (hc_0) 5 (by decide) (mA k_29) rfl e_v1 d_K_crash_18 ?_
    refine lv_icmp_gt (tgt := 49) F.1 F.2.1 d_K_crash_21 (by decide) (fun hc => ?_) (fun hc => ?_)
    · rw [if_pos hc] at h
      refine mt_aload_n F hl 0 rfl rfl d_K_crash_49 ?_
      refine mt_aload_n F hl 0 rfl rfl d_K_crash_50 ?_
      refine mt_iload_n F hl 2 rfl rfl d_K_crash_51 ?_
      obtain ⟨b2, e_b2, h⟩ := mw_bind h
      obtain ⟨o3, e_o3, h⟩ := mw_bind h
      refine mw_calli hI (mw_runV F hK hI (c_K_ringIndex l D dA A _ _ _ _ e_o3) (cwV 1 F.2.2.2.2 (gd_V k_74 k_75 k_76 k_77 k_78) rfl rfl rfl hd_K_ringIndex ⟨Nat.le_of_ble_eq_true rfl, Nat.le_of_ble_eq_true rfl⟩) (hc_0) e_b2 rfl hl.1 rfl (by simp [mw_cat, mw_cI, mw_cL]) d_K_crash_52 ⟨(Nat.le_of_ble_eq_true rfl), (Nat.le_of_ble_eq_true rfl)⟩) (fun H locs hI => ?_)
      obtain ⟨S4, e_S4, h⟩ := mw_bind h
      refine mw_put F hK hI (in_0 _) ty_0 ok_0 nm_0 (hc_0) 4 (by decide) (mA k_28) rfl rfl rfl rfl e_S4 d_K_crash_55 (fun H locs hI => ?_)
      refine mt_aload_n F hl 0 rfl rfl d_K_crash_58 ?_
      refine lv_iconst (v := 0) F.1 F.2.1 d_K_crash_59 (by decide) ?_
      obtain ⟨S5, e_S5, h⟩ := mw_bind h
      refine mw_put F hK hI (in_0 _) ty_0 ok_0 nm_0 (hc_0) 5 (by decide) (mA k_29) rfl rfl rfl rfl e_S5 d_K_crash_60 (fun H locs hI => ?_)
      refine mt_aload_n F hl 0 rfl rfl d_K_crash_63 ?_
      obtain ⟨v6, e_v6, h⟩ := mw_bind h
      refine mw_getR F hK hI (in_0 _) (hc_0) 0 (by decide) (mA k_42) rfl e_v6 d_K_crash_64 ?_
      refine mt_aload_n F hl 0 rfl rfl d_K_crash_67 ?_
      obtain ⟨b7, e_b7, h⟩ := mw_bind h
      obtain ⟨o8, e_o8, h⟩ := mw_bind h
      refine mw_callq hI (mw_runV F hK hI (c_K_kept l D dA A _ _ _ e_o8) (cwV 0 F.2.2.2.2 (gd_V k_89 k_90 k_91 k_92 k_78) rfl rfl rfl hd_K_kept ⟨Nat.le_of_ble_eq_true rfl, Nat.le_of_ble_eq_true rfl⟩) (hc_0) e_b7 rfl hl.1 rfl (by simp [mw_cat, mw_cI, mw_cL]) d_K_crash_68 ⟨(Nat.le_of_ble_eq_true rfl), (Nat.le_of_ble_eq_true rfl)⟩) (fun H locs hI => ?_)
      obtain ⟨b9, e_b9, h⟩ := mw_bind h
      obtain ⟨S10, e_S10, h⟩ := mw_bind h
      refine mw_callv hI (mw_runV F hK hI (c_T_become l D dA A _ _ _ _ e_S10) (cwV 1 F.2.2.2.2 (gd_V k_189 k_190 k_191 k_192 k_38) rfl rfl rfl hd_T_become ⟨Nat.le_of_ble_eq_true rfl, Nat.le_of_ble_eq_true rfl⟩) (hc_2) e_b9 rfl hl.1 rfl (Nat.zero_le _) d_K_crash_71 ⟨(Nat.le_of_ble_eq_true rfl), (Nat.le_of_ble_eq_true rfl)⟩) (fun H locs hI => ?_)
      refine mt_iload_n F hl 2 rfl rfl d_K_crash_74 ?_
      exact mw_iret F hI hr hlk h (Nat.le_of_ble_eq_true rfl) (Nat.le_of_ble_eq_true rfl) d_K_crash_75
    · rw [if_neg hc] at h
      refine mt_aload_n F hl 0 rfl rfl d_K_crash_24 ?_
      refine lv_dup F.1 F.2.1 d_K_crash_25 (mw_cat _) ?_
      obtain ⟨v11, e_v11, h⟩ := mw_bind h
      refine mw_getI F hK hI (in_0 _) (hc_0) 6 (by decide) (mA k_30) rfl e_v11 d_K_crash_26 ?_
      refine mt_aload_n F hl 0 rfl rfl d_K_crash_29 ?_
      obtain ⟨v12, e_v12, h⟩ := mw_bind h
      refine mw_getR F hK hI (in_0 _) (hc_0) 2 (by decide) (mA k_21) rfl e_v12 d_K_crash_30 ?_
      refine mt_aload_n F hl 0 rfl rfl d_K_crash_33 ?_
      refine mt_iload_n F hl 3 rfl rfl d_K_crash_34 ?_
      obtain ⟨b13, e_b13, h⟩ := mw_bind h
      obtain ⟨o14, e_o14, h⟩ := mw_bind h
      refine mw_calli hI (mw_runV F hK hI (c_K_ringIndex l D dA A _ _ _ _ e_o14) (cwV 1 F.2.2.2.2 (gd_V k_74 k_75 k_76 k_77 k_78) rfl rfl rfl hd_K_ringIndex ⟨Nat.le_of_ble_eq_true rfl, Nat.le_of_ble_eq_true rfl⟩) (hc_0) e_b13 rfl hl.1 rfl (by simp [mw_cat, mw_cI, mw_cL]) d_K_crash_35 ⟨(Nat.le_of_ble_eq_true rfl), (Nat.le_of_ble_eq_true rfl)⟩) (fun H locs hI => ?_)
      obtain ⟨v15, e_v15, h⟩ := mw_bind h
      refine mw_iald F hK hI (t0 := 0) rfl e_v15 d_K_crash_38 ?_
      refine lv_isub F.1 F.2.1 d_K_crash_39 ?_
      obtain ⟨S16, e_S16, h⟩ := mw_bind h
      refine mw_put F hK hI (in_0 _) ty_0 ok_0 nm_0 (hc_0) 6 (by decide) (mA k_30) rfl rfl rfl rfl e_S16 d_K_crash_40 (fun H locs hI => ?_)
      refine mt_iinc (v := (x3 + 1)) F hl 3 rfl (by rw [show Int32.ofInt 1 = (1 : Int32) from by decide]) (Nat.le_of_ble_eq_true rfl) rfl d_K_crash_43 (fun ls hl => ?_)
      have hl : mt_L ls 4 [(3, (.inl (x3 + 1))), (0, (.inr (.inr (some b0)))), (1, (.inl x1)), (2, (.inl x2))] := hl
      refine lv_goto (tgt := 16) F.1 F.2.1 d_K_crash_46 (by decide) ?_
      refine W.widen (k := 0) (n := 0) (Nat.le_of_ble_eq_true rfl) (Nat.le_of_ble_eq_true rfl) ?_
      exact ih _ _ _ _ _ _ _ hI (mt_sub hl [1, 2, 3, 0] rfl) h
set_option maxHeartbeats 4000000 in
set_option maxRecDepth 100000 in
theorem c_K_crash (l : Launch) (D : va_G) (dA : Nat → ClassId) (A : Nat → Prop) (b0 : Nat) (a1 : Int32) (S : mc_S) (out : (Int32 × mc_S)) (hf : f_K_crash b0 a1 S = some out) : Met l y_K_crash (cd_K_crash :: ALL) rm_K_crash (va_Pc [va_rf (some b0), .int a1] (mw_B D dA CL (TY dA) ZZ A S)) (va_Qi (fun x (_ : Unit) => x = out.1) (fun _ t => mw_R D dA CL A out.2 t) A) 0 0 A := by
  refine mw_ofW (cc := b_K_crash) (maxL := 4) (ret := (some .int)) [(.inr (.inr (some b0))), (.inl a1)] rfl (by decide +kernel) (Nat.le_of_ble_eq_true rfl) (L := [(0, (.inr (.inr (some b0)))), (1, (.inl a1))]) rfl (fun p e s m args below meth c F hr hlk hnm hK ls hl hI => ?_)
  have h := hf
  unfold f_K_crash at h
  refine mt_iload_n F hl 1 rfl rfl d_K_crash_0 ?_
  refine lv_if_ge (tgt := 6) F.1 F.2.1 d_K_crash_1 (by decide) (fun hc => ?_) (fun hc => ?_)
  · rw [if_pos hc] at h
    refine mt_aload_n F hl 0 rfl rfl d_K_crash_6 ?_
    refine mt_iload_n F hl 1 rfl rfl d_K_crash_7 ?_
    obtain ⟨b1, e_b1, h⟩ := mw_bind h
    obtain ⟨o2, e_o2, h⟩ := mw_bind h
    refine mw_calli hI (mw_runV F hK hI (c_K_entriesWithin l D dA A _ _ _ _ e_o2) (cwV 1 F.2.2.2.2 (gd_V k_248 k_249 k_250 k_251 k_78) rfl rfl rfl hd_K_entriesWithin ⟨Nat.le_of_ble_eq_true rfl, Nat.le_of_ble_eq_true rfl⟩) (hc_0) e_b1 rfl hl.1 rfl (Nat.zero_le _) d_K_crash_8 ⟨(Nat.le_of_ble_eq_true rfl), (Nat.le_of_ble_eq_true rfl)⟩) (fun H locs hI => ?_)
    refine mt_istore_n F hl rfl (Nat.le_of_ble_eq_true rfl) rfl d_K_crash_11 (fun ls hl => ?_)
    have hl : mt_L ls 4 [(2, (.inl o2.1)), (0, (.inr (.inr (some b0)))), (1, (.inl a1))] := hl
    refine mt_iload_n F hl 0 rfl rfl d_K_crash_12 ?_
    refine lv_iconst (v := 1) F.1 F.2.1 d_K_crash_13 (by decide) ?_
    refine lv_iadd F.1 F.2.1 d_K_crash_14 ?_
    refine mt_istore_n F hl rfl (Nat.le_of_ble_eq_true rfl) rfl d_K_crash_15 (fun ls hl => ?_)
    have hl : mt_L ls 4 [(3, (.inl (o2.1 + 1))), (2, (.inl o2.1)), (0, (.inr (.inr (some b0)))), (1, (.inl a1))] := hl
    refine W.widen (k := 0) (n := 0) (Nat.le_of_ble_eq_true rfl) (Nat.le_of_ble_eq_true rfl) ?_
    exact (s_K_crash l D dA A b0 F hr hlk hnm hK out 5000) _ _ _ _ _ _ _ hI (mt_sub hl [2, 3, 1, 0] rfl) h
  · rw [if_neg hc] at h
    refine lv_iconst (v := (-1)) F.1 F.2.1 d_K_crash_4 (by decide) ?_
    exact mw_iret F hI hr hlk h (Nat.le_of_ble_eq_true rfl) (Nat.le_of_ble_eq_true rfl) d_K_crash_5
end
section
abbrev rm_M_crash : Room := { frames := 2, cells := 0, slots := 0, locals := 39 }
set_option maxHeartbeats 4000000 in
set_option maxRecDepth 100000 in
theorem s_M_crash (l : Launch) (D : va_G) (dA : Nat → ClassId) (A : Nat → Prop) (b0 : Nat) {p : Program} {e : Env} {s : State} {m : MethodId} {args : Array Value} {below : List Frame} {meth : Method} {c : Code} (F : CallFix p m c b_M_crash 6 s args (cd_M_crash :: ALL) y_M_crash.cls) (hr : meth.sig.returnType = (some .int)) (hlk : meth.locks = false) (hnm : meth.name = y_M_crash.name) (hK : mw_K D CL (TY dA) ZZ s) (out : (Int32 × mc_S)) : ∀ n : Nat, (∀ (x1 : Int32) (x2 : Int32) (y3 : Int64) (x5 : Int32) (S : mc_S) (H : Heap) (locs : List Loc) (ls : Array Slot), mw_I D dA CL A S s.heap H locs → mt_L ls 6 [(0, (.inr (.inr (some b0)))), (1, (.inl x1)), (2, (.inl x2)), (3, (.inr (.inl y3)))] → g_M_crash b0 n 0 x1 x2 y3 x5 S = some out → W p l e rm_M_crash s m args below meth c H locs (0) (0) (MQ below (va_Qi (fun x (_ : Unit) => x = out.1) (fun _ t => mw_R D dA CL A out.2 t) A) args s 0 0 A) (F0 m 10 ls [])) ∧ (∀ (x1 : Int32) (x2 : Int32) (y3 : Int64) (x5 : Int32) (S : mc_S) (H : Heap) (locs : List Loc) (ls : Array Slot), mw_I D dA CL A S s.heap H locs → mt_L ls 6 [(0, (.inr (.inr (some b0)))), (1, (.inl x1)), (2, (.inl x2)), (3, (.inr (.inl y3))), (5, (.inl x5))] → g_M_crash b0 n 1 x1 x2 y3 x5 S = some out → W p l e rm_M_crash s m args below meth c H locs (0) (0) (MQ below (va_Qi (fun x (_ : Unit) => x = out.1) (fun _ t => mw_R D dA CL A out.2 t) A) args s 0 0 A) (F0 m 58 ls [])) := by
  intro n
  induction n with
  | zero =>
    refine ⟨?_, ?_⟩
    · intro x1 x2 y3 x5 S H locs ls hI hl h; have h : (none : Option (Int32 × mc_S)) = some out := h; cases h
    · intro x1 x2 y3 x5 S H locs ls hI hl h; have h : (none : Option (Int32 × mc_S)) = some out := h; cases h
  | succ k0 ih =>
    refine ⟨?_, ?_⟩
    · intro x1 x2 y3 x5 S H locs ls hI hl h
      have h : q_M_crash_0 b0 (g_M_crash b0 k0) x1 x2 y3 x5 S = some out := h
      unfold q_M_crash_0 at h
      refine mt_iload_n F hl 2 rfl rfl d_M_crash_10 ?_
      refine mt_aload_n F hl 0 rfl rfl d_M_crash_11 ?_
      obtain ⟨v1, e_v1, h⟩ := mw_bind h
      refine mw_getI F hK hI (in_4 _) (hc_4) 4 (by decide) (mA k_212) rfl e_v1 d_M_crash_12 ?_
      refine lv_icmp_ge (tgt := 55) F.1 F.2.1 d_M_crash_15 (by decide) (fun hc => ?_) (fun hc => ?_)
      · rw [if_pos hc] at h
        refine mt_iload_n F hl 2 rfl rfl d_M_crash_55 ?_
        refine mt_istore F hl (Nat.le_of_ble_eq_true rfl) rfl d_M_crash_56 (fun ls hl => ?_)
        have hl : mt_L ls 6 [(5, (.inl x2)), (0, (.inr (.inr (some b0)))), (1, (.inl x1)), (2, (.inl x2)), (3, (.inr (.inl y3)))] := hl
        refine W.widen (k := 0) (n := 0) (Nat.le_of_ble_eq_true rfl) (Nat.le_of_ble_eq_true rfl) ?_
        exact ih.2 _ _ _ _ _ _ _ _ hI (mt_sub hl [1, 2, 3, 4, 0] rfl) h
      · rw [if_neg hc] at h
        refine mt_lload_n F hl 3 rfl rfl d_M_crash_18 ?_
        refine mt_aload_n F hl 0 rfl rfl d_M_crash_19 ?_
        obtain ⟨v2, e_v2, h⟩ := mw_bind h
        refine mw_getR F hK hI (in_4 _) (hc_4) 3 (by decide) (mA k_59) rfl e_v2 d_M_crash_20 ?_
        refine mt_iload_n F hl 2 rfl rfl d_M_crash_23 ?_
        obtain ⟨v3, e_v3, h⟩ := mw_bind h
        refine mw_aald F hK hI (t0 := 5) rfl e_v3 d_M_crash_24 ?_
        obtain ⟨v4, e_v4, h⟩ := mw_bind h
        refine mw_getI F hK hI (in_5 _) (hc_5) 7 (by decide) (mA k_213) rfl e_v4 d_M_crash_25 ?_
        refine lv_i2l F.1 F.2.1 d_M_crash_28 rfl ?_
        refine lv_ladd F.1 F.2.1 d_M_crash_29 ?_
        refine mt_iload_n F hl 1 rfl rfl d_M_crash_30 ?_
        refine lv_i2l F.1 F.2.1 d_M_crash_31 rfl ?_
        refine W.lcmp F.1 F.2.1 d_M_crash_32 ?_
        refine lv_if_gt (tgt := 55) F.1 F.2.1 d_M_crash_33 (by decide) (fun hc => ?_) (fun hc => ?_)
        · rw [if_pos hc] at h
          refine mt_iload_n F hl 2 rfl rfl d_M_crash_55 ?_
          refine mt_istore F hl (Nat.le_of_ble_eq_true rfl) rfl d_M_crash_56 (fun ls hl => ?_)
          have hl : mt_L ls 6 [(5, (.inl x2)), (0, (.inr (.inr (some b0)))), (1, (.inl x1)), (2, (.inl x2)), (3, (.inr (.inl y3)))] := hl
          refine W.widen (k := 0) (n := 0) (Nat.le_of_ble_eq_true rfl) (Nat.le_of_ble_eq_true rfl) ?_
          exact ih.2 _ _ _ _ _ _ _ _ hI (mt_sub hl [1, 2, 3, 4, 0] rfl) h
        · rw [if_neg hc] at h
          refine mt_lload_n F hl 3 rfl rfl d_M_crash_36 ?_
          refine mt_aload_n F hl 0 rfl rfl d_M_crash_37 ?_
          obtain ⟨v5, e_v5, h⟩ := mw_bind h
          refine mw_getR F hK hI (in_4 _) (hc_4) 3 (by decide) (mA k_59) rfl e_v5 d_M_crash_38 ?_
          refine mt_iload_n F hl 2 rfl rfl d_M_crash_41 ?_
          obtain ⟨v6, e_v6, h⟩ := mw_bind h
          refine mw_aald F hK hI (t0 := 5) rfl e_v6 d_M_crash_42 ?_
          obtain ⟨v7, e_v7, h⟩ := mw_bind h
          refine mw_getI F hK hI (in_5 _) (hc_5) 7 (by decide) (mA k_213) rfl e_v7 d_M_crash_43 ?_
          refine lv_i2l F.1 F.2.1 d_M_crash_46 rfl ?_
          refine lv_ladd F.1 F.2.1 d_M_crash_47 ?_
          refine mt_lstore_n F hl rfl (Nat.le_of_ble_eq_true rfl) rfl d_M_crash_48 (fun ls hl => ?_)
          have hl : mt_L ls 6 [(3, (.inr (.inl (y3 + (v7).toInt64)))), (0, (.inr (.inr (some b0)))), (1, (.inl x1)), (2, (.inl x2))] := hl
          refine mt_iinc (v := (x2 + 1)) F hl 3 rfl (by rw [show Int32.ofInt 1 = (1 : Int32) from by decide]) (Nat.le_of_ble_eq_true rfl) rfl d_M_crash_49 (fun ls hl => ?_)
          have hl : mt_L ls 6 [(2, (.inl (x2 + 1))), (3, (.inr (.inl (y3 + (v7).toInt64)))), (0, (.inr (.inr (some b0)))), (1, (.inl x1))] := hl
          refine lv_goto (tgt := 10) F.1 F.2.1 d_M_crash_52 (by decide) ?_
          refine W.widen (k := 0) (n := 0) (Nat.le_of_ble_eq_true rfl) (Nat.le_of_ble_eq_true rfl) ?_
          exact ih.1 _ _ _ _ _ _ _ _ hI (mt_sub hl [2, 3, 0, 1] rfl) h
    · intro x1 x2 y3 x5 S H locs ls hI hl h
      have h : q_M_crash_1 b0 (g_M_crash b0 k0) x1 x2 y3 x5 S = some out := h
      unfold q_M_crash_1 at h
      refine mt_iload F hl 4 rfl d_M_crash_58 ?_
      refine mt_aload_n F hl 0 rfl rfl d_M_crash_60 ?_
      obtain ⟨v1, e_v1, h⟩ := mw_bind h
      refine mw_getI F hK hI (in_4 _) (hc_4) 4 (by decide) (mA k_212) rfl e_v1 d_M_crash_61 ?_
      refine lv_icmp_ge (tgt := 92) F.1 F.2.1 d_M_crash_64 (by decide) (fun hc => ?_) (fun hc => ?_)
      · rw [if_pos hc] at h
        refine mt_iload_n F hl 2 rfl rfl d_M_crash_92 ?_
        refine lv_if_le (tgt := 111) F.1 F.2.1 d_M_crash_93 (by decide) (fun hc => ?_) (fun hc => ?_)
        · rw [if_pos hc] at h
          refine mt_aload_n F hl 0 rfl rfl d_M_crash_111 ?_
          obtain ⟨v2, e_v2, h⟩ := mw_bind h
          refine mw_getR F hK hI (in_4 _) (hc_4) 0 (by decide) (mA k_56) rfl e_v2 d_M_crash_112 ?_
          refine mt_aload_n F hl 0 rfl rfl d_M_crash_115 ?_
          obtain ⟨v3, e_v3, h⟩ := mw_bind h
          refine mw_getR F hK hI (in_4 _) (hc_4) 2 (by decide) (mA k_58) rfl e_v3 d_M_crash_116 ?_
          obtain ⟨b4, e_b4, h⟩ := mw_bind h
          obtain ⟨S5, e_S5, h⟩ := mw_bind h
          refine mw_callv hI (mw_runV F hK hI (c_N_copy l D dA A _ _ _ _ e_S5) (cwV 1 F.2.2.2.2 (gd_V k_207 k_208 k_209 k_210 k_53) rfl rfl rfl hd_N_copy ⟨Nat.le_of_ble_eq_true rfl, Nat.le_of_ble_eq_true rfl⟩) (hc_5) e_b4 rfl hl.1 rfl (Nat.zero_le _) d_M_crash_119 ⟨(Nat.le_of_ble_eq_true rfl), (Nat.le_of_ble_eq_true rfl)⟩) (fun H locs hI => ?_)
          refine mt_aload_n F hl 0 rfl rfl d_M_crash_122 ?_
          obtain ⟨v6, e_v6, h⟩ := mw_bind h
          refine mw_getR F hK hI (in_4 _) (hc_4) 1 (by decide) (mA k_57) rfl e_v6 d_M_crash_123 ?_
          refine mt_aload_n F hl 0 rfl rfl d_M_crash_126 ?_
          obtain ⟨v7, e_v7, h⟩ := mw_bind h
          refine mw_getR F hK hI (in_4 _) (hc_4) 2 (by decide) (mA k_58) rfl e_v7 d_M_crash_127 ?_
          obtain ⟨b8, e_b8, h⟩ := mw_bind h
          obtain ⟨S9, e_S9, h⟩ := mw_bind h
          refine mw_callv hI (mw_runV F hK hI (c_N_copy l D dA A _ _ _ _ e_S9) (cwV 1 F.2.2.2.2 (gd_V k_207 k_208 k_209 k_210 k_53) rfl rfl rfl hd_N_copy ⟨Nat.le_of_ble_eq_true rfl, Nat.le_of_ble_eq_true rfl⟩) (hc_5) e_b8 rfl hl.1 rfl (Nat.zero_le _) d_M_crash_130 ⟨(Nat.le_of_ble_eq_true rfl), (Nat.le_of_ble_eq_true rfl)⟩) (fun H locs hI => ?_)
          refine mt_aload_n F hl 0 rfl rfl d_M_crash_133 ?_
          refine lv_iconst (v := 0) F.1 F.2.1 d_M_crash_134 (by decide) ?_
          obtain ⟨S10, e_S10, h⟩ := mw_bind h
          refine mw_put F hK hI (in_4 _) ty_4 ok_4 nm_4 (hc_4) 4 (by decide) (mA k_212) rfl rfl rfl rfl e_S10 d_M_crash_135 (fun H locs hI => ?_)
          refine mt_iload_n F hl 2 rfl rfl d_M_crash_138 ?_
          exact mw_iret F hI hr hlk h (Nat.le_of_ble_eq_true rfl) (Nat.le_of_ble_eq_true rfl) d_M_crash_139
        · rw [if_neg hc] at h
          refine mt_aload_n F hl 0 rfl rfl d_M_crash_96 ?_
          obtain ⟨v11, e_v11, h⟩ := mw_bind h
          refine mw_getR F hK hI (in_4 _) (hc_4) 2 (by decide) (mA k_58) rfl e_v11 d_M_crash_97 ?_
          refine mt_aload_n F hl 0 rfl rfl d_M_crash_100 ?_
          obtain ⟨v12, e_v12, h⟩ := mw_bind h
          refine mw_getR F hK hI (in_4 _) (hc_4) 3 (by decide) (mA k_59) rfl e_v12 d_M_crash_101 ?_
          refine mt_iload_n F hl 2 rfl rfl d_M_crash_104 ?_
          refine lv_iconst (v := 1) F.1 F.2.1 d_M_crash_105 (by decide) ?_
          refine lv_isub F.1 F.2.1 d_M_crash_106 ?_
          obtain ⟨v13, e_v13, h⟩ := mw_bind h
          refine mw_aald F hK hI (t0 := 5) rfl e_v13 d_M_crash_107 ?_
          obtain ⟨b14, e_b14, h⟩ := mw_bind h
          obtain ⟨S15, e_S15, h⟩ := mw_bind h
          refine mw_callv hI (mw_runV F hK hI (c_N_copy l D dA A _ _ _ _ e_S15) (cwV 1 F.2.2.2.2 (gd_V k_207 k_208 k_209 k_210 k_53) rfl rfl rfl hd_N_copy ⟨Nat.le_of_ble_eq_true rfl, Nat.le_of_ble_eq_true rfl⟩) (hc_5) e_b14 rfl hl.1 rfl (Nat.zero_le _) d_M_crash_108 ⟨(Nat.le_of_ble_eq_true rfl), (Nat.le_of_ble_eq_true rfl)⟩) (fun H locs hI => ?_)
          refine mt_aload_n F hl 0 rfl rfl d_M_crash_111 ?_
          obtain ⟨v16, e_v16, h⟩ := mw_bind h
          refine mw_getR F hK hI (in_4 _) (hc_4) 0 (by decide) (mA k_56) rfl e_v16 d_M_crash_112 ?_
          refine mt_aload_n F hl 0 rfl rfl d_M_crash_115 ?_
          obtain ⟨v17, e_v17, h⟩ := mw_bind h
          refine mw_getR F hK hI (in_4 _) (hc_4) 2 (by decide) (mA k_58) rfl e_v17 d_M_crash_116 ?_
          obtain ⟨b18, e_b18, h⟩ := mw_bind h
          obtain ⟨S19, e_S19, h⟩ := mw_bind h
          refine mw_callv hI (mw_runV F hK hI (c_N_copy l D dA A _ _ _ _ e_S19) (cwV 1 F.2.2.2.2 (gd_V k_207 k_208 k_209 k_210 k_53) rfl rfl rfl hd_N_copy ⟨Nat.le_of_ble_eq_true rfl, Nat.le_of_ble_eq_true rfl⟩) (hc_5) e_b18 rfl hl.1 rfl (Nat.zero_le _) d_M_crash_119 ⟨(Nat.le_of_ble_eq_true rfl), (Nat.le_of_ble_eq_true rfl)⟩) (fun H locs hI => ?_)
          refine mt_aload_n F hl 0 rfl rfl d_M_crash_122 ?_
          obtain ⟨v20, e_v20, h⟩ := mw_bind h
          refine mw_getR F hK hI (in_4 _) (hc_4) 1 (by decide) (mA k_57) rfl e_v20 d_M_crash_123 ?_
          refine mt_aload_n F hl 0 rfl rfl d_M_crash_126 ?_
          obtain ⟨v21, e_v21, h⟩ := mw_bind h
          refine mw_getR F hK hI (in_4 _) (hc_4) 2 (by decide) (mA k_58) rfl e_v21 d_M_crash_127 ?_
          obtain ⟨b22, e_b22, h⟩ := mw_bind h
          obtain ⟨S23, e_S23, h⟩ := mw_bind h
          refine mw_callv hI (mw_runV F hK hI (c_N_copy l D dA A _ _ _ _ e_S23) (cwV 1 F.2.2.2.2 (gd_V k_207 k_208 k_209 k_210 k_53) rfl rfl rfl hd_N_copy ⟨Nat.le_of_ble_eq_true rfl, Nat.le_of_ble_eq_true rfl⟩) (hc_5) e_b22 rfl hl.1 rfl (Nat.zero_le _) d_M_crash_130 ⟨(Nat.le_of_ble_eq_true rfl), (Nat.le_of_ble_eq_true rfl)⟩) (fun H locs hI => ?_)
          refine mt_aload_n F hl 0 rfl rfl d_M_crash_133 ?_
          refine lv_iconst (v := 0) F.1 F.2.1 d_M_crash_134 (by decide) ?_
          obtain ⟨S24, e_S24, h⟩ := mw_bind h
          refine mw_put F hK hI (in_4 _) ty_4 ok_4 nm_4 (hc_4) 4 (by decide) (mA k_212) rfl rfl rfl rfl e_S24 d_M_crash_135 (fun H locs hI => ?_)
          refine mt_iload_n F hl 2 rfl rfl d_M_crash_138 ?_
          exact mw_iret F hI hr hlk h (Nat.le_of_ble_eq_true rfl) (Nat.le_of_ble_eq_true rfl) d_M_crash_139
      · rw [if_neg hc] at h
        refine mt_aload_n F hl 0 rfl rfl d_M_crash_67 ?_
        refine lv_dup F.1 F.2.1 d_M_crash_68 (mw_cat _) ?_
        obtain ⟨v25, e_v25, h⟩ := mw_bind h
        refine mw_getI F hK hI (in_4 _) (hc_4) 5 (by decide) (mA k_211) rfl e_v25 d_M_crash_69 ?_
        refine mt_aload_n F hl 0 rfl rfl d_M_crash_72 ?_
        obtain ⟨v26, e_v26, h⟩ := mw_bind h
        refine mw_getR F hK hI (in_4 _) (hc_4) 3 (by decide) (mA k_59) rfl e_v26 d_M_crash_73 ?_
        refine mt_iload F hl 4 rfl d_M_crash_76 ?_
        obtain ⟨v27, e_v27, h⟩ := mw_bind h
        refine mw_aald F hK hI (t0 := 5) rfl e_v27 d_M_crash_78 ?_
        obtain ⟨v28, e_v28, h⟩ := mw_bind h
        refine mw_getI F hK hI (in_5 _) (hc_5) 7 (by decide) (mA k_213) rfl e_v28 d_M_crash_79 ?_
        refine lv_isub F.1 F.2.1 d_M_crash_82 ?_
        obtain ⟨S29, e_S29, h⟩ := mw_bind h
        refine mw_put F hK hI (in_4 _) ty_4 ok_4 nm_4 (hc_4) 5 (by decide) (mA k_211) rfl rfl rfl rfl e_S29 d_M_crash_83 (fun H locs hI => ?_)
        refine mt_iinc (v := (x5 + 1)) F hl 4 rfl (by rw [show Int32.ofInt 1 = (1 : Int32) from by decide]) (Nat.le_of_ble_eq_true rfl) rfl d_M_crash_86 (fun ls hl => ?_)
        have hl : mt_L ls 6 [(5, (.inl (x5 + 1))), (0, (.inr (.inr (some b0)))), (1, (.inl x1)), (2, (.inl x2)), (3, (.inr (.inl y3)))] := hl
        refine lv_goto (tgt := 58) F.1 F.2.1 d_M_crash_89 (by decide) ?_
        refine W.widen (k := 0) (n := 0) (Nat.le_of_ble_eq_true rfl) (Nat.le_of_ble_eq_true rfl) ?_
        exact ih.2 _ _ _ _ _ _ _ _ hI (mt_sub hl [1, 2, 3, 4, 0] rfl) h
set_option maxHeartbeats 4000000 in
set_option maxRecDepth 100000 in
theorem c_M_crash (l : Launch) (D : va_G) (dA : Nat → ClassId) (A : Nat → Prop) (b0 : Nat) (a1 : Int32) (S : mc_S) (out : (Int32 × mc_S)) (hf : f_M_crash b0 a1 S = some out) : Met l y_M_crash (cd_M_crash :: ALL) rm_M_crash (va_Pc [va_rf (some b0), .int a1] (mw_B D dA CL (TY dA) ZZ A S)) (va_Qi (fun x (_ : Unit) => x = out.1) (fun _ t => mw_R D dA CL A out.2 t) A) 0 0 A := by
  refine mw_ofW (cc := b_M_crash) (maxL := 6) (ret := (some .int)) [(.inr (.inr (some b0))), (.inl a1)] rfl (by decide +kernel) (Nat.le_of_ble_eq_true rfl) (L := [(0, (.inr (.inr (some b0)))), (1, (.inl a1))]) rfl (fun p e s m args below meth c F hr hlk hnm hK ls hl hI => ?_)
  have h := hf
  unfold f_M_crash at h
  refine mt_iload_n F hl 1 rfl rfl d_M_crash_0 ?_
  refine lv_if_ge (tgt := 6) F.1 F.2.1 d_M_crash_1 (by decide) (fun hc => ?_) (fun hc => ?_)
  · rw [if_pos hc] at h
    refine lv_iconst (v := 0) F.1 F.2.1 d_M_crash_6 (by decide) ?_
    refine mt_istore_n F hl rfl (Nat.le_of_ble_eq_true rfl) rfl d_M_crash_7 (fun ls hl => ?_)
    have hl : mt_L ls 6 [(2, (.inl 0)), (0, (.inr (.inr (some b0)))), (1, (.inl a1))] := hl
    refine lv_lconst (v := 0) F.1 F.2.1 d_M_crash_8 (by decide) ?_
    refine mt_lstore_n F hl rfl (Nat.le_of_ble_eq_true rfl) rfl d_M_crash_9 (fun ls hl => ?_)
    have hl : mt_L ls 6 [(3, (.inr (.inl 0))), (2, (.inl 0)), (0, (.inr (.inr (some b0)))), (1, (.inl a1))] := hl
    refine W.widen (k := 0) (n := 0) (Nat.le_of_ble_eq_true rfl) (Nat.le_of_ble_eq_true rfl) ?_
    exact (s_M_crash l D dA A b0 F hr hlk hnm hK out 5000).1 _ _ _ _ _ _ _ _ hI (mt_sub hl [2, 3, 1, 0] rfl) h
  · rw [if_neg hc] at h
    refine lv_iconst (v := (-1)) F.1 F.2.1 d_M_crash_4 (by decide) ?_
    exact mw_iret F hI hr hlk h (Nat.le_of_ble_eq_true rfl) (Nat.le_of_ble_eq_true rfl) d_M_crash_5
abbrev rm_K_kind : Room := { frames := 0, cells := 0, slots := 0, locals := 0 }
set_option maxHeartbeats 4000000 in
set_option maxRecDepth 100000 in
theorem c_K_kind (l : Launch) (D : va_G) (dA : Nat → ClassId) (A : Nat → Prop) (b0 : Nat) (a1 : Int32) (S : mc_S) (out : (Int32 × mc_S)) (hf : f_K_kind b0 a1 S = some out) : Met l y_K_kind (cd_K_kind :: ALL) rm_K_kind (va_Pc [va_rf (some b0), .int a1] (mw_B D dA CL (TY dA) ZZ A S)) (va_Qi (fun x (_ : Unit) => x = out.1) (fun _ t => mw_R D dA CL A out.2 t) A) 0 0 A := by
  refine mw_ofW (cc := b_K_kind) (maxL := 3) (ret := (some .int)) [(.inr (.inr (some b0))), (.inl a1)] rfl (by decide +kernel) (Nat.le_of_ble_eq_true rfl) (L := [(0, (.inr (.inr (some b0)))), (1, (.inl a1))]) rfl (fun p e s m args below meth c F hr hlk hnm hK ls hl hI => ?_)
  have h := hf
  unfold f_K_kind at h
  refine mt_iload_n F hl 1 rfl rfl d_K_kind_0 ?_
  refine lv_if_lt (tgt := 10) F.1 F.2.1 d_K_kind_1 (by decide) (fun hc => ?_) (fun hc => ?_)
  · rw [if_pos hc] at h
    refine lv_iconst (v := (-1)) F.1 F.2.1 d_K_kind_10 (by decide) ?_
    exact mw_iret F hI hr hlk h (Nat.le_of_ble_eq_true rfl) (Nat.le_of_ble_eq_true rfl) d_K_kind_11
  · rw [if_neg hc] at h
    refine mt_iload_n F hl 1 rfl rfl d_K_kind_4 ?_
    refine lv_bipush (v := 100) F.1 F.2.1 d_K_kind_5 (by decide) ?_
    refine lv_icmp_lt (tgt := 12) F.1 F.2.1 d_K_kind_7 (by decide) (fun hc => ?_) (fun hc => ?_)
    · rw [if_pos hc] at h
      refine mt_aload_n F hl 0 rfl rfl d_K_kind_12 ?_
      obtain ⟨v1, e_v1, h⟩ := mw_bind h
      refine mw_getR F hK hI (in_0 _) (hc_0) 0 (by decide) (mA k_42) rfl e_v1 d_K_kind_13 ?_
      obtain ⟨v2, e_v2, h⟩ := mw_bind h
      refine mw_getR F hK hI (in_2 _) (hc_2) 0 (by decide) (mA k_62) rfl e_v2 d_K_kind_16 ?_
      refine mt_iload_n F hl 1 rfl rfl d_K_kind_19 ?_
      obtain ⟨v3, e_v3, h⟩ := mw_bind h
      refine mw_aald F hK hI (t0 := 3) rfl e_v3 d_K_kind_20 ?_
      refine mt_astore_n F hl rfl (Nat.le_of_ble_eq_true rfl) rfl d_K_kind_21 (fun ls hl => ?_)
      have hl : mt_L ls 3 [(2, (.inr (.inr v3))), (0, (.inr (.inr (some b0)))), (1, (.inl a1))] := hl
      refine mt_aload_n F hl 0 rfl rfl d_K_kind_22 ?_
      refine mw_ifnonnull (tgt := 30) F d_K_kind_23 (by decide) (fun hc => ?_) (fun hc => ?_)
      · rw [if_neg hc] at h
        refine mt_aload_n F hl 0 rfl rfl d_K_kind_30 ?_
        obtain ⟨v4, e_v4, h⟩ := mw_bind h
        refine mw_getI F hK hI (in_1 _) (hc_1) 0 (by decide) (mA k_252) rfl e_v4 d_K_kind_31 ?_
        exact mw_iret F hI hr hlk h (Nat.le_of_ble_eq_true rfl) (Nat.le_of_ble_eq_true rfl) d_K_kind_34
      · rw [if_pos hc] at h
        refine lv_iconst (v := 0) F.1 F.2.1 d_K_kind_26 (by decide) ?_
        refine lv_goto (tgt := 34) F.1 F.2.1 d_K_kind_27 (by decide) ?_
        exact mw_iret F hI hr hlk h (Nat.le_of_ble_eq_true rfl) (Nat.le_of_ble_eq_true rfl) d_K_kind_34
    · rw [if_neg hc] at h
      refine lv_iconst (v := (-1)) F.1 F.2.1 d_K_kind_10 (by decide) ?_
      exact mw_iret F hI hr hlk h (Nat.le_of_ble_eq_true rfl) (Nat.le_of_ble_eq_true rfl) d_K_kind_11
abbrev rm_M_kind : Room := { frames := 1, cells := 0, slots := 0, locals := 25 }
set_option maxHeartbeats 4000000 in
set_option maxRecDepth 100000 in
theorem c_M_kind (l : Launch) (D : va_G) (dA : Nat → ClassId) (A : Nat → Prop) (b0 : Nat) (a1 : Int32) (S : mc_S) (out : (Int32 × mc_S)) (hf : f_M_kind b0 a1 S = some out) : Met l y_M_kind (cd_M_kind :: ALL) rm_M_kind (va_Pc [va_rf (some b0), .int a1] (mw_B D dA CL (TY dA) ZZ A S)) (va_Qi (fun x (_ : Unit) => x = out.1) (fun _ t => mw_R D dA CL A out.2 t) A) 0 0 A := by
  refine mw_ofW (cc := b_M_kind) (maxL := 2) (ret := (some .int)) [(.inr (.inr (some b0))), (.inl a1)] rfl (by decide +kernel) (Nat.le_of_ble_eq_true rfl) (L := [(0, (.inr (.inr (some b0)))), (1, (.inl a1))]) rfl (fun p e s m args below meth c F hr hlk hnm hK ls hl hI => ?_)
  have h := hf
  unfold f_M_kind at h
  refine mt_iload_n F hl 1 rfl rfl d_M_kind_0 ?_
  refine lv_i2l F.1 F.2.1 d_M_kind_1 rfl ?_
  refine lv_lconst (v := 0) F.1 F.2.1 d_M_kind_2 (by decide) ?_
  refine lv_ldc2 (v := 99) F.1 F.2.1 F.2.2.2.1 (F.2.2.2.2 _ (mA k_126)) d_M_kind_3 ?_
  obtain ⟨o1, e_o1, h⟩ := mw_bind h
  refine mw_calli hI (mw_runS F hK hI (c_M_in l D dA A _ _ _ _ _ e_o1) (cwS 3 F.2.2.2.2 (gd_S k_127 k_128 k_129 k_130) rfl rfl rfl hd_M_in ⟨Nat.le_of_ble_eq_true rfl, Nat.le_of_ble_eq_true rfl⟩) rfl hl.1 rfl (Nat.zero_le _) d_M_kind_6 ⟨(Nat.le_of_ble_eq_true rfl), (Nat.le_of_ble_eq_true rfl)⟩) (fun H locs hI => ?_)
  refine lv_if_eq (tgt := 24) F.1 F.2.1 d_M_kind_9 (by decide) (fun hc => ?_) (fun hc => ?_)
  · rw [if_pos hc] at h
    refine lv_iconst (v := (-1)) F.1 F.2.1 d_M_kind_24 (by decide) ?_
    exact mw_iret F hI hr hlk h (Nat.le_of_ble_eq_true rfl) (Nat.le_of_ble_eq_true rfl) d_M_kind_25
  · rw [if_neg hc] at h
    refine mt_aload_n F hl 0 rfl rfl d_M_kind_12 ?_
    obtain ⟨v2, e_v2, h⟩ := mw_bind h
    refine mw_getR F hK hI (in_4 _) (hc_4) 0 (by decide) (mA k_56) rfl e_v2 d_M_kind_13 ?_
    obtain ⟨v3, e_v3, h⟩ := mw_bind h
    refine mw_getR F hK hI (in_5 _) (hc_5) 0 (by decide) (mA k_63) rfl e_v3 d_M_kind_16 ?_
    refine mt_iload_n F hl 1 rfl rfl d_M_kind_19 ?_
    obtain ⟨v4, e_v4, h⟩ := mw_bind h
    refine mw_iald F hK hI (t0 := 0) rfl e_v4 d_M_kind_20 ?_
    refine lv_goto (tgt := 25) F.1 F.2.1 d_M_kind_21 (by decide) ?_
    exact mw_iret F hI hr hlk h (Nat.le_of_ble_eq_true rfl) (Nat.le_of_ble_eq_true rfl) d_M_kind_25
abbrev rm_K_size : Room := { frames := 0, cells := 0, slots := 0, locals := 0 }
set_option maxHeartbeats 4000000 in
set_option maxRecDepth 100000 in
theorem c_K_size (l : Launch) (D : va_G) (dA : Nat → ClassId) (A : Nat → Prop) (b0 : Nat) (a1 : Int32) (S : mc_S) (out : (Int32 × mc_S)) (hf : f_K_size b0 a1 S = some out) : Met l y_K_size (cd_K_size :: ALL) rm_K_size (va_Pc [va_rf (some b0), .int a1] (mw_B D dA CL (TY dA) ZZ A S)) (va_Qi (fun x (_ : Unit) => x = out.1) (fun _ t => mw_R D dA CL A out.2 t) A) 0 0 A := by
  refine mw_ofW (cc := b_K_size) (maxL := 3) (ret := (some .int)) [(.inr (.inr (some b0))), (.inl a1)] rfl (by decide +kernel) (Nat.le_of_ble_eq_true rfl) (L := [(0, (.inr (.inr (some b0)))), (1, (.inl a1))]) rfl (fun p e s m args below meth c F hr hlk hnm hK ls hl hI => ?_)
  have h := hf
  unfold f_K_size at h
  refine mt_iload_n F hl 1 rfl rfl d_K_size_0 ?_
  refine lv_if_lt (tgt := 10) F.1 F.2.1 d_K_size_1 (by decide) (fun hc => ?_) (fun hc => ?_)
  · rw [if_pos hc] at h
    refine lv_iconst (v := (-1)) F.1 F.2.1 d_K_size_10 (by decide) ?_
    exact mw_iret F hI hr hlk h (Nat.le_of_ble_eq_true rfl) (Nat.le_of_ble_eq_true rfl) d_K_size_11
  · rw [if_neg hc] at h
    refine mt_iload_n F hl 1 rfl rfl d_K_size_4 ?_
    refine lv_bipush (v := 100) F.1 F.2.1 d_K_size_5 (by decide) ?_
    refine lv_icmp_lt (tgt := 12) F.1 F.2.1 d_K_size_7 (by decide) (fun hc => ?_) (fun hc => ?_)
    · rw [if_pos hc] at h
      refine mt_aload_n F hl 0 rfl rfl d_K_size_12 ?_
      obtain ⟨v1, e_v1, h⟩ := mw_bind h
      refine mw_getR F hK hI (in_0 _) (hc_0) 0 (by decide) (mA k_42) rfl e_v1 d_K_size_13 ?_
      obtain ⟨v2, e_v2, h⟩ := mw_bind h
      refine mw_getR F hK hI (in_2 _) (hc_2) 0 (by decide) (mA k_62) rfl e_v2 d_K_size_16 ?_
      refine mt_iload_n F hl 1 rfl rfl d_K_size_19 ?_
      obtain ⟨v3, e_v3, h⟩ := mw_bind h
      refine mw_aald F hK hI (t0 := 3) rfl e_v3 d_K_size_20 ?_
      refine mt_astore_n F hl rfl (Nat.le_of_ble_eq_true rfl) rfl d_K_size_21 (fun ls hl => ?_)
      have hl : mt_L ls 3 [(2, (.inr (.inr v3))), (0, (.inr (.inr (some b0)))), (1, (.inl a1))] := hl
      refine mt_aload_n F hl 0 rfl rfl d_K_size_22 ?_
      refine mw_ifnonnull (tgt := 30) F d_K_size_23 (by decide) (fun hc => ?_) (fun hc => ?_)
      · rw [if_neg hc] at h
        refine mt_aload_n F hl 0 rfl rfl d_K_size_30 ?_
        obtain ⟨v4, e_v4, h⟩ := mw_bind h
        refine mw_getI F hK hI (in_1 _) (hc_1) 3 (by decide) (mA k_253) rfl e_v4 d_K_size_31 ?_
        exact mw_iret F hI hr hlk h (Nat.le_of_ble_eq_true rfl) (Nat.le_of_ble_eq_true rfl) d_K_size_34
      · rw [if_pos hc] at h
        refine lv_iconst (v := (-1)) F.1 F.2.1 d_K_size_26 (by decide) ?_
        refine lv_goto (tgt := 34) F.1 F.2.1 d_K_size_27 (by decide) ?_
        exact mw_iret F hI hr hlk h (Nat.le_of_ble_eq_true rfl) (Nat.le_of_ble_eq_true rfl) d_K_size_34
    · rw [if_neg hc] at h
      refine lv_iconst (v := (-1)) F.1 F.2.1 d_K_size_10 (by decide) ?_
      exact mw_iret F hI hr hlk h (Nat.le_of_ble_eq_true rfl) (Nat.le_of_ble_eq_true rfl) d_K_size_11
abbrev rm_M_size : Room := { frames := 2, cells := 0, slots := 0, locals := 46 }
set_option maxHeartbeats 4000000 in
set_option maxRecDepth 100000 in
theorem c_M_size (l : Launch) (D : va_G) (dA : Nat → ClassId) (A : Nat → Prop) (b0 : Nat) (a1 : Int32) (S : mc_S) (out : (Int32 × mc_S)) (hf : f_M_size b0 a1 S = some out) : Met l y_M_size (cd_M_size :: ALL) rm_M_size (va_Pc [va_rf (some b0), .int a1] (mw_B D dA CL (TY dA) ZZ A S)) (va_Qi (fun x (_ : Unit) => x = out.1) (fun _ t => mw_R D dA CL A out.2 t) A) 0 0 A := by
  refine mw_ofW (cc := b_M_size) (maxL := 2) (ret := (some .int)) [(.inr (.inr (some b0))), (.inl a1)] rfl (by decide +kernel) (Nat.le_of_ble_eq_true rfl) (L := [(0, (.inr (.inr (some b0)))), (1, (.inl a1))]) rfl (fun p e s m args below meth c F hr hlk hnm hK ls hl hI => ?_)
  have h := hf
  unfold f_M_size at h
  refine mt_aload_n F hl 0 rfl rfl d_M_size_0 ?_
  refine mt_iload_n F hl 1 rfl rfl d_M_size_1 ?_
  obtain ⟨b1, e_b1, h⟩ := mw_bind h
  obtain ⟨o2, e_o2, h⟩ := mw_bind h
  refine mw_calli hI (mw_runV F hK hI (c_M_isThere l D dA A _ _ _ _ e_o2) (cwV 1 F.2.2.2.2 (gd_V k_131 k_132 k_133 k_134 k_130) rfl rfl rfl hd_M_isThere ⟨Nat.le_of_ble_eq_true rfl, Nat.le_of_ble_eq_true rfl⟩) (hc_4) e_b1 rfl hl.1 rfl (Nat.zero_le _) d_M_size_2 ⟨(Nat.le_of_ble_eq_true rfl), (Nat.le_of_ble_eq_true rfl)⟩) (fun H locs hI => ?_)
  refine lv_if_eq (tgt := 20) F.1 F.2.1 d_M_size_5 (by decide) (fun hc => ?_) (fun hc => ?_)
  · rw [if_pos hc] at h
    refine lv_iconst (v := (-1)) F.1 F.2.1 d_M_size_20 (by decide) ?_
    exact mw_iret F hI hr hlk h (Nat.le_of_ble_eq_true rfl) (Nat.le_of_ble_eq_true rfl) d_M_size_21
  · rw [if_neg hc] at h
    refine mt_aload_n F hl 0 rfl rfl d_M_size_8 ?_
    obtain ⟨v3, e_v3, h⟩ := mw_bind h
    refine mw_getR F hK hI (in_4 _) (hc_4) 0 (by decide) (mA k_56) rfl e_v3 d_M_size_9 ?_
    obtain ⟨v4, e_v4, h⟩ := mw_bind h
    refine mw_getR F hK hI (in_5 _) (hc_5) 1 (by decide) (mA k_64) rfl e_v4 d_M_size_12 ?_
    refine mt_iload_n F hl 1 rfl rfl d_M_size_15 ?_
    obtain ⟨v5, e_v5, h⟩ := mw_bind h
    refine mw_iald F hK hI (t0 := 0) rfl e_v5 d_M_size_16 ?_
    refine lv_goto (tgt := 21) F.1 F.2.1 d_M_size_17 (by decide) ?_
    exact mw_iret F hI hr hlk h (Nat.le_of_ble_eq_true rfl) (Nat.le_of_ble_eq_true rfl) d_M_size_21
abbrev rm_T_objectsThere : Room := { frames := 0, cells := 0, slots := 0, locals := 0 }
set_option maxHeartbeats 4000000 in
set_option maxRecDepth 100000 in
theorem s_T_objectsThere (l : Launch) (D : va_G) (dA : Nat → ClassId) (A : Nat → Prop) (b0 : Nat) {p : Program} {e : Env} {s : State} {m : MethodId} {args : Array Value} {below : List Frame} {meth : Method} {c : Code} (F : CallFix p m c b_T_objectsThere 3 s args (cd_T_objectsThere :: ALL) y_T_objectsThere.cls) (hr : meth.sig.returnType = (some .int)) (hlk : meth.locks = false) (hnm : meth.name = y_T_objectsThere.name) (hK : mw_K D CL (TY dA) ZZ s) (out : (Int32 × mc_S)) : ∀ n : Nat, (∀ (x1 : Int32) (x2 : Int32) (S : mc_S) (H : Heap) (locs : List Loc) (ls : Array Slot), mw_I D dA CL A S s.heap H locs → mt_L ls 3 [(0, (.inr (.inr (some b0)))), (1, (.inl x1)), (2, (.inl x2))] → g_T_objectsThere b0 n x1 x2 S = some out → W p l e rm_T_objectsThere s m args below meth c H locs (0) (0) (MQ below (va_Qi (fun x (_ : Unit) => x = out.1) (fun _ t => mw_R D dA CL A out.2 t) A) args s 0 0 A) (F0 m 4 ls [])) := by
  intro n
  induction n with
  | zero =>
    intro x1 x2 S H locs ls hI hl h; have h : (none : Option (Int32 × mc_S)) = some out := h; cases h
  | succ k0 ih =>
    intro x1 x2 S H locs ls hI hl h
    have h : q_T_objectsThere_0 b0 (g_T_objectsThere b0 k0) x1 x2 S = some out := h
    unfold q_T_objectsThere_0 at h
    refine mt_iload_n F hl 2 rfl rfl d_T_objectsThere_4 ?_
    refine lv_bipush (v := 100) F.1 F.2.1 d_T_objectsThere_5 (by decide) ?_
    refine lv_icmp_ge (tgt := 28) F.1 F.2.1 d_T_objectsThere_7 (by decide) (fun hc => ?_) (fun hc => ?_)
    · rw [if_pos hc] at h
      refine mt_iload_n F hl 1 rfl rfl d_T_objectsThere_28 ?_
      exact mw_iret F hI hr hlk h (Nat.le_of_ble_eq_true rfl) (Nat.le_of_ble_eq_true rfl) d_T_objectsThere_29
    · rw [if_neg hc] at h
      refine mt_aload_n F hl 0 rfl rfl d_T_objectsThere_10 ?_
      obtain ⟨v1, e_v1, h⟩ := mw_bind h
      refine mw_getR F hK hI (in_2 _) (hc_2) 0 (by decide) (mA k_16) rfl e_v1 d_T_objectsThere_11 ?_
      refine mt_iload_n F hl 2 rfl rfl d_T_objectsThere_14 ?_
      obtain ⟨v2, e_v2, h⟩ := mw_bind h
      refine mw_aald F hK hI (t0 := 3) rfl e_v2 d_T_objectsThere_15 ?_
      refine mw_ifnull (tgt := 22) F d_T_objectsThere_16 (by decide) (fun hc => ?_) (fun hc => ?_)
      · rw [if_pos hc] at h
        refine mt_iinc (v := (x2 + 1)) F hl 2 rfl (by rw [show Int32.ofInt 1 = (1 : Int32) from by decide]) (Nat.le_of_ble_eq_true rfl) rfl d_T_objectsThere_22 (fun ls hl => ?_)
        have hl : mt_L ls 3 [(2, (.inl (x2 + 1))), (0, (.inr (.inr (some b0)))), (1, (.inl x1))] := hl
        refine lv_goto (tgt := 4) F.1 F.2.1 d_T_objectsThere_25 (by decide) ?_
        refine W.widen (k := 0) (n := 0) (Nat.le_of_ble_eq_true rfl) (Nat.le_of_ble_eq_true rfl) ?_
        exact ih _ _ _ _ _ _ hI (mt_sub hl [1, 2, 0] rfl) h
      · rw [if_neg hc] at h
        refine mt_iinc (v := (x1 + 1)) F hl 1 rfl (by rw [show Int32.ofInt 1 = (1 : Int32) from by decide]) (Nat.le_of_ble_eq_true rfl) rfl d_T_objectsThere_19 (fun ls hl => ?_)
        have hl : mt_L ls 3 [(1, (.inl (x1 + 1))), (0, (.inr (.inr (some b0)))), (2, (.inl x2))] := hl
        refine mt_iinc (v := (x2 + 1)) F hl 2 rfl (by rw [show Int32.ofInt 1 = (1 : Int32) from by decide]) (Nat.le_of_ble_eq_true rfl) rfl d_T_objectsThere_22 (fun ls hl => ?_)
        have hl : mt_L ls 3 [(2, (.inl (x2 + 1))), (1, (.inl (x1 + 1))), (0, (.inr (.inr (some b0))))] := hl
        refine lv_goto (tgt := 4) F.1 F.2.1 d_T_objectsThere_25 (by decide) ?_
        refine W.widen (k := 0) (n := 0) (Nat.le_of_ble_eq_true rfl) (Nat.le_of_ble_eq_true rfl) ?_
        exact ih _ _ _ _ _ _ hI (mt_sub hl [2, 1, 0] rfl) h
set_option maxHeartbeats 4000000 in
set_option maxRecDepth 100000 in
theorem c_T_objectsThere (l : Launch) (D : va_G) (dA : Nat → ClassId) (A : Nat → Prop) (b0 : Nat) (S : mc_S) (out : (Int32 × mc_S)) (hf : f_T_objectsThere b0 S = some out) : Met l y_T_objectsThere (cd_T_objectsThere :: ALL) rm_T_objectsThere (va_Pc [va_rf (some b0)] (mw_B D dA CL (TY dA) ZZ A S)) (va_Qi (fun x (_ : Unit) => x = out.1) (fun _ t => mw_R D dA CL A out.2 t) A) 0 0 A := by
  refine mw_ofW (cc := b_T_objectsThere) (maxL := 3) (ret := (some .int)) [(.inr (.inr (some b0)))] rfl (by decide +kernel) (Nat.le_of_ble_eq_true rfl) (L := [(0, (.inr (.inr (some b0))))]) rfl (fun p e s m args below meth c F hr hlk hnm hK ls hl hI => ?_)
  have h := hf
  unfold f_T_objectsThere at h
  refine lv_iconst (v := 0) F.1 F.2.1 d_T_objectsThere_0 (by decide) ?_
  refine mt_istore_n F hl rfl (Nat.le_of_ble_eq_true rfl) rfl d_T_objectsThere_1 (fun ls hl => ?_)
  have hl : mt_L ls 3 [(1, (.inl 0)), (0, (.inr (.inr (some b0))))] := hl
  refine lv_iconst (v := 0) F.1 F.2.1 d_T_objectsThere_2 (by decide) ?_
  refine mt_istore_n F hl rfl (Nat.le_of_ble_eq_true rfl) rfl d_T_objectsThere_3 (fun ls hl => ?_)
  have hl : mt_L ls 3 [(2, (.inl 0)), (1, (.inl 0)), (0, (.inr (.inr (some b0))))] := hl
  refine W.widen (k := 0) (n := 0) (Nat.le_of_ble_eq_true rfl) (Nat.le_of_ble_eq_true rfl) ?_
  exact (s_T_objectsThere l D dA A b0 F hr hlk hnm hK out 5000) _ _ _ _ _ _ hI (mt_sub hl [2, 1, 0] rfl) h
abbrev rm_K_count : Room := { frames := 1, cells := 0, slots := 0, locals := 22 }
set_option maxHeartbeats 4000000 in
set_option maxRecDepth 100000 in
theorem c_K_count (l : Launch) (D : va_G) (dA : Nat → ClassId) (A : Nat → Prop) (b0 : Nat) (a1 : Int32) (S : mc_S) (out : (Int32 × mc_S)) (hf : f_K_count b0 a1 S = some out) : Met l y_K_count (cd_K_count :: ALL) rm_K_count (va_Pc [va_rf (some b0), .int a1] (mw_B D dA CL (TY dA) ZZ A S)) (va_Qi (fun x (_ : Unit) => x = out.1) (fun _ t => mw_R D dA CL A out.2 t) A) 0 0 A := by
  refine mw_ofW (cc := b_K_count) (maxL := 2) (ret := (some .int)) [(.inr (.inr (some b0))), (.inl a1)] rfl (by decide +kernel) (Nat.le_of_ble_eq_true rfl) (L := [(0, (.inr (.inr (some b0)))), (1, (.inl a1))]) rfl (fun p e s m args below meth c F hr hlk hnm hK ls hl hI => ?_)
  have h := hf
  unfold f_K_count at h
  refine mt_iload_n F hl 1 rfl rfl d_K_count_0 ?_
  by_cases hk0 : a1 = (0 : Int32)
  · rw [if_pos hk0] at h
    refine mw_tabIn (tgt := 32) (off := 31) F hk0 d_K_count_1 (by decide) (by decide) (by rfl) (by decide) ?_
    refine mt_aload_n F hl 0 rfl rfl d_K_count_32 ?_
    obtain ⟨v1, e_v1, h⟩ := mw_bind h
    refine mw_getR F hK hI (in_0 _) (hc_0) 0 (by decide) (mA k_42) rfl e_v1 d_K_count_33 ?_
    obtain ⟨b2, e_b2, h⟩ := mw_bind h
    obtain ⟨o3, e_o3, h⟩ := mw_bind h
    refine mw_calli hI (mw_runV F hK hI (c_T_objectsThere l D dA A _ _ _ e_o3) (cwV 0 F.2.2.2.2 (gd_V k_254 k_255 k_256 k_257 k_38) rfl rfl rfl hd_T_objectsThere ⟨Nat.le_of_ble_eq_true rfl, Nat.le_of_ble_eq_true rfl⟩) (hc_2) e_b2 rfl hl.1 rfl (Nat.zero_le _) d_K_count_36 ⟨(Nat.le_of_ble_eq_true rfl), (Nat.le_of_ble_eq_true rfl)⟩) (fun H locs hI => ?_)
    exact mw_iret F hI hr hlk h (Nat.le_of_ble_eq_true rfl) (Nat.le_of_ble_eq_true rfl) d_K_count_39
  · rw [if_neg hk0] at h
    by_cases hk1 : a1 = (1 : Int32)
    · rw [if_pos hk1] at h
      refine mw_tabIn (tgt := 40) (off := 39) F hk1 d_K_count_1 (by decide) (by decide) (by rfl) (by decide) ?_
      refine mt_aload_n F hl 0 rfl rfl d_K_count_40 ?_
      obtain ⟨v4, e_v4, h⟩ := mw_bind h
      refine mw_getR F hK hI (in_0 _) (hc_0) 0 (by decide) (mA k_42) rfl e_v4 d_K_count_41 ?_
      obtain ⟨v5, e_v5, h⟩ := mw_bind h
      refine mw_getR F hK hI (in_2 _) (hc_2) 1 (by decide) (mA k_167) rfl e_v5 d_K_count_44 ?_
      obtain ⟨v6, e_v6, h⟩ := mw_bind h
      refine mw_getI F hK hI (in_1 _) (hc_1) 3 (by decide) (mA k_253) rfl e_v6 d_K_count_47 ?_
      exact mw_iret F hI hr hlk h (Nat.le_of_ble_eq_true rfl) (Nat.le_of_ble_eq_true rfl) d_K_count_50
    · rw [if_neg hk1] at h
      by_cases hk2 : a1 = (2 : Int32)
      · rw [if_pos hk2] at h
        refine mw_tabIn (tgt := 51) (off := 50) F hk2 d_K_count_1 (by decide) (by decide) (by rfl) (by decide) ?_
        refine mt_aload_n F hl 0 rfl rfl d_K_count_51 ?_
        obtain ⟨v7, e_v7, h⟩ := mw_bind h
        refine mw_getI F hK hI (in_0 _) (hc_0) 5 (by decide) (mA k_29) rfl e_v7 d_K_count_52 ?_
        exact mw_iret F hI hr hlk h (Nat.le_of_ble_eq_true rfl) (Nat.le_of_ble_eq_true rfl) d_K_count_55
      · rw [if_neg hk2] at h
        by_cases hk3 : a1 = (3 : Int32)
        · rw [if_pos hk3] at h
          refine mw_tabIn (tgt := 56) (off := 55) F hk3 d_K_count_1 (by decide) (by decide) (by rfl) (by decide) ?_
          refine mt_aload_n F hl 0 rfl rfl d_K_count_56 ?_
          obtain ⟨v8, e_v8, h⟩ := mw_bind h
          refine mw_getI F hK hI (in_0 _) (hc_0) 6 (by decide) (mA k_30) rfl e_v8 d_K_count_57 ?_
          exact mw_iret F hI hr hlk h (Nat.le_of_ble_eq_true rfl) (Nat.le_of_ble_eq_true rfl) d_K_count_60
        · rw [if_neg hk3] at h
          refine lv_tableOut (tgt := 61) F.1 F.2.1 d_K_count_1 (by have z0 := lv_neT hk0 (show (0 : Int32).toInt = 0 by decide); have z1 := lv_neT hk1 (show (1 : Int32).toInt = 1 by decide); have z2 := lv_neT hk2 (show (2 : Int32).toInt = 2 by decide); have z3 := lv_neT hk3 (show (3 : Int32).toInt = 3 by decide); omega) (by decide) ?_
          refine lv_iconst (v := (-1)) F.1 F.2.1 d_K_count_61 (by decide) ?_
          exact mw_iret F hI hr hlk h (Nat.le_of_ble_eq_true rfl) (Nat.le_of_ble_eq_true rfl) d_K_count_62
abbrev rm_M_count : Room := { frames := 0, cells := 0, slots := 0, locals := 0 }
set_option maxHeartbeats 4000000 in
set_option maxRecDepth 100000 in
theorem s_M_count (l : Launch) (D : va_G) (dA : Nat → ClassId) (A : Nat → Prop) (b0 : Nat) {p : Program} {e : Env} {s : State} {m : MethodId} {args : Array Value} {below : List Frame} {meth : Method} {c : Code} (F : CallFix p m c b_M_count 7 s args (cd_M_count :: ALL) y_M_count.cls) (hr : meth.sig.returnType = (some .int)) (hlk : meth.locks = false) (hnm : meth.name = y_M_count.name) (hK : mw_K D CL (TY dA) ZZ s) (out : (Int32 × mc_S)) : ∀ n : Nat, (∀ (x1 : Int32) (x2 : Int32) (r3 : Option Nat) (x4 : Int32) (x5 : Int32) (S : mc_S) (H : Heap) (locs : List Loc) (ls : Array Slot), mw_I D dA CL A S s.heap H locs → mt_L ls 7 [(0, (.inr (.inr (some b0)))), (1, (.inl x1)), (2, (.inl x2)), (3, (.inr (.inr r3))), (4, (.inl x4)), (5, (.inl x5))] → g_M_count b0 n x1 x2 r3 x4 x5 S = some out → W p l e rm_M_count s m args below meth c H locs (0) (0) (MQ below (va_Qi (fun x (_ : Unit) => x = out.1) (fun _ t => mw_R D dA CL A out.2 t) A) args s 0 0 A) (F0 m 47 ls [])) := by
  intro n
  induction n with
  | zero =>
    intro x1 x2 r3 x4 x5 S H locs ls hI hl h; have h : (none : Option (Int32 × mc_S)) = some out := h; cases h
  | succ k0 ih =>
    intro x1 x2 r3 x4 x5 S H locs ls hI hl h
    have h : q_M_count_0 b0 (g_M_count b0 k0) x1 x2 r3 x4 x5 S = some out := h
    unfold q_M_count_0 at h
    refine mt_iload F hl 5 rfl d_M_count_47 ?_
    refine mt_iload F hl 4 rfl d_M_count_49 ?_
    refine lv_icmp_ge (tgt := 74) F.1 F.2.1 d_M_count_51 (by decide) (fun hc => ?_) (fun hc => ?_)
    · rw [if_pos hc] at h
      refine mt_iload_n F hl 2 rfl rfl d_M_count_74 ?_
      exact mw_iret F hI hr hlk h (Nat.le_of_ble_eq_true rfl) (Nat.le_of_ble_eq_true rfl) d_M_count_75
    · rw [if_neg hc] at h
      refine mt_aload_n F hl 3 rfl rfl d_M_count_54 ?_
      refine mt_iload F hl 5 rfl d_M_count_55 ?_
      obtain ⟨v1, e_v1, h⟩ := mw_bind h
      refine mw_iald F hK hI (t0 := 0) rfl e_v1 d_M_count_57 ?_
      refine mt_istore F hl (Nat.le_of_ble_eq_true rfl) rfl d_M_count_58 (fun ls hl => ?_)
      have hl : mt_L ls 7 [(6, (.inl v1)), (0, (.inr (.inr (some b0)))), (1, (.inl x1)), (2, (.inl x2)), (3, (.inr (.inr r3))), (4, (.inl x4)), (5, (.inl x5))] := hl
      refine mt_iload F hl 0 rfl d_M_count_60 ?_
      refine lv_if_eq (tgt := 68) F.1 F.2.1 d_M_count_62 (by decide) (fun hc => ?_) (fun hc => ?_)
      · rw [if_pos hc] at h
        refine mt_iinc (v := (x5 + 1)) F hl 6 rfl (by rw [show Int32.ofInt 1 = (1 : Int32) from by decide]) (Nat.le_of_ble_eq_true rfl) rfl d_M_count_68 (fun ls hl => ?_)
        have hl : mt_L ls 7 [(5, (.inl (x5 + 1))), (6, (.inl v1)), (0, (.inr (.inr (some b0)))), (1, (.inl x1)), (2, (.inl x2)), (3, (.inr (.inr r3))), (4, (.inl x4))] := hl
        refine lv_goto (tgt := 47) F.1 F.2.1 d_M_count_71 (by decide) ?_
        refine W.widen (k := 0) (n := 0) (Nat.le_of_ble_eq_true rfl) (Nat.le_of_ble_eq_true rfl) ?_
        exact ih _ _ _ _ _ _ _ _ _ hI (mt_sub hl [2, 3, 4, 5, 6, 0] rfl) h
      · rw [if_neg hc] at h
        refine mt_iinc (v := (x2 + 1)) F hl 3 rfl (by rw [show Int32.ofInt 1 = (1 : Int32) from by decide]) (Nat.le_of_ble_eq_true rfl) rfl d_M_count_65 (fun ls hl => ?_)
        have hl : mt_L ls 7 [(2, (.inl (x2 + 1))), (6, (.inl v1)), (0, (.inr (.inr (some b0)))), (1, (.inl x1)), (3, (.inr (.inr r3))), (4, (.inl x4)), (5, (.inl x5))] := hl
        refine mt_iinc (v := (x5 + 1)) F hl 6 rfl (by rw [show Int32.ofInt 1 = (1 : Int32) from by decide]) (Nat.le_of_ble_eq_true rfl) rfl d_M_count_68 (fun ls hl => ?_)
        have hl : mt_L ls 7 [(5, (.inl (x5 + 1))), (2, (.inl (x2 + 1))), (6, (.inl v1)), (0, (.inr (.inr (some b0)))), (1, (.inl x1)), (3, (.inr (.inr r3))), (4, (.inl x4))] := hl
        refine lv_goto (tgt := 47) F.1 F.2.1 d_M_count_71 (by decide) ?_
        refine W.widen (k := 0) (n := 0) (Nat.le_of_ble_eq_true rfl) (Nat.le_of_ble_eq_true rfl) ?_
        exact ih _ _ _ _ _ _ _ _ _ hI (mt_sub hl [3, 4, 1, 5, 6, 0] rfl) h
set_option maxHeartbeats 4000000 in
set_option maxRecDepth 100000 in
theorem c_M_count (l : Launch) (D : va_G) (dA : Nat → ClassId) (A : Nat → Prop) (b0 : Nat) (a1 : Int32) (S : mc_S) (out : (Int32 × mc_S)) (hf : f_M_count b0 a1 S = some out) : Met l y_M_count (cd_M_count :: ALL) rm_M_count (va_Pc [va_rf (some b0), .int a1] (mw_B D dA CL (TY dA) ZZ A S)) (va_Qi (fun x (_ : Unit) => x = out.1) (fun _ t => mw_R D dA CL A out.2 t) A) 0 0 A := by
  refine mw_ofW (cc := b_M_count) (maxL := 7) (ret := (some .int)) [(.inr (.inr (some b0))), (.inl a1)] rfl (by decide +kernel) (Nat.le_of_ble_eq_true rfl) (L := [(0, (.inr (.inr (some b0)))), (1, (.inl a1))]) rfl (fun p e s m args below meth c F hr hlk hnm hK ls hl hI => ?_)
  have h := hf
  unfold f_M_count at h
  refine lv_iconst (v := 0) F.1 F.2.1 d_M_count_0 (by decide) ?_
  refine mt_istore_n F hl rfl (Nat.le_of_ble_eq_true rfl) rfl d_M_count_1 (fun ls hl => ?_)
  have hl : mt_L ls 7 [(2, (.inl 0)), (0, (.inr (.inr (some b0)))), (1, (.inl a1))] := hl
  refine mt_iload_n F hl 2 rfl rfl d_M_count_2 ?_
  by_cases hk0 : a1 = (0 : Int32)
  · rw [if_pos hk0] at h
    refine mw_tabIn (tgt := 32) (off := 29) F hk0 d_M_count_3 (by decide) (by decide) (by rfl) (by decide) ?_
    refine mt_aload_n F hl 1 rfl rfl d_M_count_32 ?_
    obtain ⟨v1, e_v1, h⟩ := mw_bind h
    refine mw_getR F hK hI (in_4 _) (hc_4) 0 (by decide) (mA k_56) rfl e_v1 d_M_count_33 ?_
    obtain ⟨v2, e_v2, h⟩ := mw_bind h
    refine mw_getR F hK hI (in_5 _) (hc_5) 0 (by decide) (mA k_63) rfl e_v2 d_M_count_36 ?_
    refine mt_astore_n F hl rfl (Nat.le_of_ble_eq_true rfl) rfl d_M_count_39 (fun ls hl => ?_)
    have hl : mt_L ls 7 [(3, (.inr (.inr v2))), (2, (.inl 0)), (0, (.inr (.inr (some b0)))), (1, (.inl a1))] := hl
    refine mt_aload_n F hl 0 rfl rfl d_M_count_40 ?_
    obtain ⟨v3, e_v3, h⟩ := mw_bind h
    refine mw_alen F hK hI (t0 := 0) rfl e_v3 d_M_count_41 ?_
    refine mt_istore F hl (Nat.le_of_ble_eq_true rfl) rfl d_M_count_42 (fun ls hl => ?_)
    have hl : mt_L ls 7 [(4, (.inl v3)), (3, (.inr (.inr v2))), (2, (.inl 0)), (0, (.inr (.inr (some b0)))), (1, (.inl a1))] := hl
    refine lv_iconst (v := 0) F.1 F.2.1 d_M_count_44 (by decide) ?_
    refine mt_istore F hl (Nat.le_of_ble_eq_true rfl) rfl d_M_count_45 (fun ls hl => ?_)
    have hl : mt_L ls 7 [(5, (.inl 0)), (4, (.inl v3)), (3, (.inr (.inr v2))), (2, (.inl 0)), (0, (.inr (.inr (some b0)))), (1, (.inl a1))] := hl
    refine W.widen (k := 0) (n := 0) (Nat.le_of_ble_eq_true rfl) (Nat.le_of_ble_eq_true rfl) ?_
    exact (s_M_count l D dA A b0 F hr hlk hnm hK out 5000) _ _ _ _ _ _ _ _ _ hI (mt_sub hl [4, 5, 3, 2, 1, 0] rfl) h
  · rw [if_neg hk0] at h
    by_cases hk1 : a1 = (1 : Int32)
    · rw [if_pos hk1] at h
      refine mw_tabIn (tgt := 76) (off := 73) F hk1 d_M_count_3 (by decide) (by decide) (by rfl) (by decide) ?_
      refine mt_aload_n F hl 1 rfl rfl d_M_count_76 ?_
      obtain ⟨v4, e_v4, h⟩ := mw_bind h
      refine mw_getR F hK hI (in_4 _) (hc_4) 0 (by decide) (mA k_56) rfl e_v4 d_M_count_77 ?_
      obtain ⟨v5, e_v5, h⟩ := mw_bind h
      refine mw_getI F hK hI (in_5 _) (hc_5) 6 (by decide) (mA k_178) rfl e_v5 d_M_count_80 ?_
      exact mw_iret F hI hr hlk h (Nat.le_of_ble_eq_true rfl) (Nat.le_of_ble_eq_true rfl) d_M_count_83
    · rw [if_neg hk1] at h
      by_cases hk2 : a1 = (2 : Int32)
      · rw [if_pos hk2] at h
        refine mw_tabIn (tgt := 84) (off := 81) F hk2 d_M_count_3 (by decide) (by decide) (by rfl) (by decide) ?_
        refine mt_aload_n F hl 1 rfl rfl d_M_count_84 ?_
        obtain ⟨v6, e_v6, h⟩ := mw_bind h
        refine mw_getI F hK hI (in_4 _) (hc_4) 4 (by decide) (mA k_212) rfl e_v6 d_M_count_85 ?_
        exact mw_iret F hI hr hlk h (Nat.le_of_ble_eq_true rfl) (Nat.le_of_ble_eq_true rfl) d_M_count_88
      · rw [if_neg hk2] at h
        by_cases hk3 : a1 = (3 : Int32)
        · rw [if_pos hk3] at h
          refine mw_tabIn (tgt := 89) (off := 86) F hk3 d_M_count_3 (by decide) (by decide) (by rfl) (by decide) ?_
          refine mt_aload_n F hl 1 rfl rfl d_M_count_89 ?_
          obtain ⟨v7, e_v7, h⟩ := mw_bind h
          refine mw_getI F hK hI (in_4 _) (hc_4) 5 (by decide) (mA k_211) rfl e_v7 d_M_count_90 ?_
          exact mw_iret F hI hr hlk h (Nat.le_of_ble_eq_true rfl) (Nat.le_of_ble_eq_true rfl) d_M_count_93
        · rw [if_neg hk3] at h
          refine lv_tableOut (tgt := 94) F.1 F.2.1 d_M_count_3 (by have z0 := lv_neT hk0 (show (0 : Int32).toInt = 0 by decide); have z1 := lv_neT hk1 (show (1 : Int32).toInt = 1 by decide); have z2 := lv_neT hk2 (show (2 : Int32).toInt = 2 by decide); have z3 := lv_neT hk3 (show (3 : Int32).toInt = 3 by decide); omega) (by decide) ?_
          refine lv_iconst (v := (-1)) F.1 F.2.1 d_M_count_94 (by decide) ?_
          exact mw_iret F hI hr hlk h (Nat.le_of_ble_eq_true rfl) (Nat.le_of_ble_eq_true rfl) d_M_count_95
end
