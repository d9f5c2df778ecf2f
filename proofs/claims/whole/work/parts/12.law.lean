def R_law : String := "KeepHeapLaw"
def lw_P (b : Addr) (xs : List Int32) (args : Array Value) (s : State) : Prop := args = #[.ref b] ∧ s.IntsAt b xs ∧ xs.length ≤ 2560 ∧ (Jvm.Cond.and given_1 narrow_1).before args s = true
def lw_Q (_ : Array Value) (s : State) (o : Outcome) (t : State) : Prop := o = .returned (some (.int 1)) ∧ Framed s o t [] 600000 7302250
def lw_Z (below : List Frame) (a : Array Value) (s : State) : State → Prop := fun t => ∃ o, t.status = .running ∧ Ended t below o ∧ lw_Q a s o t
theorem lw_ret {p : Program} {l : Launch} {e : Env} {s : State} {m : MethodId} {below : List Frame} {meth : Method} {c : Code} {b : Nat} (hx : p.tables.exec = Jvm.exec) (hb : c.code = code) (hr : meth.sig.returnType = ret) (hlocks : meth.locks = false) {pc : Nat} {H : Heap} {ls : Array Slot} (hdg : decode code pc = .ok (.ireturn, 1)) : W p l e room_1 s m #[Value.ref b] below meth c H [] 600000 7302250 (lw_Z below #[Value.ref b] s) (F0 m pc ls [.int 1]) := by
  intro T hT X
  obtain ⟨fs, hret, hrun, hended, hW, hframe⟩ := X.leave (v := some (.int 1)) (hlocks := hlocks) (fun h => by rw [hr] at h; cases h)
  have hmeth' : T.vm.method? m = some meth := X.method'
  refine ⟨T.setFrames fs, ?_, .returned (some (.int 1)), hrun, hended, rfl, ⟨_, rfl⟩, hW, hframe⟩
  jvm_step X.here [X.here.top, hx, hb, hdg, hmeth', hr, ret, narrow_b1]
  (try refine ⟨rfl, ?_⟩); (try refine ⟨rfl, ?_⟩)
  first | (intro acts; rw [hret _ acts rfl rfl rfl]) | rw [hret _ _ rfl rfl rfl]
  exact Steps.refl _
def lw_At (p : Program) (s : State) (m : MethodId) (meth : Method) (c : Code) (b L : Nat) (xs : Nat → Int32) : Prop :=
  p.tables.exec = Jvm.exec ∧ c.code = code ∧ meth.sig.returnType = ret ∧ c.maxLocals = 4 ∧ s.vm.findClass R_law = some m.cls ∧ (∀ w ∈ lw_tbl, w.before #[Value.ref b] s = true) ∧ va_X b L xs s s.heap ∧ b < s.heap.size ∧ meth.locks = false ∧ (Jvm.Cond.and given_1 narrow_1).before #[Value.ref b] s = true
def cL : Cond := .initialized "KeepHeapLaw"
theorem lw_end {p : Program} {l : Launch} {e : Env} {s : State} {m : MethodId} {below : List Frame} {meth : Method} {c : Code} {H : Heap} {locs : List Loc} {cells slots bs pc : Nat} {ls : Array Slot} {D : va_G} {dA : Nat → ClassId} {cl : List vw_C} {A : Nat → Prop} {S : mc_S} {Ts : List Cond} {own : String} (F : CallFix p m c code 4 s #[Value.ref bs] Ts own) (hI : mw_I D dA cl A S s.heap H locs) (hA : ∀ q, A q → s.heap.size ≤ q) (hr : meth.sig.returnType = ret) (hlk : meth.locks = false) {out : Int32 × mc_S} (ho : out.1 = 1) {v : Int32} (h : some (v, S) = some out) (hc : cells ≤ 600000) (hs : slots ≤ 7302250) (hdg : decode code pc = .ok (.ireturn, 1)) : W p l e room_1 s m #[Value.ref bs] below meth c H locs cells slots (lw_Z below #[Value.ref bs] s) (F0 m pc ls [.int v]) := by
  cases h
  have ho : v = 1 := ho
  subst ho
  exact va_forget (fun q hq => hA _ (hI.2.2.2.2.2.2 q hq)) (W.widen hc hs (lw_ret F.1 F.2.1 hr hlk hdg))
set_option maxHeartbeats 8000000 in
set_option maxRecDepth 100000 in
theorem s_L_law (l : Launch) (D : va_G) (dA : Nat → ClassId) (A : Nat → Prop) (L0 : Nat) (xs : Nat → Int32) (bs : Nat) {p : Program} {e : Env} {s : State} {m : MethodId} {below : List Frame} {meth : Method} {c : Code} (hX : va_X bs L0 xs s s.heap) (hbl : bs < s.heap.size) (hbA : ¬ A bs) (hA : ∀ q, A q → s.heap.size ≤ q) (F : CallFix p m c code 4 s #[Value.ref bs] (cL :: ALL) "KeepHeapLaw") (hr : meth.sig.returnType = ret) (hlk : meth.locks = false) (hnm : True) (hK : mw_K D CL (TY dA) ZZ s) (out : Int32 × mc_S) (ho : out.1 = 1) : ∀ n : Nat, n ≤ 520 → (∀ (r1 : Option Nat) (r2 : Option Nat) (x3 : Int32) (S : mc_S) (H : Heap) (locs : List Loc) (ls : Array Slot), mw_I D dA CL A S s.heap H locs → mt_L ls 4 [(0, (.inr (.inr (some bs)))), (1, (.inr (.inr r1))), (2, (.inr (.inr r2))), (3, (.inl x3))] → g_L_law L0 xs n r1 r2 x3 S = some out → W p l e room_1 s m #[Value.ref bs] below meth c H locs (144 + (520 - n) * 3) (47294 + (520 - n) * 44) (lw_Z below #[Value.ref bs] s) (F0 m 18 ls [])) := by
  intro n
  induction n with
  | zero =>
    intro _
    intro r1 r2 x3 S H locs ls hI hl h; have h : (none : Option (Int32 × mc_S)) = some out := h; cases h
  | succ k0 ih =>
    intro hn0
    intro r1 r2 x3 S H locs ls hI hl h
    have h : q_L_law_0 L0 xs (g_L_law L0 xs k0) r1 r2 x3 S = some out := h
    unfold q_L_law_0 at h
    refine mt_iload_n F hl 3 rfl rfl d_L_law_18 ?_
    refine mt_aload_n F hl 0 rfl rfl d_L_law_19 ?_
    refine mw_slen F hX hbl hbA hI d_L_law_20 ?_
    refine lv_iconst (v := 5) F.1 F.2.1 d_L_law_21 (by decide) ?_
    refine lv_isub F.1 F.2.1 d_L_law_22 ?_
    refine lv_icmp_gt (tgt := 613) F.1 F.2.1 d_L_law_23 (by decide) (fun hc => ?_) (fun hc => ?_)
    · rw [if_pos hc] at h
      refine lv_iconst (v := 1) F.1 F.2.1 d_L_law_613 (by decide) ?_
      exact lw_end F hI hA hr hlk ho h (by show _ ≤ 600000; omega) (by show _ ≤ 7302250; omega) d_L_law_614
    · rw [if_neg hc] at h
      refine mt_aload_n F hl 0 rfl rfl d_L_law_26 ?_
      refine mt_iload_n F hl 3 rfl rfl d_L_law_27 ?_
      obtain ⟨v1, e_v1, h⟩ := mw_bind h
      refine mw_sld F hX hbl hbA hI e_v1 d_L_law_28 ?_
      refine lv_bipush (v := 31) F.1 F.2.1 d_L_law_29 (by decide) ?_
      refine lv_iand F.1 F.2.1 d_L_law_31 ?_
      by_cases hk0 : (v1 &&& 31) = (0 : Int32)
      · rw [if_pos hk0] at h
        refine mw_tabIn (tgt := 116) (off := 84) F hk0 d_L_law_32 (by decide) (by decide) (by rfl) (by decide) ?_
        refine mt_aload_n F hl 1 rfl rfl d_L_law_116 ?_
        refine mt_aload_n F hl 0 rfl rfl d_L_law_117 ?_
        refine mt_iload_n F hl 3 rfl rfl d_L_law_118 ?_
        refine lv_iconst (v := 1) F.1 F.2.1 d_L_law_119 (by decide) ?_
        refine lv_iadd F.1 F.2.1 d_L_law_120 ?_
        obtain ⟨v2, e_v2, h⟩ := mw_bind h
        refine mw_sld F hX hbl hbA hI e_v2 d_L_law_121 ?_
        refine lv_if_eq (tgt := 129) F.1 F.2.1 d_L_law_122 (by decide) (fun hc => ?_) (fun hc => ?_)
        · rw [if_pos hc] at h
          refine lv_iconst (v := 0) F.1 F.2.1 d_L_law_129 (by decide) ?_
          obtain ⟨b3, e_b3, h⟩ := mw_bind h
          obtain ⟨o4, e_o4, h⟩ := mw_bind h
          refine mw_calli hI (mw_runV F hK hI (c_K_make l D dA A _ _ _ _ e_o4) (cwV 1 F.2.2.2.2 (gd_V k_268 k_269 k_270 k_271 k_78) rfl rfl rfl hd_K_make ⟨Nat.le_of_ble_eq_true rfl, Nat.le_of_ble_eq_true rfl⟩) (hc_0) e_b3 rfl hl.1 rfl (Nat.zero_le _) d_L_law_130 ⟨(by show _ ≤ 600000; omega), (by show _ ≤ 7302250; omega)⟩) (fun H locs hI => ?_)
          refine mt_aload_n F hl 2 rfl rfl d_L_law_133 ?_
          refine mt_aload_n F hl 0 rfl rfl d_L_law_134 ?_
          refine mt_iload_n F hl 3 rfl rfl d_L_law_135 ?_
          refine lv_iconst (v := 1) F.1 F.2.1 d_L_law_136 (by decide) ?_
          refine lv_iadd F.1 F.2.1 d_L_law_137 ?_
          obtain ⟨v5, e_v5, h⟩ := mw_bind h
          refine mw_sld F hX hbl hbA hI e_v5 d_L_law_138 ?_
          refine lv_if_eq (tgt := 146) F.1 F.2.1 d_L_law_139 (by decide) (fun hc => ?_) (fun hc => ?_)
          · rw [if_pos hc] at h
            refine lv_iconst (v := 0) F.1 F.2.1 d_L_law_146 (by decide) ?_
            obtain ⟨b6, e_b6, h⟩ := mw_bind h
            obtain ⟨o7, e_o7, h⟩ := mw_bind h
            refine mw_calli hI (mw_runV F hK hI (c_M_make l D dA A _ _ _ _ e_o7) (cwV 1 F.2.2.2.2 (gd_V k_272 k_273 k_274 k_275 k_130) rfl rfl rfl hd_M_make ⟨Nat.le_of_ble_eq_true rfl, Nat.le_of_ble_eq_true rfl⟩) (hc_4) e_b6 rfl hl.1 rfl (by simp [mw_cat, mw_cI, mw_cL]) d_L_law_147 ⟨(by show _ ≤ 600000; omega), (by show _ ≤ 7302250; omega)⟩) (fun H locs hI => ?_)
            refine lv_icmp_eq (tgt := 607) F.1 F.2.1 d_L_law_150 (by decide) (fun hc => ?_) (fun hc => ?_)
            · rw [if_pos hc] at h
              refine mt_iinc (v := (x3 + 5)) F hl 3 rfl (by rw [show Int32.ofInt 5 = (5 : Int32) from by decide]) (Nat.le_of_ble_eq_true rfl) rfl d_L_law_607 (fun ls hl => ?_)
              have hl : mt_L ls 4 [(3, (.inl (x3 + 5))), (0, (.inr (.inr (some bs)))), (1, (.inr (.inr r1))), (2, (.inr (.inr r2)))] := hl
              refine lv_goto (tgt := 18) F.1 F.2.1 d_L_law_610 (by decide) ?_
              refine W.widen (k := 144 + (520 - k0) * 3) (n := 47294 + (520 - k0) * 44) (by omega) (by omega) ?_
              exact (ih (by omega)) _ _ _ _ _ _ _ hI (mt_sub hl [1, 2, 3, 0] rfl) h
            · rw [if_neg hc] at h
              refine lv_iconst (v := 0) F.1 F.2.1 d_L_law_153 (by decide) ?_
              exact lw_end F hI hA hr hlk ho h (by show _ ≤ 600000; omega) (by show _ ≤ 7302250; omega) d_L_law_154
          · rw [if_neg hc] at h
            refine lv_iconst (v := 1) F.1 F.2.1 d_L_law_142 (by decide) ?_
            refine lv_goto (tgt := 147) F.1 F.2.1 d_L_law_143 (by decide) ?_
            obtain ⟨b8, e_b8, h⟩ := mw_bind h
            obtain ⟨o9, e_o9, h⟩ := mw_bind h
            refine mw_calli hI (mw_runV F hK hI (c_M_make l D dA A _ _ _ _ e_o9) (cwV 1 F.2.2.2.2 (gd_V k_272 k_273 k_274 k_275 k_130) rfl rfl rfl hd_M_make ⟨Nat.le_of_ble_eq_true rfl, Nat.le_of_ble_eq_true rfl⟩) (hc_4) e_b8 rfl hl.1 rfl (by simp [mw_cat, mw_cI, mw_cL]) d_L_law_147 ⟨(by show _ ≤ 600000; omega), (by show _ ≤ 7302250; omega)⟩) (fun H locs hI => ?_)
            refine lv_icmp_eq (tgt := 607) F.1 F.2.1 d_L_law_150 (by decide) (fun hc => ?_) (fun hc => ?_)
            · rw [if_pos hc] at h
              refine mt_iinc (v := (x3 + 5)) F hl 3 rfl (by rw [show Int32.ofInt 5 = (5 : Int32) from by decide]) (Nat.le_of_ble_eq_true rfl) rfl d_L_law_607 (fun ls hl => ?_)
              have hl : mt_L ls 4 [(3, (.inl (x3 + 5))), (0, (.inr (.inr (some bs)))), (1, (.inr (.inr r1))), (2, (.inr (.inr r2)))] := hl
              refine lv_goto (tgt := 18) F.1 F.2.1 d_L_law_610 (by decide) ?_
              refine W.widen (k := 144 + (520 - k0) * 3) (n := 47294 + (520 - k0) * 44) (by omega) (by omega) ?_
              exact (ih (by omega)) _ _ _ _ _ _ _ hI (mt_sub hl [1, 2, 3, 0] rfl) h
            · rw [if_neg hc] at h
              refine lv_iconst (v := 0) F.1 F.2.1 d_L_law_153 (by decide) ?_
              exact lw_end F hI hA hr hlk ho h (by show _ ≤ 600000; omega) (by show _ ≤ 7302250; omega) d_L_law_154
        · rw [if_neg hc] at h
          refine lv_iconst (v := 1) F.1 F.2.1 d_L_law_125 (by decide) ?_
          refine lv_goto (tgt := 130) F.1 F.2.1 d_L_law_126 (by decide) ?_
          obtain ⟨b10, e_b10, h⟩ := mw_bind h
          obtain ⟨o11, e_o11, h⟩ := mw_bind h
          refine mw_calli hI (mw_runV F hK hI (c_K_make l D dA A _ _ _ _ e_o11) (cwV 1 F.2.2.2.2 (gd_V k_268 k_269 k_270 k_271 k_78) rfl rfl rfl hd_K_make ⟨Nat.le_of_ble_eq_true rfl, Nat.le_of_ble_eq_true rfl⟩) (hc_0) e_b10 rfl hl.1 rfl (Nat.zero_le _) d_L_law_130 ⟨(by show _ ≤ 600000; omega), (by show _ ≤ 7302250; omega)⟩) (fun H locs hI => ?_)
          refine mt_aload_n F hl 2 rfl rfl d_L_law_133 ?_
          refine mt_aload_n F hl 0 rfl rfl d_L_law_134 ?_
          refine mt_iload_n F hl 3 rfl rfl d_L_law_135 ?_
          refine lv_iconst (v := 1) F.1 F.2.1 d_L_law_136 (by decide) ?_
          refine lv_iadd F.1 F.2.1 d_L_law_137 ?_
          obtain ⟨v12, e_v12, h⟩ := mw_bind h
          refine mw_sld F hX hbl hbA hI e_v12 d_L_law_138 ?_
          refine lv_if_eq (tgt := 146) F.1 F.2.1 d_L_law_139 (by decide) (fun hc => ?_) (fun hc => ?_)
          · rw [if_pos hc] at h
            refine lv_iconst (v := 0) F.1 F.2.1 d_L_law_146 (by decide) ?_
            obtain ⟨b13, e_b13, h⟩ := mw_bind h
            obtain ⟨o14, e_o14, h⟩ := mw_bind h
            refine mw_calli hI (mw_runV F hK hI (c_M_make l D dA A _ _ _ _ e_o14) (cwV 1 F.2.2.2.2 (gd_V k_272 k_273 k_274 k_275 k_130) rfl rfl rfl hd_M_make ⟨Nat.le_of_ble_eq_true rfl, Nat.le_of_ble_eq_true rfl⟩) (hc_4) e_b13 rfl hl.1 rfl (by simp [mw_cat, mw_cI, mw_cL]) d_L_law_147 ⟨(by show _ ≤ 600000; omega), (by show _ ≤ 7302250; omega)⟩) (fun H locs hI => ?_)
            refine lv_icmp_eq (tgt := 607) F.1 F.2.1 d_L_law_150 (by decide) (fun hc => ?_) (fun hc => ?_)
            · rw [if_pos hc] at h
              refine mt_iinc (v := (x3 + 5)) F hl 3 rfl (by rw [show Int32.ofInt 5 = (5 : Int32) from by decide]) (Nat.le_of_ble_eq_true rfl) rfl d_L_law_607 (fun ls hl => ?_)
              have hl : mt_L ls 4 [(3, (.inl (x3 + 5))), (0, (.inr (.inr (some bs)))), (1, (.inr (.inr r1))), (2, (.inr (.inr r2)))] := hl
              refine lv_goto (tgt := 18) F.1 F.2.1 d_L_law_610 (by decide) ?_
              refine W.widen (k := 144 + (520 - k0) * 3) (n := 47294 + (520 - k0) * 44) (by omega) (by omega) ?_
              exact (ih (by omega)) _ _ _ _ _ _ _ hI (mt_sub hl [1, 2, 3, 0] rfl) h
            · rw [if_neg hc] at h
              refine lv_iconst (v := 0) F.1 F.2.1 d_L_law_153 (by decide) ?_
              exact lw_end F hI hA hr hlk ho h (by show _ ≤ 600000; omega) (by show _ ≤ 7302250; omega) d_L_law_154
          · rw [if_neg hc] at h
            refine lv_iconst (v := 1) F.1 F.2.1 d_L_law_142 (by decide) ?_
            refine lv_goto (tgt := 147) F.1 F.2.1 d_L_law_143 (by decide) ?_
            obtain ⟨b15, e_b15, h⟩ := mw_bind h
            obtain ⟨o16, e_o16, h⟩ := mw_bind h
            refine mw_calli hI (mw_runV F hK hI (c_M_make l D dA A _ _ _ _ e_o16) (cwV 1 F.2.2.2.2 (gd_V k_272 k_273 k_274 k_275 k_130) rfl rfl rfl hd_M_make ⟨Nat.le_of_ble_eq_true rfl, Nat.le_of_ble_eq_true rfl⟩) (hc_4) e_b15 rfl hl.1 rfl (by simp [mw_cat, mw_cI, mw_cL]) d_L_law_147 ⟨(by show _ ≤ 600000; omega), (by show _ ≤ 7302250; omega)⟩) (fun H locs hI => ?_)
            refine lv_icmp_eq (tgt := 607) F.1 F.2.1 d_L_law_150 (by decide) (fun hc => ?_) (fun hc => ?_)
            · rw [if_pos hc] at h
              refine mt_iinc (v := (x3 + 5)) F hl 3 rfl (by rw [show Int32.ofInt 5 = (5 : Int32) from by decide]) (Nat.le_of_ble_eq_true rfl) rfl d_L_law_607 (fun ls hl => ?_)
              have hl : mt_L ls 4 [(3, (.inl (x3 + 5))), (0, (.inr (.inr (some bs)))), (1, (.inr (.inr r1))), (2, (.inr (.inr r2)))] := hl
              refine lv_goto (tgt := 18) F.1 F.2.1 d_L_law_610 (by decide) ?_
              refine W.widen (k := 144 + (520 - k0) * 3) (n := 47294 + (520 - k0) * 44) (by omega) (by omega) ?_
              exact (ih (by omega)) _ _ _ _ _ _ _ hI (mt_sub hl [1, 2, 3, 0] rfl) h
            · rw [if_neg hc] at h
              refine lv_iconst (v := 0) F.1 F.2.1 d_L_law_153 (by decide) ?_
              exact lw_end F hI hA hr hlk ho h (by show _ ≤ 600000; omega) (by show _ ≤ 7302250; omega) d_L_law_154
      · rw [if_neg hk0] at h
        by_cases hk1 : (v1 &&& 31) = (1 : Int32)
        · rw [if_pos hk1] at h
          refine mw_tabIn (tgt := 155) (off := 123) F hk1 d_L_law_32 (by decide) (by decide) (by rfl) (by decide) ?_
          refine mt_aload_n F hl 1 rfl rfl d_L_law_155 ?_
          refine mt_aload_n F hl 0 rfl rfl d_L_law_156 ?_
          refine mt_iload_n F hl 3 rfl rfl d_L_law_157 ?_
          refine lv_iconst (v := 1) F.1 F.2.1 d_L_law_158 (by decide) ?_
          refine lv_iadd F.1 F.2.1 d_L_law_159 ?_
          obtain ⟨v17, e_v17, h⟩ := mw_bind h
          refine mw_sld F hX hbl hbA hI e_v17 d_L_law_160 ?_
          refine mt_aload_n F hl 0 rfl rfl d_L_law_161 ?_
          refine mt_iload_n F hl 3 rfl rfl d_L_law_162 ?_
          refine lv_iconst (v := 2) F.1 F.2.1 d_L_law_163 (by decide) ?_
          refine lv_iadd F.1 F.2.1 d_L_law_164 ?_
          obtain ⟨v18, e_v18, h⟩ := mw_bind h
          refine mw_sld F hX hbl hbA hI e_v18 d_L_law_165 ?_
          refine mt_aload_n F hl 0 rfl rfl d_L_law_166 ?_
          refine mt_iload_n F hl 3 rfl rfl d_L_law_167 ?_
          refine lv_iconst (v := 3) F.1 F.2.1 d_L_law_168 (by decide) ?_
          refine lv_iadd F.1 F.2.1 d_L_law_169 ?_
          obtain ⟨v19, e_v19, h⟩ := mw_bind h
          refine mw_sld F hX hbl hbA hI e_v19 d_L_law_170 ?_
          refine mt_aload_n F hl 0 rfl rfl d_L_law_171 ?_
          refine mt_iload_n F hl 3 rfl rfl d_L_law_172 ?_
          refine lv_iconst (v := 4) F.1 F.2.1 d_L_law_173 (by decide) ?_
          refine lv_iadd F.1 F.2.1 d_L_law_174 ?_
          obtain ⟨v20, e_v20, h⟩ := mw_bind h
          refine mw_sld F hX hbl hbA hI e_v20 d_L_law_175 ?_
          obtain ⟨b21, e_b21, h⟩ := mw_bind h
          obtain ⟨o22, e_o22, h⟩ := mw_bind h
          refine mw_calli hI (mw_runV F hK hI (c_K_set l D dA A _ _ _ _ _ _ _ e_o22) (cwV 4 F.2.2.2.2 (gd_V k_276 k_277 k_278 k_279 k_78) rfl rfl rfl hd_K_set ⟨Nat.le_of_ble_eq_true rfl, Nat.le_of_ble_eq_true rfl⟩) (hc_0) e_b21 rfl hl.1 rfl (Nat.zero_le _) d_L_law_176 ⟨(by show _ ≤ 600000; omega), (by show _ ≤ 7302250; omega)⟩) (fun H locs hI => ?_)
          refine mt_aload_n F hl 2 rfl rfl d_L_law_179 ?_
          refine mt_aload_n F hl 0 rfl rfl d_L_law_180 ?_
          refine mt_iload_n F hl 3 rfl rfl d_L_law_181 ?_
          refine lv_iconst (v := 1) F.1 F.2.1 d_L_law_182 (by decide) ?_
          refine lv_iadd F.1 F.2.1 d_L_law_183 ?_
          obtain ⟨v23, e_v23, h⟩ := mw_bind h
          refine mw_sld F hX hbl hbA hI e_v23 d_L_law_184 ?_
          refine mt_aload_n F hl 0 rfl rfl d_L_law_185 ?_
          refine mt_iload_n F hl 3 rfl rfl d_L_law_186 ?_
          refine lv_iconst (v := 2) F.1 F.2.1 d_L_law_187 (by decide) ?_
          refine lv_iadd F.1 F.2.1 d_L_law_188 ?_
          obtain ⟨v24, e_v24, h⟩ := mw_bind h
          refine mw_sld F hX hbl hbA hI e_v24 d_L_law_189 ?_
          refine mt_aload_n F hl 0 rfl rfl d_L_law_190 ?_
          refine mt_iload_n F hl 3 rfl rfl d_L_law_191 ?_
          refine lv_iconst (v := 3) F.1 F.2.1 d_L_law_192 (by decide) ?_
          refine lv_iadd F.1 F.2.1 d_L_law_193 ?_
          obtain ⟨v25, e_v25, h⟩ := mw_bind h
          refine mw_sld F hX hbl hbA hI e_v25 d_L_law_194 ?_
          refine mt_aload_n F hl 0 rfl rfl d_L_law_195 ?_
          refine mt_iload_n F hl 3 rfl rfl d_L_law_196 ?_
          refine lv_iconst (v := 4) F.1 F.2.1 d_L_law_197 (by decide) ?_
          refine lv_iadd F.1 F.2.1 d_L_law_198 ?_
          obtain ⟨v26, e_v26, h⟩ := mw_bind h
          refine mw_sld F hX hbl hbA hI e_v26 d_L_law_199 ?_
          obtain ⟨b27, e_b27, h⟩ := mw_bind h
          obtain ⟨o28, e_o28, h⟩ := mw_bind h
          refine mw_calli hI (mw_runV F hK hI (c_M_set l D dA A _ _ _ _ _ _ _ e_o28) (cwV 4 F.2.2.2.2 (gd_V k_280 k_281 k_282 k_283 k_130) rfl rfl rfl hd_M_set ⟨Nat.le_of_ble_eq_true rfl, Nat.le_of_ble_eq_true rfl⟩) (hc_4) e_b27 rfl hl.1 rfl (by simp [mw_cat, mw_cI, mw_cL]) d_L_law_200 ⟨(by show _ ≤ 600000; omega), (by show _ ≤ 7302250; omega)⟩) (fun H locs hI => ?_)
          refine lv_icmp_eq (tgt := 607) F.1 F.2.1 d_L_law_203 (by decide) (fun hc => ?_) (fun hc => ?_)
          · rw [if_pos hc] at h
            refine mt_iinc (v := (x3 + 5)) F hl 3 rfl (by rw [show Int32.ofInt 5 = (5 : Int32) from by decide]) (Nat.le_of_ble_eq_true rfl) rfl d_L_law_607 (fun ls hl => ?_)
            have hl : mt_L ls 4 [(3, (.inl (x3 + 5))), (0, (.inr (.inr (some bs)))), (1, (.inr (.inr r1))), (2, (.inr (.inr r2)))] := hl
            refine lv_goto (tgt := 18) F.1 F.2.1 d_L_law_610 (by decide) ?_
            refine W.widen (k := 144 + (520 - k0) * 3) (n := 47294 + (520 - k0) * 44) (by omega) (by omega) ?_
            exact (ih (by omega)) _ _ _ _ _ _ _ hI (mt_sub hl [1, 2, 3, 0] rfl) h
          · rw [if_neg hc] at h
            refine lv_iconst (v := 0) F.1 F.2.1 d_L_law_206 (by decide) ?_
            exact lw_end F hI hA hr hlk ho h (by show _ ≤ 600000; omega) (by show _ ≤ 7302250; omega) d_L_law_207
        · rw [if_neg hk1] at h
          by_cases hk2 : (v1 &&& 31) = (2 : Int32)
          · rw [if_pos hk2] at h
            refine mw_tabIn (tgt := 208) (off := 176) F hk2 d_L_law_32 (by decide) (by decide) (by rfl) (by decide) ?_
            refine mt_aload_n F hl 1 rfl rfl d_L_law_208 ?_
            refine mt_aload_n F hl 0 rfl rfl d_L_law_209 ?_
            refine mt_iload_n F hl 3 rfl rfl d_L_law_210 ?_
            refine lv_iconst (v := 1) F.1 F.2.1 d_L_law_211 (by decide) ?_
            refine lv_iadd F.1 F.2.1 d_L_law_212 ?_
            obtain ⟨v29, e_v29, h⟩ := mw_bind h
            refine mw_sld F hX hbl hbA hI e_v29 d_L_law_213 ?_
            refine mt_aload_n F hl 0 rfl rfl d_L_law_214 ?_
            refine mt_iload_n F hl 3 rfl rfl d_L_law_215 ?_
            refine lv_iconst (v := 2) F.1 F.2.1 d_L_law_216 (by decide) ?_
            refine lv_iadd F.1 F.2.1 d_L_law_217 ?_
            obtain ⟨v30, e_v30, h⟩ := mw_bind h
            refine mw_sld F hX hbl hbA hI e_v30 d_L_law_218 ?_
            obtain ⟨b31, e_b31, h⟩ := mw_bind h
            obtain ⟨o32, e_o32, h⟩ := mw_bind h
            refine mw_calll hI (mw_runV F hK hI (c_K_get l D dA A _ _ _ _ _ e_o32) (cwV 2 F.2.2.2.2 (gd_V k_284 k_285 k_286 k_287 k_78) rfl rfl rfl hd_K_get ⟨Nat.le_of_ble_eq_true rfl, Nat.le_of_ble_eq_true rfl⟩) (hc_0) e_b31 rfl hl.1 rfl (Nat.zero_le _) d_L_law_219 ⟨(by show _ ≤ 600000; omega), (by show _ ≤ 7302250; omega)⟩) (fun H locs hI => ?_)
            refine mt_aload_n F hl 2 rfl rfl d_L_law_222 ?_
            refine mt_aload_n F hl 0 rfl rfl d_L_law_223 ?_
            refine mt_iload_n F hl 3 rfl rfl d_L_law_224 ?_
            refine lv_iconst (v := 1) F.1 F.2.1 d_L_law_225 (by decide) ?_
            refine lv_iadd F.1 F.2.1 d_L_law_226 ?_
            obtain ⟨v33, e_v33, h⟩ := mw_bind h
            refine mw_sld F hX hbl hbA hI e_v33 d_L_law_227 ?_
            refine mt_aload_n F hl 0 rfl rfl d_L_law_228 ?_
            refine mt_iload_n F hl 3 rfl rfl d_L_law_229 ?_
            refine lv_iconst (v := 2) F.1 F.2.1 d_L_law_230 (by decide) ?_
            refine lv_iadd F.1 F.2.1 d_L_law_231 ?_
            obtain ⟨v34, e_v34, h⟩ := mw_bind h
            refine mw_sld F hX hbl hbA hI e_v34 d_L_law_232 ?_
            obtain ⟨b35, e_b35, h⟩ := mw_bind h
            obtain ⟨o36, e_o36, h⟩ := mw_bind h
            refine mw_calll hI (mw_runV F hK hI (c_M_get l D dA A _ _ _ _ _ e_o36) (cwV 2 F.2.2.2.2 (gd_V k_288 k_289 k_290 k_291 k_130) rfl rfl rfl hd_M_get ⟨Nat.le_of_ble_eq_true rfl, Nat.le_of_ble_eq_true rfl⟩) (hc_4) e_b35 rfl hl.1 rfl (by simp [mw_cat, mw_cI, mw_cL]) d_L_law_233 ⟨(by show _ ≤ 600000; omega), (by show _ ≤ 7302250; omega)⟩) (fun H locs hI => ?_)
            refine W.lcmp F.1 F.2.1 d_L_law_236 ?_
            refine lv_if_eq (tgt := 607) F.1 F.2.1 d_L_law_237 (by decide) (fun hc => ?_) (fun hc => ?_)
            · rw [if_pos hc] at h
              refine mt_iinc (v := (x3 + 5)) F hl 3 rfl (by rw [show Int32.ofInt 5 = (5 : Int32) from by decide]) (Nat.le_of_ble_eq_true rfl) rfl d_L_law_607 (fun ls hl => ?_)
              have hl : mt_L ls 4 [(3, (.inl (x3 + 5))), (0, (.inr (.inr (some bs)))), (1, (.inr (.inr r1))), (2, (.inr (.inr r2)))] := hl
              refine lv_goto (tgt := 18) F.1 F.2.1 d_L_law_610 (by decide) ?_
              refine W.widen (k := 144 + (520 - k0) * 3) (n := 47294 + (520 - k0) * 44) (by omega) (by omega) ?_
              exact (ih (by omega)) _ _ _ _ _ _ _ hI (mt_sub hl [1, 2, 3, 0] rfl) h
            · rw [if_neg hc] at h
              refine lv_iconst (v := 0) F.1 F.2.1 d_L_law_240 (by decide) ?_
              exact lw_end F hI hA hr hlk ho h (by show _ ≤ 600000; omega) (by show _ ≤ 7302250; omega) d_L_law_241
          · rw [if_neg hk2] at h
            by_cases hk3 : (v1 &&& 31) = (3 : Int32)
            · rw [if_pos hk3] at h
              refine mw_tabIn (tgt := 242) (off := 210) F hk3 d_L_law_32 (by decide) (by decide) (by rfl) (by decide) ?_
              refine mt_aload_n F hl 1 rfl rfl d_L_law_242 ?_
              refine mt_aload_n F hl 0 rfl rfl d_L_law_243 ?_
              refine mt_iload_n F hl 3 rfl rfl d_L_law_244 ?_
              refine lv_iconst (v := 1) F.1 F.2.1 d_L_law_245 (by decide) ?_
              refine lv_iadd F.1 F.2.1 d_L_law_246 ?_
              obtain ⟨v37, e_v37, h⟩ := mw_bind h
              refine mw_sld F hX hbl hbA hI e_v37 d_L_law_247 ?_
              refine mt_aload_n F hl 0 rfl rfl d_L_law_248 ?_
              refine mt_iload_n F hl 3 rfl rfl d_L_law_249 ?_
              refine lv_iconst (v := 2) F.1 F.2.1 d_L_law_250 (by decide) ?_
              refine lv_iadd F.1 F.2.1 d_L_law_251 ?_
              obtain ⟨v38, e_v38, h⟩ := mw_bind h
              refine mw_sld F hX hbl hbA hI e_v38 d_L_law_252 ?_
              refine mt_aload_n F hl 0 rfl rfl d_L_law_253 ?_
              refine mt_iload_n F hl 3 rfl rfl d_L_law_254 ?_
              refine lv_iconst (v := 3) F.1 F.2.1 d_L_law_255 (by decide) ?_
              refine lv_iadd F.1 F.2.1 d_L_law_256 ?_
              obtain ⟨v39, e_v39, h⟩ := mw_bind h
              refine mw_sld F hX hbl hbA hI e_v39 d_L_law_257 ?_
              obtain ⟨b40, e_b40, h⟩ := mw_bind h
              obtain ⟨o41, e_o41, h⟩ := mw_bind h
              refine mw_calli hI (mw_runV F hK hI (c_K_push l D dA A _ _ _ _ _ _ e_o41) (cwV 3 F.2.2.2.2 (gd_V k_292 k_293 k_294 k_295 k_78) rfl rfl rfl hd_K_push ⟨Nat.le_of_ble_eq_true rfl, Nat.le_of_ble_eq_true rfl⟩) (hc_0) e_b40 rfl hl.1 rfl (Nat.zero_le _) d_L_law_258 ⟨(by show _ ≤ 600000; omega), (by show _ ≤ 7302250; omega)⟩) (fun H locs hI => ?_)
              refine mt_aload_n F hl 2 rfl rfl d_L_law_261 ?_
              refine mt_aload_n F hl 0 rfl rfl d_L_law_262 ?_
              refine mt_iload_n F hl 3 rfl rfl d_L_law_263 ?_
              refine lv_iconst (v := 1) F.1 F.2.1 d_L_law_264 (by decide) ?_
              refine lv_iadd F.1 F.2.1 d_L_law_265 ?_
              obtain ⟨v42, e_v42, h⟩ := mw_bind h
              refine mw_sld F hX hbl hbA hI e_v42 d_L_law_266 ?_
              refine mt_aload_n F hl 0 rfl rfl d_L_law_267 ?_
              refine mt_iload_n F hl 3 rfl rfl d_L_law_268 ?_
              refine lv_iconst (v := 2) F.1 F.2.1 d_L_law_269 (by decide) ?_
              refine lv_iadd F.1 F.2.1 d_L_law_270 ?_
              obtain ⟨v43, e_v43, h⟩ := mw_bind h
              refine mw_sld F hX hbl hbA hI e_v43 d_L_law_271 ?_
              refine mt_aload_n F hl 0 rfl rfl d_L_law_272 ?_
              refine mt_iload_n F hl 3 rfl rfl d_L_law_273 ?_
              refine lv_iconst (v := 3) F.1 F.2.1 d_L_law_274 (by decide) ?_
              refine lv_iadd F.1 F.2.1 d_L_law_275 ?_
              obtain ⟨v44, e_v44, h⟩ := mw_bind h
              refine mw_sld F hX hbl hbA hI e_v44 d_L_law_276 ?_
              obtain ⟨b45, e_b45, h⟩ := mw_bind h
              obtain ⟨o46, e_o46, h⟩ := mw_bind h
              refine mw_calli hI (mw_runV F hK hI (c_M_push l D dA A _ _ _ _ _ _ e_o46) (cwV 3 F.2.2.2.2 (gd_V k_296 k_297 k_298 k_299 k_130) rfl rfl rfl hd_M_push ⟨Nat.le_of_ble_eq_true rfl, Nat.le_of_ble_eq_true rfl⟩) (hc_4) e_b45 rfl hl.1 rfl (by simp [mw_cat, mw_cI, mw_cL]) d_L_law_277 ⟨(by show _ ≤ 600000; omega), (by show _ ≤ 7302250; omega)⟩) (fun H locs hI => ?_)
              refine lv_icmp_eq (tgt := 607) F.1 F.2.1 d_L_law_280 (by decide) (fun hc => ?_) (fun hc => ?_)
              · rw [if_pos hc] at h
                refine mt_iinc (v := (x3 + 5)) F hl 3 rfl (by rw [show Int32.ofInt 5 = (5 : Int32) from by decide]) (Nat.le_of_ble_eq_true rfl) rfl d_L_law_607 (fun ls hl => ?_)
                have hl : mt_L ls 4 [(3, (.inl (x3 + 5))), (0, (.inr (.inr (some bs)))), (1, (.inr (.inr r1))), (2, (.inr (.inr r2)))] := hl
                refine lv_goto (tgt := 18) F.1 F.2.1 d_L_law_610 (by decide) ?_
                refine W.widen (k := 144 + (520 - k0) * 3) (n := 47294 + (520 - k0) * 44) (by omega) (by omega) ?_
                exact (ih (by omega)) _ _ _ _ _ _ _ hI (mt_sub hl [1, 2, 3, 0] rfl) h
              · rw [if_neg hc] at h
                refine lv_iconst (v := 0) F.1 F.2.1 d_L_law_283 (by decide) ?_
                exact lw_end F hI hA hr hlk ho h (by show _ ≤ 600000; omega) (by show _ ≤ 7302250; omega) d_L_law_284
            · rw [if_neg hk3] at h
              by_cases hk4 : (v1 &&& 31) = (4 : Int32)
              · rw [if_pos hk4] at h
                refine mw_tabIn (tgt := 285) (off := 253) F hk4 d_L_law_32 (by decide) (by decide) (by rfl) (by decide) ?_
                refine mt_aload_n F hl 1 rfl rfl d_L_law_285 ?_
                refine mt_aload_n F hl 0 rfl rfl d_L_law_286 ?_
                refine mt_iload_n F hl 3 rfl rfl d_L_law_287 ?_
                refine lv_iconst (v := 1) F.1 F.2.1 d_L_law_288 (by decide) ?_
                refine lv_iadd F.1 F.2.1 d_L_law_289 ?_
                obtain ⟨v47, e_v47, h⟩ := mw_bind h
                refine mw_sld F hX hbl hbA hI e_v47 d_L_law_290 ?_
                obtain ⟨b48, e_b48, h⟩ := mw_bind h
                obtain ⟨o49, e_o49, h⟩ := mw_bind h
                refine mw_calll hI (mw_runV F hK hI (c_K_pop l D dA A _ _ _ _ e_o49) (cwV 1 F.2.2.2.2 (gd_V k_300 k_301 k_302 k_303 k_78) rfl rfl rfl hd_K_pop ⟨Nat.le_of_ble_eq_true rfl, Nat.le_of_ble_eq_true rfl⟩) (hc_0) e_b48 rfl hl.1 rfl (Nat.zero_le _) d_L_law_291 ⟨(by show _ ≤ 600000; omega), (by show _ ≤ 7302250; omega)⟩) (fun H locs hI => ?_)
                refine mt_aload_n F hl 2 rfl rfl d_L_law_294 ?_
                refine mt_aload_n F hl 0 rfl rfl d_L_law_295 ?_
                refine mt_iload_n F hl 3 rfl rfl d_L_law_296 ?_
                refine lv_iconst (v := 1) F.1 F.2.1 d_L_law_297 (by decide) ?_
                refine lv_iadd F.1 F.2.1 d_L_law_298 ?_
                obtain ⟨v50, e_v50, h⟩ := mw_bind h
                refine mw_sld F hX hbl hbA hI e_v50 d_L_law_299 ?_
                obtain ⟨b51, e_b51, h⟩ := mw_bind h
                obtain ⟨o52, e_o52, h⟩ := mw_bind h
                refine mw_calll hI (mw_runV F hK hI (c_M_pop l D dA A _ _ _ _ e_o52) (cwV 1 F.2.2.2.2 (gd_V k_304 k_305 k_306 k_307 k_130) rfl rfl rfl hd_M_pop ⟨Nat.le_of_ble_eq_true rfl, Nat.le_of_ble_eq_true rfl⟩) (hc_4) e_b51 rfl hl.1 rfl (by simp [mw_cat, mw_cI, mw_cL]) d_L_law_300 ⟨(by show _ ≤ 600000; omega), (by show _ ≤ 7302250; omega)⟩) (fun H locs hI => ?_)
                refine W.lcmp F.1 F.2.1 d_L_law_303 ?_
                refine lv_if_eq (tgt := 607) F.1 F.2.1 d_L_law_304 (by decide) (fun hc => ?_) (fun hc => ?_)
                · rw [if_pos hc] at h
                  refine mt_iinc (v := (x3 + 5)) F hl 3 rfl (by rw [show Int32.ofInt 5 = (5 : Int32) from by decide]) (Nat.le_of_ble_eq_true rfl) rfl d_L_law_607 (fun ls hl => ?_)
                  have hl : mt_L ls 4 [(3, (.inl (x3 + 5))), (0, (.inr (.inr (some bs)))), (1, (.inr (.inr r1))), (2, (.inr (.inr r2)))] := hl
                  refine lv_goto (tgt := 18) F.1 F.2.1 d_L_law_610 (by decide) ?_
                  refine W.widen (k := 144 + (520 - k0) * 3) (n := 47294 + (520 - k0) * 44) (by omega) (by omega) ?_
                  exact (ih (by omega)) _ _ _ _ _ _ _ hI (mt_sub hl [1, 2, 3, 0] rfl) h
                · rw [if_neg hc] at h
                  refine lv_iconst (v := 0) F.1 F.2.1 d_L_law_307 (by decide) ?_
                  exact lw_end F hI hA hr hlk ho h (by show _ ≤ 600000; omega) (by show _ ≤ 7302250; omega) d_L_law_308
              · rw [if_neg hk4] at h
                by_cases hk5 : (v1 &&& 31) = (5 : Int32)
                · rw [if_pos hk5] at h
                  refine mw_tabIn (tgt := 309) (off := 277) F hk5 d_L_law_32 (by decide) (by decide) (by rfl) (by decide) ?_
                  refine mt_aload_n F hl 1 rfl rfl d_L_law_309 ?_
                  refine mt_aload_n F hl 0 rfl rfl d_L_law_310 ?_
                  refine mt_iload_n F hl 3 rfl rfl d_L_law_311 ?_
                  refine lv_iconst (v := 1) F.1 F.2.1 d_L_law_312 (by decide) ?_
                  refine lv_iadd F.1 F.2.1 d_L_law_313 ?_
                  obtain ⟨v53, e_v53, h⟩ := mw_bind h
                  refine mw_sld F hX hbl hbA hI e_v53 d_L_law_314 ?_
                  refine mt_aload_n F hl 0 rfl rfl d_L_law_315 ?_
                  refine mt_iload_n F hl 3 rfl rfl d_L_law_316 ?_
                  refine lv_iconst (v := 2) F.1 F.2.1 d_L_law_317 (by decide) ?_
                  refine lv_iadd F.1 F.2.1 d_L_law_318 ?_
                  obtain ⟨v54, e_v54, h⟩ := mw_bind h
                  refine mw_sld F hX hbl hbA hI e_v54 d_L_law_319 ?_
                  refine mt_aload_n F hl 0 rfl rfl d_L_law_320 ?_
                  refine mt_iload_n F hl 3 rfl rfl d_L_law_321 ?_
                  refine lv_iconst (v := 3) F.1 F.2.1 d_L_law_322 (by decide) ?_
                  refine lv_iadd F.1 F.2.1 d_L_law_323 ?_
                  obtain ⟨v55, e_v55, h⟩ := mw_bind h
                  refine mw_sld F hX hbl hbA hI e_v55 d_L_law_324 ?_
                  refine mt_aload_n F hl 0 rfl rfl d_L_law_325 ?_
                  refine mt_iload_n F hl 3 rfl rfl d_L_law_326 ?_
                  refine lv_iconst (v := 4) F.1 F.2.1 d_L_law_327 (by decide) ?_
                  refine lv_iadd F.1 F.2.1 d_L_law_328 ?_
                  obtain ⟨v56, e_v56, h⟩ := mw_bind h
                  refine mw_sld F hX hbl hbA hI e_v56 d_L_law_329 ?_
                  obtain ⟨b57, e_b57, h⟩ := mw_bind h
                  obtain ⟨o58, e_o58, h⟩ := mw_bind h
                  refine mw_calli hI (mw_runV F hK hI (c_K_put l D dA A _ _ _ _ _ _ _ e_o58) (cwV 4 F.2.2.2.2 (gd_V k_308 k_309 k_310 k_311 k_78) rfl rfl rfl hd_K_put ⟨Nat.le_of_ble_eq_true rfl, Nat.le_of_ble_eq_true rfl⟩) (hc_0) e_b57 rfl hl.1 rfl (Nat.zero_le _) d_L_law_330 ⟨(by show _ ≤ 600000; omega), (by show _ ≤ 7302250; omega)⟩) (fun H locs hI => ?_)
                  refine mt_aload_n F hl 2 rfl rfl d_L_law_333 ?_
                  refine mt_aload_n F hl 0 rfl rfl d_L_law_334 ?_
                  refine mt_iload_n F hl 3 rfl rfl d_L_law_335 ?_
                  refine lv_iconst (v := 1) F.1 F.2.1 d_L_law_336 (by decide) ?_
                  refine lv_iadd F.1 F.2.1 d_L_law_337 ?_
                  obtain ⟨v59, e_v59, h⟩ := mw_bind h
                  refine mw_sld F hX hbl hbA hI e_v59 d_L_law_338 ?_
                  refine mt_aload_n F hl 0 rfl rfl d_L_law_339 ?_
                  refine mt_iload_n F hl 3 rfl rfl d_L_law_340 ?_
                  refine lv_iconst (v := 2) F.1 F.2.1 d_L_law_341 (by decide) ?_
                  refine lv_iadd F.1 F.2.1 d_L_law_342 ?_
                  obtain ⟨v60, e_v60, h⟩ := mw_bind h
                  refine mw_sld F hX hbl hbA hI e_v60 d_L_law_343 ?_
                  refine mt_aload_n F hl 0 rfl rfl d_L_law_344 ?_
                  refine mt_iload_n F hl 3 rfl rfl d_L_law_345 ?_
                  refine lv_iconst (v := 3) F.1 F.2.1 d_L_law_346 (by decide) ?_
                  refine lv_iadd F.1 F.2.1 d_L_law_347 ?_
                  obtain ⟨v61, e_v61, h⟩ := mw_bind h
                  refine mw_sld F hX hbl hbA hI e_v61 d_L_law_348 ?_
                  refine mt_aload_n F hl 0 rfl rfl d_L_law_349 ?_
                  refine mt_iload_n F hl 3 rfl rfl d_L_law_350 ?_
                  refine lv_iconst (v := 4) F.1 F.2.1 d_L_law_351 (by decide) ?_
                  refine lv_iadd F.1 F.2.1 d_L_law_352 ?_
                  obtain ⟨v62, e_v62, h⟩ := mw_bind h
                  refine mw_sld F hX hbl hbA hI e_v62 d_L_law_353 ?_
                  obtain ⟨b63, e_b63, h⟩ := mw_bind h
                  obtain ⟨o64, e_o64, h⟩ := mw_bind h
                  refine mw_calli hI (mw_runV F hK hI (c_M_put l D dA A _ _ _ _ _ _ _ e_o64) (cwV 4 F.2.2.2.2 (gd_V k_312 k_313 k_314 k_315 k_130) rfl rfl rfl hd_M_put ⟨Nat.le_of_ble_eq_true rfl, Nat.le_of_ble_eq_true rfl⟩) (hc_4) e_b63 rfl hl.1 rfl (by simp [mw_cat, mw_cI, mw_cL]) d_L_law_354 ⟨(by show _ ≤ 600000; omega), (by show _ ≤ 7302250; omega)⟩) (fun H locs hI => ?_)
                  refine lv_icmp_eq (tgt := 607) F.1 F.2.1 d_L_law_357 (by decide) (fun hc => ?_) (fun hc => ?_)
                  · rw [if_pos hc] at h
                    refine mt_iinc (v := (x3 + 5)) F hl 3 rfl (by rw [show Int32.ofInt 5 = (5 : Int32) from by decide]) (Nat.le_of_ble_eq_true rfl) rfl d_L_law_607 (fun ls hl => ?_)
                    have hl : mt_L ls 4 [(3, (.inl (x3 + 5))), (0, (.inr (.inr (some bs)))), (1, (.inr (.inr r1))), (2, (.inr (.inr r2)))] := hl
                    refine lv_goto (tgt := 18) F.1 F.2.1 d_L_law_610 (by decide) ?_
                    refine W.widen (k := 144 + (520 - k0) * 3) (n := 47294 + (520 - k0) * 44) (by omega) (by omega) ?_
                    exact (ih (by omega)) _ _ _ _ _ _ _ hI (mt_sub hl [1, 2, 3, 0] rfl) h
                  · rw [if_neg hc] at h
                    refine lv_iconst (v := 0) F.1 F.2.1 d_L_law_360 (by decide) ?_
                    exact lw_end F hI hA hr hlk ho h (by show _ ≤ 600000; omega) (by show _ ≤ 7302250; omega) d_L_law_361
                · rw [if_neg hk5] at h
                  by_cases hk6 : (v1 &&& 31) = (6 : Int32)
                  · rw [if_pos hk6] at h
                    refine mw_tabIn (tgt := 362) (off := 330) F hk6 d_L_law_32 (by decide) (by decide) (by rfl) (by decide) ?_
                    refine mt_aload_n F hl 1 rfl rfl d_L_law_362 ?_
                    refine mt_aload_n F hl 0 rfl rfl d_L_law_363 ?_
                    refine mt_iload_n F hl 3 rfl rfl d_L_law_364 ?_
                    refine lv_iconst (v := 1) F.1 F.2.1 d_L_law_365 (by decide) ?_
                    refine lv_iadd F.1 F.2.1 d_L_law_366 ?_
                    obtain ⟨v65, e_v65, h⟩ := mw_bind h
                    refine mw_sld F hX hbl hbA hI e_v65 d_L_law_367 ?_
                    refine mt_aload_n F hl 0 rfl rfl d_L_law_368 ?_
                    refine mt_iload_n F hl 3 rfl rfl d_L_law_369 ?_
                    refine lv_iconst (v := 2) F.1 F.2.1 d_L_law_370 (by decide) ?_
                    refine lv_iadd F.1 F.2.1 d_L_law_371 ?_
                    obtain ⟨v66, e_v66, h⟩ := mw_bind h
                    refine mw_sld F hX hbl hbA hI e_v66 d_L_law_372 ?_
                    obtain ⟨b67, e_b67, h⟩ := mw_bind h
                    obtain ⟨o68, e_o68, h⟩ := mw_bind h
                    refine mw_calll hI (mw_runV F hK hI (c_K_item l D dA A _ _ _ _ _ e_o68) (cwV 2 F.2.2.2.2 (gd_V k_316 k_317 k_318 k_319 k_78) rfl rfl rfl hd_K_item ⟨Nat.le_of_ble_eq_true rfl, Nat.le_of_ble_eq_true rfl⟩) (hc_0) e_b67 rfl hl.1 rfl (Nat.zero_le _) d_L_law_373 ⟨(by show _ ≤ 600000; omega), (by show _ ≤ 7302250; omega)⟩) (fun H locs hI => ?_)
                    refine mt_aload_n F hl 2 rfl rfl d_L_law_376 ?_
                    refine mt_aload_n F hl 0 rfl rfl d_L_law_377 ?_
                    refine mt_iload_n F hl 3 rfl rfl d_L_law_378 ?_
                    refine lv_iconst (v := 1) F.1 F.2.1 d_L_law_379 (by decide) ?_
                    refine lv_iadd F.1 F.2.1 d_L_law_380 ?_
                    obtain ⟨v69, e_v69, h⟩ := mw_bind h
                    refine mw_sld F hX hbl hbA hI e_v69 d_L_law_381 ?_
                    refine mt_aload_n F hl 0 rfl rfl d_L_law_382 ?_
                    refine mt_iload_n F hl 3 rfl rfl d_L_law_383 ?_
                    refine lv_iconst (v := 2) F.1 F.2.1 d_L_law_384 (by decide) ?_
                    refine lv_iadd F.1 F.2.1 d_L_law_385 ?_
                    obtain ⟨v70, e_v70, h⟩ := mw_bind h
                    refine mw_sld F hX hbl hbA hI e_v70 d_L_law_386 ?_
                    obtain ⟨b71, e_b71, h⟩ := mw_bind h
                    obtain ⟨o72, e_o72, h⟩ := mw_bind h
                    refine mw_calll hI (mw_runV F hK hI (c_M_item l D dA A _ _ _ _ _ e_o72) (cwV 2 F.2.2.2.2 (gd_V k_320 k_321 k_322 k_323 k_130) rfl rfl rfl hd_M_item ⟨Nat.le_of_ble_eq_true rfl, Nat.le_of_ble_eq_true rfl⟩) (hc_4) e_b71 rfl hl.1 rfl (by simp [mw_cat, mw_cI, mw_cL]) d_L_law_387 ⟨(by show _ ≤ 600000; omega), (by show _ ≤ 7302250; omega)⟩) (fun H locs hI => ?_)
                    refine W.lcmp F.1 F.2.1 d_L_law_390 ?_
                    refine lv_if_eq (tgt := 607) F.1 F.2.1 d_L_law_391 (by decide) (fun hc => ?_) (fun hc => ?_)
                    · rw [if_pos hc] at h
                      refine mt_iinc (v := (x3 + 5)) F hl 3 rfl (by rw [show Int32.ofInt 5 = (5 : Int32) from by decide]) (Nat.le_of_ble_eq_true rfl) rfl d_L_law_607 (fun ls hl => ?_)
                      have hl : mt_L ls 4 [(3, (.inl (x3 + 5))), (0, (.inr (.inr (some bs)))), (1, (.inr (.inr r1))), (2, (.inr (.inr r2)))] := hl
                      refine lv_goto (tgt := 18) F.1 F.2.1 d_L_law_610 (by decide) ?_
                      refine W.widen (k := 144 + (520 - k0) * 3) (n := 47294 + (520 - k0) * 44) (by omega) (by omega) ?_
                      exact (ih (by omega)) _ _ _ _ _ _ _ hI (mt_sub hl [1, 2, 3, 0] rfl) h
                    · rw [if_neg hc] at h
                      refine lv_iconst (v := 0) F.1 F.2.1 d_L_law_394 (by decide) ?_
                      exact lw_end F hI hA hr hlk ho h (by show _ ≤ 600000; omega) (by show _ ≤ 7302250; omega) d_L_law_395
                  · rw [if_neg hk6] at h
                    by_cases hk7 : (v1 &&& 31) = (7 : Int32)
                    · rw [if_pos hk7] at h
                      refine mw_tabIn (tgt := 396) (off := 364) F hk7 d_L_law_32 (by decide) (by decide) (by rfl) (by decide) ?_
                      refine mt_aload_n F hl 1 rfl rfl d_L_law_396 ?_
                      refine mt_aload_n F hl 0 rfl rfl d_L_law_397 ?_
                      refine mt_iload_n F hl 3 rfl rfl d_L_law_398 ?_
                      refine lv_iconst (v := 1) F.1 F.2.1 d_L_law_399 (by decide) ?_
                      refine lv_iadd F.1 F.2.1 d_L_law_400 ?_
                      obtain ⟨v73, e_v73, h⟩ := mw_bind h
                      refine mw_sld F hX hbl hbA hI e_v73 d_L_law_401 ?_
                      refine mt_aload_n F hl 0 rfl rfl d_L_law_402 ?_
                      refine mt_iload_n F hl 3 rfl rfl d_L_law_403 ?_
                      refine lv_iconst (v := 2) F.1 F.2.1 d_L_law_404 (by decide) ?_
                      refine lv_iadd F.1 F.2.1 d_L_law_405 ?_
                      obtain ⟨v74, e_v74, h⟩ := mw_bind h
                      refine mw_sld F hX hbl hbA hI e_v74 d_L_law_406 ?_
                      refine mt_aload_n F hl 0 rfl rfl d_L_law_407 ?_
                      refine mt_iload_n F hl 3 rfl rfl d_L_law_408 ?_
                      refine lv_iconst (v := 3) F.1 F.2.1 d_L_law_409 (by decide) ?_
                      refine lv_iadd F.1 F.2.1 d_L_law_410 ?_
                      obtain ⟨v75, e_v75, h⟩ := mw_bind h
                      refine mw_sld F hX hbl hbA hI e_v75 d_L_law_411 ?_
                      obtain ⟨b76, e_b76, h⟩ := mw_bind h
                      obtain ⟨o77, e_o77, h⟩ := mw_bind h
                      refine mw_calli hI (mw_runV F hK hI (c_K_root l D dA A _ _ _ _ _ _ e_o77) (cwV 3 F.2.2.2.2 (gd_V k_324 k_325 k_326 k_327 k_78) rfl rfl rfl hd_K_root ⟨Nat.le_of_ble_eq_true rfl, Nat.le_of_ble_eq_true rfl⟩) (hc_0) e_b76 rfl hl.1 rfl (Nat.zero_le _) d_L_law_412 ⟨(by show _ ≤ 600000; omega), (by show _ ≤ 7302250; omega)⟩) (fun H locs hI => ?_)
                      refine mt_aload_n F hl 2 rfl rfl d_L_law_415 ?_
                      refine mt_aload_n F hl 0 rfl rfl d_L_law_416 ?_
                      refine mt_iload_n F hl 3 rfl rfl d_L_law_417 ?_
                      refine lv_iconst (v := 1) F.1 F.2.1 d_L_law_418 (by decide) ?_
                      refine lv_iadd F.1 F.2.1 d_L_law_419 ?_
                      obtain ⟨v78, e_v78, h⟩ := mw_bind h
                      refine mw_sld F hX hbl hbA hI e_v78 d_L_law_420 ?_
                      refine mt_aload_n F hl 0 rfl rfl d_L_law_421 ?_
                      refine mt_iload_n F hl 3 rfl rfl d_L_law_422 ?_
                      refine lv_iconst (v := 2) F.1 F.2.1 d_L_law_423 (by decide) ?_
                      refine lv_iadd F.1 F.2.1 d_L_law_424 ?_
                      obtain ⟨v79, e_v79, h⟩ := mw_bind h
                      refine mw_sld F hX hbl hbA hI e_v79 d_L_law_425 ?_
                      refine mt_aload_n F hl 0 rfl rfl d_L_law_426 ?_
                      refine mt_iload_n F hl 3 rfl rfl d_L_law_427 ?_
                      refine lv_iconst (v := 3) F.1 F.2.1 d_L_law_428 (by decide) ?_
                      refine lv_iadd F.1 F.2.1 d_L_law_429 ?_
                      obtain ⟨v80, e_v80, h⟩ := mw_bind h
                      refine mw_sld F hX hbl hbA hI e_v80 d_L_law_430 ?_
                      obtain ⟨b81, e_b81, h⟩ := mw_bind h
                      obtain ⟨o82, e_o82, h⟩ := mw_bind h
                      refine mw_calli hI (mw_runV F hK hI (c_M_root l D dA A _ _ _ _ _ _ e_o82) (cwV 3 F.2.2.2.2 (gd_V k_328 k_329 k_330 k_331 k_130) rfl rfl rfl hd_M_root ⟨Nat.le_of_ble_eq_true rfl, Nat.le_of_ble_eq_true rfl⟩) (hc_4) e_b81 rfl hl.1 rfl (by simp [mw_cat, mw_cI, mw_cL]) d_L_law_431 ⟨(by show _ ≤ 600000; omega), (by show _ ≤ 7302250; omega)⟩) (fun H locs hI => ?_)
                      refine lv_icmp_eq (tgt := 607) F.1 F.2.1 d_L_law_434 (by decide) (fun hc => ?_) (fun hc => ?_)
                      · rw [if_pos hc] at h
                        refine mt_iinc (v := (x3 + 5)) F hl 3 rfl (by rw [show Int32.ofInt 5 = (5 : Int32) from by decide]) (Nat.le_of_ble_eq_true rfl) rfl d_L_law_607 (fun ls hl => ?_)
                        have hl : mt_L ls 4 [(3, (.inl (x3 + 5))), (0, (.inr (.inr (some bs)))), (1, (.inr (.inr r1))), (2, (.inr (.inr r2)))] := hl
                        refine lv_goto (tgt := 18) F.1 F.2.1 d_L_law_610 (by decide) ?_
                        refine W.widen (k := 144 + (520 - k0) * 3) (n := 47294 + (520 - k0) * 44) (by omega) (by omega) ?_
                        exact (ih (by omega)) _ _ _ _ _ _ _ hI (mt_sub hl [1, 2, 3, 0] rfl) h
                      · rw [if_neg hc] at h
                        refine lv_iconst (v := 0) F.1 F.2.1 d_L_law_437 (by decide) ?_
                        exact lw_end F hI hA hr hlk ho h (by show _ ≤ 600000; omega) (by show _ ≤ 7302250; omega) d_L_law_438
                    · rw [if_neg hk7] at h
                      by_cases hk8 : (v1 &&& 31) = (8 : Int32)
                      · rw [if_pos hk8] at h
                        refine mw_tabIn (tgt := 439) (off := 407) F hk8 d_L_law_32 (by decide) (by decide) (by rfl) (by decide) ?_
                        refine mt_aload_n F hl 1 rfl rfl d_L_law_439 ?_
                        refine mt_aload_n F hl 0 rfl rfl d_L_law_440 ?_
                        refine mt_iload_n F hl 3 rfl rfl d_L_law_441 ?_
                        refine lv_iconst (v := 1) F.1 F.2.1 d_L_law_442 (by decide) ?_
                        refine lv_iadd F.1 F.2.1 d_L_law_443 ?_
                        obtain ⟨v83, e_v83, h⟩ := mw_bind h
                        refine mw_sld F hX hbl hbA hI e_v83 d_L_law_444 ?_
                        obtain ⟨b84, e_b84, h⟩ := mw_bind h
                        obtain ⟨o85, e_o85, h⟩ := mw_bind h
                        refine mw_calll hI (mw_runV F hK hI (c_K_rooted l D dA A _ _ _ _ e_o85) (cwV 1 F.2.2.2.2 (gd_V k_332 k_333 k_334 k_335 k_78) rfl rfl rfl hd_K_rooted ⟨Nat.le_of_ble_eq_true rfl, Nat.le_of_ble_eq_true rfl⟩) (hc_0) e_b84 rfl hl.1 rfl (Nat.zero_le _) d_L_law_445 ⟨(by show _ ≤ 600000; omega), (by show _ ≤ 7302250; omega)⟩) (fun H locs hI => ?_)
                        refine mt_aload_n F hl 2 rfl rfl d_L_law_448 ?_
                        refine mt_aload_n F hl 0 rfl rfl d_L_law_449 ?_
                        refine mt_iload_n F hl 3 rfl rfl d_L_law_450 ?_
                        refine lv_iconst (v := 1) F.1 F.2.1 d_L_law_451 (by decide) ?_
                        refine lv_iadd F.1 F.2.1 d_L_law_452 ?_
                        obtain ⟨v86, e_v86, h⟩ := mw_bind h
                        refine mw_sld F hX hbl hbA hI e_v86 d_L_law_453 ?_
                        obtain ⟨b87, e_b87, h⟩ := mw_bind h
                        obtain ⟨o88, e_o88, h⟩ := mw_bind h
                        refine mw_calll hI (mw_runV F hK hI (c_M_rooted l D dA A _ _ _ _ e_o88) (cwV 1 F.2.2.2.2 (gd_V k_336 k_337 k_338 k_339 k_130) rfl rfl rfl hd_M_rooted ⟨Nat.le_of_ble_eq_true rfl, Nat.le_of_ble_eq_true rfl⟩) (hc_4) e_b87 rfl hl.1 rfl (by simp [mw_cat, mw_cI, mw_cL]) d_L_law_454 ⟨(by show _ ≤ 600000; omega), (by show _ ≤ 7302250; omega)⟩) (fun H locs hI => ?_)
                        refine W.lcmp F.1 F.2.1 d_L_law_457 ?_
                        refine lv_if_eq (tgt := 607) F.1 F.2.1 d_L_law_458 (by decide) (fun hc => ?_) (fun hc => ?_)
                        · rw [if_pos hc] at h
                          refine mt_iinc (v := (x3 + 5)) F hl 3 rfl (by rw [show Int32.ofInt 5 = (5 : Int32) from by decide]) (Nat.le_of_ble_eq_true rfl) rfl d_L_law_607 (fun ls hl => ?_)
                          have hl : mt_L ls 4 [(3, (.inl (x3 + 5))), (0, (.inr (.inr (some bs)))), (1, (.inr (.inr r1))), (2, (.inr (.inr r2)))] := hl
                          refine lv_goto (tgt := 18) F.1 F.2.1 d_L_law_610 (by decide) ?_
                          refine W.widen (k := 144 + (520 - k0) * 3) (n := 47294 + (520 - k0) * 44) (by omega) (by omega) ?_
                          exact (ih (by omega)) _ _ _ _ _ _ _ hI (mt_sub hl [1, 2, 3, 0] rfl) h
                        · rw [if_neg hc] at h
                          refine lv_iconst (v := 0) F.1 F.2.1 d_L_law_461 (by decide) ?_
                          exact lw_end F hI hA hr hlk ho h (by show _ ≤ 600000; omega) (by show _ ≤ 7302250; omega) d_L_law_462
                      · rw [if_neg hk8] at h
                        by_cases hk9 : (v1 &&& 31) = (9 : Int32)
                        · rw [if_pos hk9] at h
                          refine mw_tabIn (tgt := 463) (off := 431) F hk9 d_L_law_32 (by decide) (by decide) (by rfl) (by decide) ?_
                          refine mt_aload_n F hl 1 rfl rfl d_L_law_463 ?_
                          obtain ⟨b89, e_b89, h⟩ := mw_bind h
                          obtain ⟨o90, e_o90, h⟩ := mw_bind h
                          refine mw_calli hI (mw_runV F hK hI (c_K_commit l D dA A _ _ _ e_o90) (cwV 0 F.2.2.2.2 (gd_V k_340 k_341 k_342 k_343 k_78) rfl rfl rfl hd_K_commit ⟨Nat.le_of_ble_eq_true rfl, Nat.le_of_ble_eq_true rfl⟩) (hc_0) e_b89 rfl hl.1 rfl (Nat.zero_le _) d_L_law_464 ⟨(by show _ ≤ 600000; omega), (by show _ ≤ 7302250; omega)⟩) (fun H locs hI => ?_)
                          refine mt_aload_n F hl 2 rfl rfl d_L_law_467 ?_
                          obtain ⟨b91, e_b91, h⟩ := mw_bind h
                          obtain ⟨o92, e_o92, h⟩ := mw_bind h
                          refine mw_calli hI (mw_runV F hK hI (c_M_commit l D dA A _ _ _ e_o92) (cwV 0 F.2.2.2.2 (gd_V k_344 k_345 k_346 k_347 k_130) rfl rfl rfl hd_M_commit ⟨Nat.le_of_ble_eq_true rfl, Nat.le_of_ble_eq_true rfl⟩) (hc_4) e_b91 rfl hl.1 rfl (by simp [mw_cat, mw_cI, mw_cL]) d_L_law_468 ⟨(by show _ ≤ 600000; omega), (by show _ ≤ 7302250; omega)⟩) (fun H locs hI => ?_)
                          refine lv_icmp_eq (tgt := 607) F.1 F.2.1 d_L_law_471 (by decide) (fun hc => ?_) (fun hc => ?_)
                          · rw [if_pos hc] at h
                            refine mt_iinc (v := (x3 + 5)) F hl 3 rfl (by rw [show Int32.ofInt 5 = (5 : Int32) from by decide]) (Nat.le_of_ble_eq_true rfl) rfl d_L_law_607 (fun ls hl => ?_)
                            have hl : mt_L ls 4 [(3, (.inl (x3 + 5))), (0, (.inr (.inr (some bs)))), (1, (.inr (.inr r1))), (2, (.inr (.inr r2)))] := hl
                            refine lv_goto (tgt := 18) F.1 F.2.1 d_L_law_610 (by decide) ?_
                            refine W.widen (k := 144 + (520 - k0) * 3) (n := 47294 + (520 - k0) * 44) (by omega) (by omega) ?_
                            exact (ih (by omega)) _ _ _ _ _ _ _ hI (mt_sub hl [1, 2, 3, 0] rfl) h
                          · rw [if_neg hc] at h
                            refine lv_iconst (v := 0) F.1 F.2.1 d_L_law_474 (by decide) ?_
                            exact lw_end F hI hA hr hlk ho h (by show _ ≤ 600000; omega) (by show _ ≤ 7302250; omega) d_L_law_475
                        · rw [if_neg hk9] at h
                          by_cases hk10 : (v1 &&& 31) = (10 : Int32)
                          · rw [if_pos hk10] at h
                            refine mw_tabIn (tgt := 476) (off := 444) F hk10 d_L_law_32 (by decide) (by decide) (by rfl) (by decide) ?_
                            refine mt_aload_n F hl 1 rfl rfl d_L_law_476 ?_
                            obtain ⟨b93, e_b93, h⟩ := mw_bind h
                            obtain ⟨o94, e_o94, h⟩ := mw_bind h
                            refine mw_calli hI (mw_runV F hK hI (c_K_undo l D dA A _ _ _ e_o94) (cwV 0 F.2.2.2.2 (gd_V k_348 k_349 k_350 k_351 k_78) rfl rfl rfl hd_K_undo ⟨Nat.le_of_ble_eq_true rfl, Nat.le_of_ble_eq_true rfl⟩) (hc_0) e_b93 rfl hl.1 rfl (Nat.zero_le _) d_L_law_477 ⟨(by show _ ≤ 600000; omega), (by show _ ≤ 7302250; omega)⟩) (fun H locs hI => ?_)
                            refine mt_aload_n F hl 2 rfl rfl d_L_law_480 ?_
                            obtain ⟨b95, e_b95, h⟩ := mw_bind h
                            obtain ⟨o96, e_o96, h⟩ := mw_bind h
                            refine mw_calli hI (mw_runV F hK hI (c_M_undo l D dA A _ _ _ e_o96) (cwV 0 F.2.2.2.2 (gd_V k_352 k_353 k_354 k_355 k_130) rfl rfl rfl hd_M_undo ⟨Nat.le_of_ble_eq_true rfl, Nat.le_of_ble_eq_true rfl⟩) (hc_4) e_b95 rfl hl.1 rfl (by simp [mw_cat, mw_cI, mw_cL]) d_L_law_481 ⟨(by show _ ≤ 600000; omega), (by show _ ≤ 7302250; omega)⟩) (fun H locs hI => ?_)
                            refine lv_icmp_eq (tgt := 607) F.1 F.2.1 d_L_law_484 (by decide) (fun hc => ?_) (fun hc => ?_)
                            · rw [if_pos hc] at h
                              refine mt_iinc (v := (x3 + 5)) F hl 3 rfl (by rw [show Int32.ofInt 5 = (5 : Int32) from by decide]) (Nat.le_of_ble_eq_true rfl) rfl d_L_law_607 (fun ls hl => ?_)
                              have hl : mt_L ls 4 [(3, (.inl (x3 + 5))), (0, (.inr (.inr (some bs)))), (1, (.inr (.inr r1))), (2, (.inr (.inr r2)))] := hl
                              refine lv_goto (tgt := 18) F.1 F.2.1 d_L_law_610 (by decide) ?_
                              refine W.widen (k := 144 + (520 - k0) * 3) (n := 47294 + (520 - k0) * 44) (by omega) (by omega) ?_
                              exact (ih (by omega)) _ _ _ _ _ _ _ hI (mt_sub hl [1, 2, 3, 0] rfl) h
                            · rw [if_neg hc] at h
                              refine lv_iconst (v := 0) F.1 F.2.1 d_L_law_487 (by decide) ?_
                              exact lw_end F hI hA hr hlk ho h (by show _ ≤ 600000; omega) (by show _ ≤ 7302250; omega) d_L_law_488
                          · rw [if_neg hk10] at h
                            by_cases hk11 : (v1 &&& 31) = (11 : Int32)
                            · rw [if_pos hk11] at h
                              refine mw_tabIn (tgt := 489) (off := 457) F hk11 d_L_law_32 (by decide) (by decide) (by rfl) (by decide) ?_
                              refine mt_aload_n F hl 1 rfl rfl d_L_law_489 ?_
                              obtain ⟨b97, e_b97, h⟩ := mw_bind h
                              obtain ⟨o98, e_o98, h⟩ := mw_bind h
                              refine mw_calli hI (mw_runV F hK hI (c_K_sweep l D dA A _ _ _ e_o98) (cwV 0 F.2.2.2.2 (gd_V k_356 k_357 k_358 k_359 k_78) rfl rfl rfl hd_K_sweep ⟨Nat.le_of_ble_eq_true rfl, Nat.le_of_ble_eq_true rfl⟩) (hc_0) e_b97 rfl hl.1 rfl (Nat.zero_le _) d_L_law_490 ⟨(by show _ ≤ 600000; omega), (by show _ ≤ 7302250; omega)⟩) (fun H locs hI => ?_)
                              refine mt_aload_n F hl 2 rfl rfl d_L_law_493 ?_
                              obtain ⟨b99, e_b99, h⟩ := mw_bind h
                              obtain ⟨o100, e_o100, h⟩ := mw_bind h
                              refine mw_calli hI (mw_runV F hK hI (c_M_sweep l D dA A _ _ _ e_o100) (cwV 0 F.2.2.2.2 (gd_V k_360 k_361 k_362 k_363 k_130) rfl rfl rfl hd_M_sweep ⟨Nat.le_of_ble_eq_true rfl, Nat.le_of_ble_eq_true rfl⟩) (hc_4) e_b99 rfl hl.1 rfl (by simp [mw_cat, mw_cI, mw_cL]) d_L_law_494 ⟨(by show _ ≤ 600000; omega), (by show _ ≤ 7302250; omega)⟩) (fun H locs hI => ?_)
                              refine lv_icmp_eq (tgt := 607) F.1 F.2.1 d_L_law_497 (by decide) (fun hc => ?_) (fun hc => ?_)
                              · rw [if_pos hc] at h
                                refine mt_iinc (v := (x3 + 5)) F hl 3 rfl (by rw [show Int32.ofInt 5 = (5 : Int32) from by decide]) (Nat.le_of_ble_eq_true rfl) rfl d_L_law_607 (fun ls hl => ?_)
                                have hl : mt_L ls 4 [(3, (.inl (x3 + 5))), (0, (.inr (.inr (some bs)))), (1, (.inr (.inr r1))), (2, (.inr (.inr r2)))] := hl
                                refine lv_goto (tgt := 18) F.1 F.2.1 d_L_law_610 (by decide) ?_
                                refine W.widen (k := 144 + (520 - k0) * 3) (n := 47294 + (520 - k0) * 44) (by omega) (by omega) ?_
                                exact (ih (by omega)) _ _ _ _ _ _ _ hI (mt_sub hl [1, 2, 3, 0] rfl) h
                              · rw [if_neg hc] at h
                                refine lv_iconst (v := 0) F.1 F.2.1 d_L_law_500 (by decide) ?_
                                exact lw_end F hI hA hr hlk ho h (by show _ ≤ 600000; omega) (by show _ ≤ 7302250; omega) d_L_law_501
                            · rw [if_neg hk11] at h
                              by_cases hk12 : (v1 &&& 31) = (12 : Int32)
                              · rw [if_pos hk12] at h
                                refine mw_tabIn (tgt := 502) (off := 470) F hk12 d_L_law_32 (by decide) (by decide) (by rfl) (by decide) ?_
                                refine mt_aload_n F hl 1 rfl rfl d_L_law_502 ?_
                                obtain ⟨b101, e_b101, h⟩ := mw_bind h
                                obtain ⟨o102, e_o102, h⟩ := mw_bind h
                                refine mw_calli hI (mw_runV F hK hI (c_K_sync l D dA A _ _ _ e_o102) (cwV 0 F.2.2.2.2 (gd_V k_364 k_365 k_366 k_367 k_78) rfl rfl rfl hd_K_sync ⟨Nat.le_of_ble_eq_true rfl, Nat.le_of_ble_eq_true rfl⟩) (hc_0) e_b101 rfl hl.1 rfl (Nat.zero_le _) d_L_law_503 ⟨(by show _ ≤ 600000; omega), (by show _ ≤ 7302250; omega)⟩) (fun H locs hI => ?_)
                                refine mt_aload_n F hl 2 rfl rfl d_L_law_506 ?_
                                obtain ⟨b103, e_b103, h⟩ := mw_bind h
                                obtain ⟨o104, e_o104, h⟩ := mw_bind h
                                refine mw_calli hI (mw_runV F hK hI (c_M_sync l D dA A _ _ _ e_o104) (cwV 0 F.2.2.2.2 (gd_V k_368 k_369 k_370 k_371 k_130) rfl rfl rfl hd_M_sync ⟨Nat.le_of_ble_eq_true rfl, Nat.le_of_ble_eq_true rfl⟩) (hc_4) e_b103 rfl hl.1 rfl (by simp [mw_cat, mw_cI, mw_cL]) d_L_law_507 ⟨(by show _ ≤ 600000; omega), (by show _ ≤ 7302250; omega)⟩) (fun H locs hI => ?_)
                                refine lv_icmp_eq (tgt := 607) F.1 F.2.1 d_L_law_510 (by decide) (fun hc => ?_) (fun hc => ?_)
                                · rw [if_pos hc] at h
                                  refine mt_iinc (v := (x3 + 5)) F hl 3 rfl (by rw [show Int32.ofInt 5 = (5 : Int32) from by decide]) (Nat.le_of_ble_eq_true rfl) rfl d_L_law_607 (fun ls hl => ?_)
                                  have hl : mt_L ls 4 [(3, (.inl (x3 + 5))), (0, (.inr (.inr (some bs)))), (1, (.inr (.inr r1))), (2, (.inr (.inr r2)))] := hl
                                  refine lv_goto (tgt := 18) F.1 F.2.1 d_L_law_610 (by decide) ?_
                                  refine W.widen (k := 144 + (520 - k0) * 3) (n := 47294 + (520 - k0) * 44) (by omega) (by omega) ?_
                                  exact (ih (by omega)) _ _ _ _ _ _ _ hI (mt_sub hl [1, 2, 3, 0] rfl) h
                                · rw [if_neg hc] at h
                                  refine lv_iconst (v := 0) F.1 F.2.1 d_L_law_513 (by decide) ?_
                                  exact lw_end F hI hA hr hlk ho h (by show _ ≤ 600000; omega) (by show _ ≤ 7302250; omega) d_L_law_514
                              · rw [if_neg hk12] at h
                                by_cases hk13 : (v1 &&& 31) = (13 : Int32)
                                · rw [if_pos hk13] at h
                                  refine mw_tabIn (tgt := 515) (off := 483) F hk13 d_L_law_32 (by decide) (by decide) (by rfl) (by decide) ?_
                                  refine mt_aload_n F hl 1 rfl rfl d_L_law_515 ?_
                                  refine mt_aload_n F hl 0 rfl rfl d_L_law_516 ?_
                                  refine mt_iload_n F hl 3 rfl rfl d_L_law_517 ?_
                                  refine lv_iconst (v := 1) F.1 F.2.1 d_L_law_518 (by decide) ?_
                                  refine lv_iadd F.1 F.2.1 d_L_law_519 ?_
                                  obtain ⟨v105, e_v105, h⟩ := mw_bind h
                                  refine mw_sld F hX hbl hbA hI e_v105 d_L_law_520 ?_
                                  obtain ⟨b106, e_b106, h⟩ := mw_bind h
                                  obtain ⟨o107, e_o107, h⟩ := mw_bind h
                                  refine mw_calli hI (mw_runV F hK hI (c_K_crash l D dA A _ _ _ _ e_o107) (cwV 1 F.2.2.2.2 (gd_V k_372 k_373 k_374 k_375 k_78) rfl rfl rfl hd_K_crash ⟨Nat.le_of_ble_eq_true rfl, Nat.le_of_ble_eq_true rfl⟩) (hc_0) e_b106 rfl hl.1 rfl (Nat.zero_le _) d_L_law_521 ⟨(by show _ ≤ 600000; omega), (by show _ ≤ 7302250; omega)⟩) (fun H locs hI => ?_)
                                  refine mt_aload_n F hl 2 rfl rfl d_L_law_524 ?_
                                  refine mt_aload_n F hl 0 rfl rfl d_L_law_525 ?_
                                  refine mt_iload_n F hl 3 rfl rfl d_L_law_526 ?_
                                  refine lv_iconst (v := 1) F.1 F.2.1 d_L_law_527 (by decide) ?_
                                  refine lv_iadd F.1 F.2.1 d_L_law_528 ?_
                                  obtain ⟨v108, e_v108, h⟩ := mw_bind h
                                  refine mw_sld F hX hbl hbA hI e_v108 d_L_law_529 ?_
                                  obtain ⟨b109, e_b109, h⟩ := mw_bind h
                                  obtain ⟨o110, e_o110, h⟩ := mw_bind h
                                  refine mw_calli hI (mw_runV F hK hI (c_M_crash l D dA A _ _ _ _ e_o110) (cwV 1 F.2.2.2.2 (gd_V k_376 k_377 k_378 k_379 k_130) rfl rfl rfl hd_M_crash ⟨Nat.le_of_ble_eq_true rfl, Nat.le_of_ble_eq_true rfl⟩) (hc_4) e_b109 rfl hl.1 rfl (by simp [mw_cat, mw_cI, mw_cL]) d_L_law_530 ⟨(by show _ ≤ 600000; omega), (by show _ ≤ 7302250; omega)⟩) (fun H locs hI => ?_)
                                  refine lv_icmp_eq (tgt := 607) F.1 F.2.1 d_L_law_533 (by decide) (fun hc => ?_) (fun hc => ?_)
                                  · rw [if_pos hc] at h
                                    refine mt_iinc (v := (x3 + 5)) F hl 3 rfl (by rw [show Int32.ofInt 5 = (5 : Int32) from by decide]) (Nat.le_of_ble_eq_true rfl) rfl d_L_law_607 (fun ls hl => ?_)
                                    have hl : mt_L ls 4 [(3, (.inl (x3 + 5))), (0, (.inr (.inr (some bs)))), (1, (.inr (.inr r1))), (2, (.inr (.inr r2)))] := hl
                                    refine lv_goto (tgt := 18) F.1 F.2.1 d_L_law_610 (by decide) ?_
                                    refine W.widen (k := 144 + (520 - k0) * 3) (n := 47294 + (520 - k0) * 44) (by omega) (by omega) ?_
                                    exact (ih (by omega)) _ _ _ _ _ _ _ hI (mt_sub hl [1, 2, 3, 0] rfl) h
                                  · rw [if_neg hc] at h
                                    refine lv_iconst (v := 0) F.1 F.2.1 d_L_law_536 (by decide) ?_
                                    exact lw_end F hI hA hr hlk ho h (by show _ ≤ 600000; omega) (by show _ ≤ 7302250; omega) d_L_law_537
                                · rw [if_neg hk13] at h
                                  by_cases hk14 : (v1 &&& 31) = (14 : Int32)
                                  · rw [if_pos hk14] at h
                                    refine mw_tabIn (tgt := 538) (off := 506) F hk14 d_L_law_32 (by decide) (by decide) (by rfl) (by decide) ?_
                                    refine mt_aload_n F hl 1 rfl rfl d_L_law_538 ?_
                                    refine mt_aload_n F hl 0 rfl rfl d_L_law_539 ?_
                                    refine mt_iload_n F hl 3 rfl rfl d_L_law_540 ?_
                                    refine lv_iconst (v := 1) F.1 F.2.1 d_L_law_541 (by decide) ?_
                                    refine lv_iadd F.1 F.2.1 d_L_law_542 ?_
                                    obtain ⟨v111, e_v111, h⟩ := mw_bind h
                                    refine mw_sld F hX hbl hbA hI e_v111 d_L_law_543 ?_
                                    obtain ⟨b112, e_b112, h⟩ := mw_bind h
                                    obtain ⟨o113, e_o113, h⟩ := mw_bind h
                                    refine mw_calli hI (mw_runV F hK hI (c_K_kind l D dA A _ _ _ _ e_o113) (cwV 1 F.2.2.2.2 (gd_V k_380 k_381 k_382 k_383 k_78) rfl rfl rfl hd_K_kind ⟨Nat.le_of_ble_eq_true rfl, Nat.le_of_ble_eq_true rfl⟩) (hc_0) e_b112 rfl hl.1 rfl (Nat.zero_le _) d_L_law_544 ⟨(by show _ ≤ 600000; omega), (by show _ ≤ 7302250; omega)⟩) (fun H locs hI => ?_)
                                    refine mt_aload_n F hl 2 rfl rfl d_L_law_547 ?_
                                    refine mt_aload_n F hl 0 rfl rfl d_L_law_548 ?_
                                    refine mt_iload_n F hl 3 rfl rfl d_L_law_549 ?_
                                    refine lv_iconst (v := 1) F.1 F.2.1 d_L_law_550 (by decide) ?_
                                    refine lv_iadd F.1 F.2.1 d_L_law_551 ?_
                                    obtain ⟨v114, e_v114, h⟩ := mw_bind h
                                    refine mw_sld F hX hbl hbA hI e_v114 d_L_law_552 ?_
                                    obtain ⟨b115, e_b115, h⟩ := mw_bind h
                                    obtain ⟨o116, e_o116, h⟩ := mw_bind h
                                    refine mw_calli hI (mw_runV F hK hI (c_M_kind l D dA A _ _ _ _ e_o116) (cwV 1 F.2.2.2.2 (gd_V k_384 k_385 k_386 k_387 k_130) rfl rfl rfl hd_M_kind ⟨Nat.le_of_ble_eq_true rfl, Nat.le_of_ble_eq_true rfl⟩) (hc_4) e_b115 rfl hl.1 rfl (by simp [mw_cat, mw_cI, mw_cL]) d_L_law_553 ⟨(by show _ ≤ 600000; omega), (by show _ ≤ 7302250; omega)⟩) (fun H locs hI => ?_)
                                    refine lv_icmp_eq (tgt := 607) F.1 F.2.1 d_L_law_556 (by decide) (fun hc => ?_) (fun hc => ?_)
                                    · rw [if_pos hc] at h
                                      refine mt_iinc (v := (x3 + 5)) F hl 3 rfl (by rw [show Int32.ofInt 5 = (5 : Int32) from by decide]) (Nat.le_of_ble_eq_true rfl) rfl d_L_law_607 (fun ls hl => ?_)
                                      have hl : mt_L ls 4 [(3, (.inl (x3 + 5))), (0, (.inr (.inr (some bs)))), (1, (.inr (.inr r1))), (2, (.inr (.inr r2)))] := hl
                                      refine lv_goto (tgt := 18) F.1 F.2.1 d_L_law_610 (by decide) ?_
                                      refine W.widen (k := 144 + (520 - k0) * 3) (n := 47294 + (520 - k0) * 44) (by omega) (by omega) ?_
                                      exact (ih (by omega)) _ _ _ _ _ _ _ hI (mt_sub hl [1, 2, 3, 0] rfl) h
                                    · rw [if_neg hc] at h
                                      refine lv_iconst (v := 0) F.1 F.2.1 d_L_law_559 (by decide) ?_
                                      exact lw_end F hI hA hr hlk ho h (by show _ ≤ 600000; omega) (by show _ ≤ 7302250; omega) d_L_law_560
                                  · rw [if_neg hk14] at h
                                    by_cases hk15 : (v1 &&& 31) = (15 : Int32)
                                    · rw [if_pos hk15] at h
                                      refine mw_tabIn (tgt := 561) (off := 529) F hk15 d_L_law_32 (by decide) (by decide) (by rfl) (by decide) ?_
                                      refine mt_aload_n F hl 1 rfl rfl d_L_law_561 ?_
                                      refine mt_aload_n F hl 0 rfl rfl d_L_law_562 ?_
                                      refine mt_iload_n F hl 3 rfl rfl d_L_law_563 ?_
                                      refine lv_iconst (v := 1) F.1 F.2.1 d_L_law_564 (by decide) ?_
                                      refine lv_iadd F.1 F.2.1 d_L_law_565 ?_
                                      obtain ⟨v117, e_v117, h⟩ := mw_bind h
                                      refine mw_sld F hX hbl hbA hI e_v117 d_L_law_566 ?_
                                      obtain ⟨b118, e_b118, h⟩ := mw_bind h
                                      obtain ⟨o119, e_o119, h⟩ := mw_bind h
                                      refine mw_calli hI (mw_runV F hK hI (c_K_size l D dA A _ _ _ _ e_o119) (cwV 1 F.2.2.2.2 (gd_V k_388 k_389 k_390 k_391 k_78) rfl rfl rfl hd_K_size ⟨Nat.le_of_ble_eq_true rfl, Nat.le_of_ble_eq_true rfl⟩) (hc_0) e_b118 rfl hl.1 rfl (Nat.zero_le _) d_L_law_567 ⟨(by show _ ≤ 600000; omega), (by show _ ≤ 7302250; omega)⟩) (fun H locs hI => ?_)
                                      refine mt_aload_n F hl 2 rfl rfl d_L_law_570 ?_
                                      refine mt_aload_n F hl 0 rfl rfl d_L_law_571 ?_
                                      refine mt_iload_n F hl 3 rfl rfl d_L_law_572 ?_
                                      refine lv_iconst (v := 1) F.1 F.2.1 d_L_law_573 (by decide) ?_
                                      refine lv_iadd F.1 F.2.1 d_L_law_574 ?_
                                      obtain ⟨v120, e_v120, h⟩ := mw_bind h
                                      refine mw_sld F hX hbl hbA hI e_v120 d_L_law_575 ?_
                                      obtain ⟨b121, e_b121, h⟩ := mw_bind h
                                      obtain ⟨o122, e_o122, h⟩ := mw_bind h
                                      refine mw_calli hI (mw_runV F hK hI (c_M_size l D dA A _ _ _ _ e_o122) (cwV 1 F.2.2.2.2 (gd_V k_392 k_393 k_394 k_395 k_130) rfl rfl rfl hd_M_size ⟨Nat.le_of_ble_eq_true rfl, Nat.le_of_ble_eq_true rfl⟩) (hc_4) e_b121 rfl hl.1 rfl (by simp [mw_cat, mw_cI, mw_cL]) d_L_law_576 ⟨(by show _ ≤ 600000; omega), (by show _ ≤ 7302250; omega)⟩) (fun H locs hI => ?_)
                                      refine lv_icmp_eq (tgt := 607) F.1 F.2.1 d_L_law_579 (by decide) (fun hc => ?_) (fun hc => ?_)
                                      · rw [if_pos hc] at h
                                        refine mt_iinc (v := (x3 + 5)) F hl 3 rfl (by rw [show Int32.ofInt 5 = (5 : Int32) from by decide]) (Nat.le_of_ble_eq_true rfl) rfl d_L_law_607 (fun ls hl => ?_)
                                        have hl : mt_L ls 4 [(3, (.inl (x3 + 5))), (0, (.inr (.inr (some bs)))), (1, (.inr (.inr r1))), (2, (.inr (.inr r2)))] := hl
                                        refine lv_goto (tgt := 18) F.1 F.2.1 d_L_law_610 (by decide) ?_
                                        refine W.widen (k := 144 + (520 - k0) * 3) (n := 47294 + (520 - k0) * 44) (by omega) (by omega) ?_
                                        exact (ih (by omega)) _ _ _ _ _ _ _ hI (mt_sub hl [1, 2, 3, 0] rfl) h
                                      · rw [if_neg hc] at h
                                        refine lv_iconst (v := 0) F.1 F.2.1 d_L_law_582 (by decide) ?_
                                        exact lw_end F hI hA hr hlk ho h (by show _ ≤ 600000; omega) (by show _ ≤ 7302250; omega) d_L_law_583
                                    · rw [if_neg hk15] at h
                                      by_cases hk16 : (v1 &&& 31) = (16 : Int32)
                                      · rw [if_pos hk16] at h
                                        refine mw_tabIn (tgt := 584) (off := 552) F hk16 d_L_law_32 (by decide) (by decide) (by rfl) (by decide) ?_
                                        refine mt_aload_n F hl 1 rfl rfl d_L_law_584 ?_
                                        refine mt_aload_n F hl 0 rfl rfl d_L_law_585 ?_
                                        refine mt_iload_n F hl 3 rfl rfl d_L_law_586 ?_
                                        refine lv_iconst (v := 1) F.1 F.2.1 d_L_law_587 (by decide) ?_
                                        refine lv_iadd F.1 F.2.1 d_L_law_588 ?_
                                        obtain ⟨v123, e_v123, h⟩ := mw_bind h
                                        refine mw_sld F hX hbl hbA hI e_v123 d_L_law_589 ?_
                                        obtain ⟨b124, e_b124, h⟩ := mw_bind h
                                        obtain ⟨o125, e_o125, h⟩ := mw_bind h
                                        refine mw_calli hI (mw_runV F hK hI (c_K_count l D dA A _ _ _ _ e_o125) (cwV 1 F.2.2.2.2 (gd_V k_396 k_397 k_398 k_399 k_78) rfl rfl rfl hd_K_count ⟨Nat.le_of_ble_eq_true rfl, Nat.le_of_ble_eq_true rfl⟩) (hc_0) e_b124 rfl hl.1 rfl (Nat.zero_le _) d_L_law_590 ⟨(by show _ ≤ 600000; omega), (by show _ ≤ 7302250; omega)⟩) (fun H locs hI => ?_)
                                        refine mt_aload_n F hl 2 rfl rfl d_L_law_593 ?_
                                        refine mt_aload_n F hl 0 rfl rfl d_L_law_594 ?_
                                        refine mt_iload_n F hl 3 rfl rfl d_L_law_595 ?_
                                        refine lv_iconst (v := 1) F.1 F.2.1 d_L_law_596 (by decide) ?_
                                        refine lv_iadd F.1 F.2.1 d_L_law_597 ?_
                                        obtain ⟨v126, e_v126, h⟩ := mw_bind h
                                        refine mw_sld F hX hbl hbA hI e_v126 d_L_law_598 ?_
                                        obtain ⟨b127, e_b127, h⟩ := mw_bind h
                                        obtain ⟨o128, e_o128, h⟩ := mw_bind h
                                        refine mw_calli hI (mw_runV F hK hI (c_M_count l D dA A _ _ _ _ e_o128) (cwV 1 F.2.2.2.2 (gd_V k_400 k_401 k_402 k_403 k_130) rfl rfl rfl hd_M_count ⟨Nat.le_of_ble_eq_true rfl, Nat.le_of_ble_eq_true rfl⟩) (hc_4) e_b127 rfl hl.1 rfl (by simp [mw_cat, mw_cI, mw_cL]) d_L_law_599 ⟨(by show _ ≤ 600000; omega), (by show _ ≤ 7302250; omega)⟩) (fun H locs hI => ?_)
                                        refine lv_icmp_eq (tgt := 607) F.1 F.2.1 d_L_law_602 (by decide) (fun hc => ?_) (fun hc => ?_)
                                        · rw [if_pos hc] at h
                                          refine mt_iinc (v := (x3 + 5)) F hl 3 rfl (by rw [show Int32.ofInt 5 = (5 : Int32) from by decide]) (Nat.le_of_ble_eq_true rfl) rfl d_L_law_607 (fun ls hl => ?_)
                                          have hl : mt_L ls 4 [(3, (.inl (x3 + 5))), (0, (.inr (.inr (some bs)))), (1, (.inr (.inr r1))), (2, (.inr (.inr r2)))] := hl
                                          refine lv_goto (tgt := 18) F.1 F.2.1 d_L_law_610 (by decide) ?_
                                          refine W.widen (k := 144 + (520 - k0) * 3) (n := 47294 + (520 - k0) * 44) (by omega) (by omega) ?_
                                          exact (ih (by omega)) _ _ _ _ _ _ _ hI (mt_sub hl [1, 2, 3, 0] rfl) h
                                        · rw [if_neg hc] at h
                                          refine lv_iconst (v := 0) F.1 F.2.1 d_L_law_605 (by decide) ?_
                                          exact lw_end F hI hA hr hlk ho h (by show _ ≤ 600000; omega) (by show _ ≤ 7302250; omega) d_L_law_606
                                      · rw [if_neg hk16] at h
                                        refine lv_tableOut (tgt := 607) F.1 F.2.1 d_L_law_32 (by have z0 := lv_neT hk0 (show (0 : Int32).toInt = 0 by decide); have z1 := lv_neT hk1 (show (1 : Int32).toInt = 1 by decide); have z2 := lv_neT hk2 (show (2 : Int32).toInt = 2 by decide); have z3 := lv_neT hk3 (show (3 : Int32).toInt = 3 by decide); have z4 := lv_neT hk4 (show (4 : Int32).toInt = 4 by decide); have z5 := lv_neT hk5 (show (5 : Int32).toInt = 5 by decide); have z6 := lv_neT hk6 (show (6 : Int32).toInt = 6 by decide); have z7 := lv_neT hk7 (show (7 : Int32).toInt = 7 by decide); have z8 := lv_neT hk8 (show (8 : Int32).toInt = 8 by decide); have z9 := lv_neT hk9 (show (9 : Int32).toInt = 9 by decide); have z10 := lv_neT hk10 (show (10 : Int32).toInt = 10 by decide); have z11 := lv_neT hk11 (show (11 : Int32).toInt = 11 by decide); have z12 := lv_neT hk12 (show (12 : Int32).toInt = 12 by decide); have z13 := lv_neT hk13 (show (13 : Int32).toInt = 13 by decide); have z14 := lv_neT hk14 (show (14 : Int32).toInt = 14 by decide); have z15 := lv_neT hk15 (show (15 : Int32).toInt = 15 by decide); have z16 := lv_neT hk16 (show (16 : Int32).toInt = 16 by decide); omega) (by decide) ?_
                                        refine mt_iinc (v := (x3 + 5)) F hl 3 rfl (by rw [show Int32.ofInt 5 = (5 : Int32) from by decide]) (Nat.le_of_ble_eq_true rfl) rfl d_L_law_607 (fun ls hl => ?_)
                                        have hl : mt_L ls 4 [(3, (.inl (x3 + 5))), (0, (.inr (.inr (some bs)))), (1, (.inr (.inr r1))), (2, (.inr (.inr r2)))] := hl
                                        refine lv_goto (tgt := 18) F.1 F.2.1 d_L_law_610 (by decide) ?_
                                        refine W.widen (k := 144 + (520 - k0) * 3) (n := 47294 + (520 - k0) * 44) (by omega) (by omega) ?_
                                        exact (ih (by omega)) _ _ _ _ _ _ _ hI (mt_sub hl [1, 2, 3, 0] rfl) h
set_option maxHeartbeats 8000000 in
set_option maxRecDepth 100000 in
theorem c_L_law (l : Launch) (D : va_G) (dA : Nat → ClassId) (A : Nat → Prop) (L0 : Nat) (xs : Nat → Int32) (bs : Nat) {p : Program} {e : Env} {s : State} {m : MethodId} {below : List Frame} {meth : Method} {c : Code} (hX : va_X bs L0 xs s s.heap) (hbl : bs < s.heap.size) (hbA : ¬ A bs) (hA : ∀ q, A q → s.heap.size ≤ q) (F : CallFix p m c code 4 s #[Value.ref bs] (cL :: ALL) "KeepHeapLaw") (hr : meth.sig.returnType = ret) (hlk : meth.locks = false) (hnm : True) (hK : mw_K D CL (TY dA) ZZ s) (out : Int32 × mc_S) (ho : out.1 = 1) (S : mc_S) (hf : f_L_law L0 xs S = some out) (ls : Array Slot) (hl : mt_L ls 4 [(0, (.inr (.inr (some bs))))]) (hI : mw_I D dA CL A S s.heap s.heap []) : W p l e room_1 s m #[Value.ref bs] below meth c s.heap [] 0 0 (lw_Z below #[Value.ref bs] s) (F0 m 0 ls []) := by
  have h := hf
  unfold f_L_law at h
  refine mw_new F hK hI (in_0 _) ty_0 ok_0 (mA k_258) (mA k_259) (mA k_78) (hc_0) (fs := [.null, .null, .null, .null, .int 0, .int 0, .int 0]) df_0 (by show _ ≤ 600000; omega) (by show _ ≤ 7302250; omega) d_L_law_0 (fun H hI => ?_)
  refine lv_dup F.1 F.2.1 d_L_law_3 (mw_cat _) ?_
  obtain ⟨b1, e_b1, h⟩ := mw_bind h
  obtain ⟨S2, e_S2, h⟩ := mw_bind h
  refine mw_callv hI (mw_runI F hK hI (c_K_init l D dA A _ _ _ e_S2) (cwI 0 F.2.2.2.2 (gd_I k_260) rfl rfl rfl (F.2.2.2.2 _ (mA k_78)) (F.2.2.2.2 _ (mA k_261)) (F.2.2.2.2 _ (mA k_262)) rfl hd_K_init ⟨Nat.le_of_ble_eq_true rfl, Nat.le_of_ble_eq_true rfl⟩) e_b1 rfl hl.1 rfl (by simp [mw_cat, mw_cI, mw_cL]) d_L_law_4 ⟨(by show _ ≤ 600000; omega), (by show _ ≤ 7302250; omega)⟩) (fun H locs hI => ?_)
  refine mt_astore_n F hl rfl (Nat.le_of_ble_eq_true rfl) rfl d_L_law_7 (fun ls hl => ?_)
  have hl : mt_L ls 4 [(1, (.inr (.inr (some S.2)))), (0, (.inr (.inr (some bs))))] := hl
  refine mw_new F hK hI (in_4 _) ty_4 ok_4 (mA k_263) (mA k_264) (mA k_130) (hc_4) (fs := [.null, .null, .null, .null, .int 0, .int 0, .null, .null]) df_4 (by show _ ≤ 600000; omega) (by show _ ≤ 7302250; omega) d_L_law_8 (fun H hI => ?_)
  refine lv_dup F.1 F.2.1 d_L_law_11 (mw_cat _) ?_
  obtain ⟨b3, e_b3, h⟩ := mw_bind h
  obtain ⟨S4, e_S4, h⟩ := mw_bind h
  refine mw_callv hI (mw_runI F hK hI (c_M_init l D dA A _ _ _ e_S4) (cwI 0 F.2.2.2.2 (gd_I k_265) rfl rfl rfl (F.2.2.2.2 _ (mA k_130)) (F.2.2.2.2 _ (mA k_266)) (F.2.2.2.2 _ (mA k_267)) rfl hd_M_init ⟨Nat.le_of_ble_eq_true rfl, Nat.le_of_ble_eq_true rfl⟩) e_b3 rfl hl.1 rfl (by simp [mw_cat, mw_cI, mw_cL]) d_L_law_12 ⟨(by show _ ≤ 600000; omega), (by show _ ≤ 7302250; omega)⟩) (fun H locs hI => ?_)
  refine mt_astore_n F hl rfl (Nat.le_of_ble_eq_true rfl) rfl d_L_law_15 (fun ls hl => ?_)
  have hl : mt_L ls 4 [(2, (.inr (.inr (some S2.2)))), (1, (.inr (.inr (some S.2)))), (0, (.inr (.inr (some bs))))] := hl
  refine lv_iconst (v := 0) F.1 F.2.1 d_L_law_16 (by decide) ?_
  refine mt_istore_n F hl rfl (Nat.le_of_ble_eq_true rfl) rfl d_L_law_17 (fun ls hl => ?_)
  have hl : mt_L ls 4 [(3, (.inl 0)), (2, (.inr (.inr (some S2.2)))), (1, (.inr (.inr (some S.2)))), (0, (.inr (.inr (some bs))))] := hl
  refine W.widen (k := 144 + (520 - 520) * 3) (n := 47294 + (520 - 520) * 44) (by omega) (by omega) ?_
  exact (s_L_law l D dA A L0 xs bs hX hbl hbA hA F hr hlk hnm hK out ho 520 (Nat.le_refl _)) _ _ _ _ _ _ _ hI (mt_sub hl [3, 2, 1, 0] rfl) h
