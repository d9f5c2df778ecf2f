abbrev rm_M_undo : Room := { frames := 2, cells := 0, slots := 0, locals := 47 }
set_option maxHeartbeats 4000000 in
set_option maxRecDepth 100000 in
theorem c_M_undo (l : Launch) (D : va_G) (dA : Nat → ClassId) (A : Nat → Prop) (b0 : Nat) (S : mc_S) (out : (Int32 × mc_S)) (hf : f_M_undo b0 S = some out) : Met l y_M_undo (cd_M_undo :: ALL) rm_M_undo (va_Pc [va_rf (some b0)] (mw_B D dA CL (TY dA) ZZ A S)) (va_Qi (fun x (_ : Unit) => x = out.1) (fun _ t => mw_R D dA CL A out.2 t) A) 0 0 A := by
  refine mw_ofW (cc := b_M_undo) (maxL := 2) (ret := (some .int)) [(.inr (.inr (some b0)))] rfl (by decide +kernel) (Nat.le_of_ble_eq_true rfl) (L := [(0, (.inr (.inr (some b0))))]) rfl (fun p e s m args below meth c F hr hlk hnm hK ls hl hI => ?_)
  have h := hf
  unfold f_M_undo at h
  refine mt_aload_n F hl 0 rfl rfl d_M_undo_0 ?_
  obtain ⟨v1, e_v1, h⟩ := mw_bind h
  refine mw_getR F hK hI (in_4 _) (hc_4) 0 (by decide) (mA k_56) rfl e_v1 d_M_undo_1 ?_
  refine mt_aload_n F hl 0 rfl rfl d_M_undo_4 ?_
  obtain ⟨v2, e_v2, h⟩ := mw_bind h
  refine mw_getR F hK hI (in_4 _) (hc_4) 1 (by decide) (mA k_57) rfl e_v2 d_M_undo_5 ?_
  obtain ⟨b3, e_b3, h⟩ := mw_bind h
  obtain ⟨o4, e_o4, h⟩ := mw_bind h
  refine mw_calli hI (mw_runV F hK hI (c_N_bytesBehind l D dA A _ _ _ _ e_o4) (cwV 1 F.2.2.2.2 (gd_V k_214 k_215 k_216 k_217 k_53) rfl rfl rfl hd_N_bytesBehind ⟨Nat.le_of_ble_eq_true rfl, Nat.le_of_ble_eq_true rfl⟩) (hc_5) e_b3 rfl hl.1 rfl (Nat.zero_le _) d_M_undo_8 ⟨(Nat.le_of_ble_eq_true rfl), (Nat.le_of_ble_eq_true rfl)⟩) (fun H locs hI => ?_)
  refine mt_istore_n F hl rfl (Nat.le_of_ble_eq_true rfl) rfl d_M_undo_11 (fun ls hl => ?_)
  have hl : mt_L ls 2 [(1, (.inl o4.1)), (0, (.inr (.inr (some b0))))] := hl
  refine mt_aload_n F hl 1 rfl rfl d_M_undo_12 ?_
  obtain ⟨v5, e_v5, h⟩ := mw_bind h
  refine mw_getR F hK hI (in_4 _) (hc_4) 0 (by decide) (mA k_56) rfl e_v5 d_M_undo_13 ?_
  refine mt_aload_n F hl 1 rfl rfl d_M_undo_16 ?_
  obtain ⟨v6, e_v6, h⟩ := mw_bind h
  refine mw_getR F hK hI (in_4 _) (hc_4) 1 (by decide) (mA k_57) rfl e_v6 d_M_undo_17 ?_
  obtain ⟨b7, e_b7, h⟩ := mw_bind h
  obtain ⟨S8, e_S8, h⟩ := mw_bind h
  refine mw_callv hI (mw_runV F hK hI (c_N_copy l D dA A _ _ _ _ e_S8) (cwV 1 F.2.2.2.2 (gd_V k_207 k_208 k_209 k_210 k_53) rfl rfl rfl hd_N_copy ⟨Nat.le_of_ble_eq_true rfl, Nat.le_of_ble_eq_true rfl⟩) (hc_5) e_b7 rfl hl.1 rfl (Nat.zero_le _) d_M_undo_20 ⟨(Nat.le_of_ble_eq_true rfl), (Nat.le_of_ble_eq_true rfl)⟩) (fun H locs hI => ?_)
  refine mt_iload_n F hl 0 rfl rfl d_M_undo_23 ?_
  exact mw_iret F hI hr hlk h (Nat.le_of_ble_eq_true rfl) (Nat.le_of_ble_eq_true rfl) d_M_undo_24
abbrev rm_R_enqueue : Room := { frames := 0, cells := 0, slots := 0, locals := 0 }
set_option maxHeartbeats 4000000 in
set_option maxRecDepth 100000 in
theorem c_R_enqueue (l : Launch) (D : va_G) (dA : Nat → ClassId) (A : Nat → Prop) (b0 : Nat) (a1 : Int32) (S : mc_S) (out : mc_S) (hf : f_R_enqueue b0 a1 S = some out) : Met l y_R_enqueue (cd_R_enqueue :: ALL) rm_R_enqueue (va_Pc [va_rf (some b0), .int a1] (mw_B D dA CL (TY dA) ZZ A S)) (va_Qv (fun (_ : Unit) => True) (fun _ t => mw_R D dA CL A out t) A) 0 0 A := by
  refine mw_ofW (cc := b_R_enqueue) (maxL := 2) (ret := none) [(.inr (.inr (some b0))), (.inl a1)] rfl (by decide +kernel) (Nat.le_of_ble_eq_true rfl) (L := [(0, (.inr (.inr (some b0)))), (1, (.inl a1))]) rfl (fun p e s m args below meth c F hr hlk hnm hK ls hl hI => ?_)
  have h := hf
  unfold f_R_enqueue at h
  refine mt_aload_n F hl 0 rfl rfl d_R_enqueue_0 ?_
  obtain ⟨v1, e_v1, h⟩ := mw_bind h
  refine mw_getR F hK hI (in_3 _) (hc_3) 0 (by decide) (mA k_4) rfl e_v1 d_R_enqueue_1 ?_
  refine mt_iload_n F hl 1 rfl rfl d_R_enqueue_4 ?_
  obtain ⟨v2, e_v2, h⟩ := mw_bind h
  refine mw_zald F hK hI (t0 := 2) rfl e_v2 d_R_enqueue_5 ?_
  refine lv_if_ne (tgt := 36) F.1 F.2.1 d_R_enqueue_6 (by decide) (fun hc => ?_) (fun hc => ?_)
  · rw [if_neg hc] at h
    exact mw_vret F hI hr hlk h (Nat.le_of_ble_eq_true rfl) (Nat.le_of_ble_eq_true rfl) d_R_enqueue_36
  · rw [if_pos hc] at h
    refine mt_aload_n F hl 0 rfl rfl d_R_enqueue_9 ?_
    obtain ⟨v3, e_v3, h⟩ := mw_bind h
    refine mw_getR F hK hI (in_3 _) (hc_3) 0 (by decide) (mA k_4) rfl e_v3 d_R_enqueue_10 ?_
    refine mt_iload_n F hl 1 rfl rfl d_R_enqueue_13 ?_
    refine lv_iconst (v := 1) F.1 F.2.1 d_R_enqueue_14 (by decide) ?_
    obtain ⟨S4, e_S4, h⟩ := mw_bind h
    refine mw_zast F hK hI (t0 := 2) rfl rfl e_S4 d_R_enqueue_15 (fun H locs hI => ?_)
    refine mt_aload_n F hl 0 rfl rfl d_R_enqueue_16 ?_
    obtain ⟨v5, e_v5, h⟩ := mw_bind h
    refine mw_getR F hK hI (in_3 _) (hc_3) 1 (by decide) (mA k_6) rfl e_v5 d_R_enqueue_17 ?_
    refine mt_aload_n F hl 0 rfl rfl d_R_enqueue_20 ?_
    obtain ⟨v6, e_v6, h⟩ := mw_bind h
    refine mw_getI F hK hI (in_3 _) (hc_3) 2 (by decide) (mA k_7) rfl e_v6 d_R_enqueue_21 ?_
    refine mt_iload_n F hl 1 rfl rfl d_R_enqueue_24 ?_
    obtain ⟨S7, e_S7, h⟩ := mw_bind h
    refine mw_iast F hK hI (t0 := 0) rfl e_S7 d_R_enqueue_25 (fun H locs hI => ?_)
    refine mt_aload_n F hl 0 rfl rfl d_R_enqueue_26 ?_
    refine lv_dup F.1 F.2.1 d_R_enqueue_27 (mw_cat _) ?_
    obtain ⟨v8, e_v8, h⟩ := mw_bind h
    refine mw_getI F hK hI (in_3 _) (hc_3) 2 (by decide) (mA k_7) rfl e_v8 d_R_enqueue_28 ?_
    refine lv_iconst (v := 1) F.1 F.2.1 d_R_enqueue_31 (by decide) ?_
    refine lv_iadd F.1 F.2.1 d_R_enqueue_32 ?_
    obtain ⟨S9, e_S9, h⟩ := mw_bind h
    refine mw_put F hK hI (in_3 _) ty_3 ok_3 nm_3 (hc_3) 2 (by decide) (mA k_7) rfl rfl rfl rfl e_S9 d_R_enqueue_33 (fun H locs hI => ?_)
    exact mw_vret F hI hr hlk h (Nat.le_of_ble_eq_true rfl) (Nat.le_of_ble_eq_true rfl) d_R_enqueue_36
abbrev rm_R_enqueueAll : Room := { frames := 1, cells := 0, slots := 0, locals := 21 }
set_option maxHeartbeats 4000000 in
set_option maxRecDepth 100000 in
theorem s_R_enqueueAll (l : Launch) (D : va_G) (dA : Nat → ClassId) (A : Nat → Prop) (b0 : Nat) {p : Program} {e : Env} {s : State} {m : MethodId} {args : Array Value} {below : List Frame} {meth : Method} {c : Code} (F : CallFix p m c b_R_enqueueAll 5 s args (cd_R_enqueueAll :: ALL) y_R_enqueueAll.cls) (hr : meth.sig.returnType = none) (hlk : meth.locks = false) (hnm : meth.name = y_R_enqueueAll.name) (hK : mw_K D CL (TY dA) ZZ s) (out : mc_S) : ∀ n : Nat, (∀ (r1 : Option Nat) (x2 : Int32) (S : mc_S) (H : Heap) (locs : List Loc) (ls : Array Slot), mw_I D dA CL A S s.heap H locs → mt_L ls 5 [(0, (.inr (.inr (some b0)))), (1, (.inr (.inr r1))), (2, (.inl x2))] → g_R_enqueueAll b0 n r1 x2 S = some out → W p l e rm_R_enqueueAll s m args below meth c H locs (0) (0) (MQ below (va_Qv (fun (_ : Unit) => True) (fun _ t => mw_R D dA CL A out t) A) args s 0 0 A) (F0 m 7 ls [])) := by
  intro n
  induction n with
  | zero =>
    intro r1 x2 S H locs ls hI hl h; have h : (none : Option mc_S) = some out := h; cases h
  | succ k0 ih =>
    intro r1 x2 S H locs ls hI hl h
    have h : q_R_enqueueAll_0 b0 (g_R_enqueueAll b0 k0) r1 x2 S = some out := h
    unfold q_R_enqueueAll_0 at h
    refine mt_iload_n F hl 2 rfl rfl d_R_enqueueAll_7 ?_
    refine mt_aload_n F hl 1 rfl rfl d_R_enqueueAll_8 ?_
    obtain ⟨v1, e_v1, h⟩ := mw_bind h
    refine mw_getI F hK hI (in_1 _) (hc_1) 3 (by decide) (mA k_222) rfl e_v1 d_R_enqueueAll_9 ?_
    refine lv_icmp_ge (tgt := 52) F.1 F.2.1 d_R_enqueueAll_12 (by decide) (fun hc => ?_) (fun hc => ?_)
    · rw [if_pos hc] at h
      exact mw_vret F hI hr hlk h (Nat.le_of_ble_eq_true rfl) (Nat.le_of_ble_eq_true rfl) d_R_enqueueAll_52
    · rw [if_neg hc] at h
      refine mt_aload_n F hl 1 rfl rfl d_R_enqueueAll_15 ?_
      obtain ⟨v2, e_v2, h⟩ := mw_bind h
      refine mw_getR F hK hI (in_1 _) (hc_1) 2 (by decide) (mA k_223) rfl e_v2 d_R_enqueueAll_16 ?_
      refine mt_iload_n F hl 2 rfl rfl d_R_enqueueAll_19 ?_
      obtain ⟨v3, e_v3, h⟩ := mw_bind h
      refine mw_lald F hK hI (t0 := 1) rfl e_v3 d_R_enqueueAll_20 ?_
      refine lv_ldc2 (v := 1099511627777) F.1 F.2.1 F.2.2.2.1 (F.2.2.2.2 _ (mA k_224)) d_R_enqueueAll_21 ?_
      refine lv_lsub F.1 F.2.1 d_R_enqueueAll_24 ?_
      refine mt_lstore_n F hl rfl (Nat.le_of_ble_eq_true rfl) rfl d_R_enqueueAll_25 (fun ls hl => ?_)
      have hl : mt_L ls 5 [(3, (.inr (.inl (v3 - 1099511627777)))), (0, (.inr (.inr (some b0)))), (1, (.inr (.inr r1))), (2, (.inl x2))] := hl
      refine mt_lload_n F hl 0 rfl rfl d_R_enqueueAll_26 ?_
      refine lv_lconst (v := 0) F.1 F.2.1 d_R_enqueueAll_27 (by decide) ?_
      refine W.lcmp F.1 F.2.1 d_R_enqueueAll_28 ?_
      refine lv_if_lt (tgt := 46) F.1 F.2.1 d_R_enqueueAll_29 (by decide) (fun hc => ?_) (fun hc => ?_)
      · rw [if_pos hc] at h
        refine mt_iinc (v := (x2 + 1)) F hl 3 rfl (by rw [show Int32.ofInt 1 = (1 : Int32) from by decide]) (Nat.le_of_ble_eq_true rfl) rfl d_R_enqueueAll_46 (fun ls hl => ?_)
        have hl : mt_L ls 5 [(2, (.inl (x2 + 1))), (3, (.inr (.inl (v3 - 1099511627777)))), (0, (.inr (.inr (some b0)))), (1, (.inr (.inr r1)))] := hl
        refine lv_goto (tgt := 7) F.1 F.2.1 d_R_enqueueAll_49 (by decide) ?_
        refine W.widen (k := 0) (n := 0) (Nat.le_of_ble_eq_true rfl) (Nat.le_of_ble_eq_true rfl) ?_
        exact ih _ _ _ _ _ _ hI (mt_sub hl [2, 3, 0] rfl) h
      · rw [if_neg hc] at h
        refine mt_lload_n F hl 0 rfl rfl d_R_enqueueAll_32 ?_
        refine lv_ldc2 (v := 100) F.1 F.2.1 F.2.2.2.1 (F.2.2.2.2 _ (mA k_225)) d_R_enqueueAll_33 ?_
        refine W.lcmp F.1 F.2.1 d_R_enqueueAll_36 ?_
        refine lv_if_ge (tgt := 46) F.1 F.2.1 d_R_enqueueAll_37 (by decide) (fun hc => ?_) (fun hc => ?_)
        · rw [if_pos hc] at h
          refine mt_iinc (v := (x2 + 1)) F hl 3 rfl (by rw [show Int32.ofInt 1 = (1 : Int32) from by decide]) (Nat.le_of_ble_eq_true rfl) rfl d_R_enqueueAll_46 (fun ls hl => ?_)
          have hl : mt_L ls 5 [(2, (.inl (x2 + 1))), (3, (.inr (.inl (v3 - 1099511627777)))), (0, (.inr (.inr (some b0)))), (1, (.inr (.inr r1)))] := hl
          refine lv_goto (tgt := 7) F.1 F.2.1 d_R_enqueueAll_49 (by decide) ?_
          refine W.widen (k := 0) (n := 0) (Nat.le_of_ble_eq_true rfl) (Nat.le_of_ble_eq_true rfl) ?_
          exact ih _ _ _ _ _ _ hI (mt_sub hl [2, 3, 0] rfl) h
        · rw [if_neg hc] at h
          refine mt_aload_n F hl 1 rfl rfl d_R_enqueueAll_40 ?_
          refine mt_lload_n F hl 0 rfl rfl d_R_enqueueAll_41 ?_
          refine lv_l2i F.1 F.2.1 d_R_enqueueAll_42 rfl ?_
          obtain ⟨b4, e_b4, h⟩ := mw_bind h
          obtain ⟨S5, e_S5, h⟩ := mw_bind h
          refine mw_callv hI (mw_runV F hK hI (c_R_enqueue l D dA A _ _ _ _ e_S5) (cwV 1 F.2.2.2.2 (gd_V k_226 k_227 k_228 k_229 k_24) rfl rfl rfl hd_R_enqueue ⟨Nat.le_of_ble_eq_true rfl, Nat.le_of_ble_eq_true rfl⟩) (hc_3) e_b4 rfl hl.1 rfl (Nat.zero_le _) d_R_enqueueAll_43 ⟨(Nat.le_of_ble_eq_true rfl), (Nat.le_of_ble_eq_true rfl)⟩) (fun H locs hI => ?_)
          refine mt_iinc (v := (x2 + 1)) F hl 3 rfl (by rw [show Int32.ofInt 1 = (1 : Int32) from by decide]) (Nat.le_of_ble_eq_true rfl) rfl d_R_enqueueAll_46 (fun ls hl => ?_)
          have hl : mt_L ls 5 [(2, (.inl (x2 + 1))), (3, (.inr (.inl (v3 - 1099511627777)))), (0, (.inr (.inr (some b0)))), (1, (.inr (.inr r1)))] := hl
          refine lv_goto (tgt := 7) F.1 F.2.1 d_R_enqueueAll_49 (by decide) ?_
          refine W.widen (k := 0) (n := 0) (Nat.le_of_ble_eq_true rfl) (Nat.le_of_ble_eq_true rfl) ?_
          exact ih _ _ _ _ _ _ hI (mt_sub hl [2, 3, 0] rfl) h
set_option maxHeartbeats 4000000 in
set_option maxRecDepth 100000 in
theorem c_R_enqueueAll (l : Launch) (D : va_G) (dA : Nat → ClassId) (A : Nat → Prop) (b0 : Nat) (a1 : Option Nat) (S : mc_S) (out : mc_S) (hf : f_R_enqueueAll b0 a1 S = some out) : Met l y_R_enqueueAll (cd_R_enqueueAll :: ALL) rm_R_enqueueAll (va_Pc [va_rf (some b0), va_rf a1] (mw_B D dA CL (TY dA) ZZ A S)) (va_Qv (fun (_ : Unit) => True) (fun _ t => mw_R D dA CL A out t) A) 0 0 A := by
  refine mw_ofW (cc := b_R_enqueueAll) (maxL := 5) (ret := none) [(.inr (.inr (some b0))), (.inr (.inr a1))] rfl (by decide +kernel) (Nat.le_of_ble_eq_true rfl) (L := [(0, (.inr (.inr (some b0)))), (1, (.inr (.inr a1)))]) rfl (fun p e s m args below meth c F hr hlk hnm hK ls hl hI => ?_)
  have h := hf
  unfold f_R_enqueueAll at h
  refine mt_aload_n F hl 1 rfl rfl d_R_enqueueAll_0 ?_
  refine mw_ifnonnull (tgt := 5) F d_R_enqueueAll_1 (by decide) (fun hc => ?_) (fun hc => ?_)
  · rw [if_neg hc] at h
    refine lv_iconst (v := 0) F.1 F.2.1 d_R_enqueueAll_5 (by decide) ?_
    refine mt_istore_n F hl rfl (Nat.le_of_ble_eq_true rfl) rfl d_R_enqueueAll_6 (fun ls hl => ?_)
    have hl : mt_L ls 5 [(2, (.inl 0)), (0, (.inr (.inr (some b0)))), (1, (.inr (.inr a1)))] := hl
    refine W.widen (k := 0) (n := 0) (Nat.le_of_ble_eq_true rfl) (Nat.le_of_ble_eq_true rfl) ?_
    exact (s_R_enqueueAll l D dA A b0 F hr hlk hnm hK out 5000) _ _ _ _ _ _ hI (mt_sub hl [1, 2, 0] rfl) h
  · rw [if_pos hc] at h
    exact mw_vret F hI hr hlk h (Nat.le_of_ble_eq_true rfl) (Nat.le_of_ble_eq_true rfl) d_R_enqueueAll_4
abbrev rm_R_walk : Room := { frames := 2, cells := 0, slots := 0, locals := 45 }
set_option maxHeartbeats 4000000 in
set_option maxRecDepth 100000 in
theorem s_R_walk (l : Launch) (D : va_G) (dA : Nat → ClassId) (A : Nat → Prop) (b0 : Nat) {p : Program} {e : Env} {s : State} {m : MethodId} {args : Array Value} {below : List Frame} {meth : Method} {c : Code} (F : CallFix p m c b_R_walk 3 s args (cd_R_walk :: ALL) y_R_walk.cls) (hr : meth.sig.returnType = none) (hlk : meth.locks = false) (hnm : meth.name = y_R_walk.name) (hK : mw_K D CL (TY dA) ZZ s) (out : mc_S) : ∀ n : Nat, (∀ (r1 : Option Nat) (x2 : Int32) (S : mc_S) (H : Heap) (locs : List Loc) (ls : Array Slot), mw_I D dA CL A S s.heap H locs → mt_L ls 3 [(0, (.inr (.inr (some b0)))), (1, (.inr (.inr r1))), (2, (.inl x2))] → g_R_walk b0 n 0 r1 x2 S = some out → W p l e rm_R_walk s m args below meth c H locs (0) (0) (MQ below (va_Qv (fun (_ : Unit) => True) (fun _ t => mw_R D dA CL A out t) A) args s 0 0 A) (F0 m 7 ls [])) ∧ (∀ (r1 : Option Nat) (x2 : Int32) (S : mc_S) (H : Heap) (locs : List Loc) (ls : Array Slot), mw_I D dA CL A S s.heap H locs → mt_L ls 3 [(0, (.inr (.inr (some b0)))), (1, (.inr (.inr r1))), (2, (.inl x2))] → g_R_walk b0 n 1 r1 x2 S = some out → W p l e rm_R_walk s m args below meth c H locs (0) (0) (MQ below (va_Qv (fun (_ : Unit) => True) (fun _ t => mw_R D dA CL A out t) A) args s 0 0 A) (F0 m 36 ls [])) := by
  intro n
  induction n with
  | zero =>
    refine ⟨?_, ?_⟩
    · intro r1 x2 S H locs ls hI hl h; have h : (none : Option mc_S) = some out := h; cases h
    · intro r1 x2 S H locs ls hI hl h; have h : (none : Option mc_S) = some out := h; cases h
  | succ k0 ih =>
    refine ⟨?_, ?_⟩
    · intro r1 x2 S H locs ls hI hl h
      have h : q_R_walk_0 b0 (g_R_walk b0 k0) r1 x2 S = some out := h
      unfold q_R_walk_0 at h
      refine mt_iload_n F hl 2 rfl rfl d_R_walk_7 ?_
      refine lv_bipush (v := 100) F.1 F.2.1 d_R_walk_8 (by decide) ?_
      refine lv_icmp_ge (tgt := 26) F.1 F.2.1 d_R_walk_10 (by decide) (fun hc => ?_) (fun hc => ?_)
      · rw [if_pos hc] at h
        refine mt_aload_n F hl 0 rfl rfl d_R_walk_26 ?_
        refine mt_aload_n F hl 1 rfl rfl d_R_walk_27 ?_
        obtain ⟨v1, e_v1, h⟩ := mw_bind h
        refine mw_getR F hK hI (in_2 _) (hc_2) 1 (by decide) (mA k_230) rfl e_v1 d_R_walk_28 ?_
        obtain ⟨b2, e_b2, h⟩ := mw_bind h
        obtain ⟨S3, e_S3, h⟩ := mw_bind h
        refine mw_callv hI (mw_runV F hK hI (c_R_enqueueAll l D dA A _ _ _ _ e_S3) (cwV 1 F.2.2.2.2 (gd_V k_231 k_232 k_233 k_234 k_24) rfl rfl rfl hd_R_enqueueAll ⟨Nat.le_of_ble_eq_true rfl, Nat.le_of_ble_eq_true rfl⟩) (hc_3) e_b2 rfl hl.1 rfl (Nat.zero_le _) d_R_walk_31 ⟨(Nat.le_of_ble_eq_true rfl), (Nat.le_of_ble_eq_true rfl)⟩) (fun H locs hI => ?_)
        refine lv_iconst (v := 0) F.1 F.2.1 d_R_walk_34 (by decide) ?_
        refine mt_istore_n F hl rfl (Nat.le_of_ble_eq_true rfl) rfl d_R_walk_35 (fun ls hl => ?_)
        have hl : mt_L ls 3 [(2, (.inl 0)), (0, (.inr (.inr (some b0)))), (1, (.inr (.inr r1)))] := hl
        refine W.widen (k := 0) (n := 0) (Nat.le_of_ble_eq_true rfl) (Nat.le_of_ble_eq_true rfl) ?_
        exact ih.2 _ _ _ _ _ _ hI (mt_sub hl [1, 2, 0] rfl) h
      · rw [if_neg hc] at h
        refine mt_aload_n F hl 0 rfl rfl d_R_walk_13 ?_
        obtain ⟨v4, e_v4, h⟩ := mw_bind h
        refine mw_getR F hK hI (in_3 _) (hc_3) 0 (by decide) (mA k_4) rfl e_v4 d_R_walk_14 ?_
        refine mt_iload_n F hl 2 rfl rfl d_R_walk_17 ?_
        refine lv_iconst (v := 0) F.1 F.2.1 d_R_walk_18 (by decide) ?_
        obtain ⟨S5, e_S5, h⟩ := mw_bind h
        refine mw_zast F hK hI (t0 := 2) rfl rfl e_S5 d_R_walk_19 (fun H locs hI => ?_)
        refine mt_iinc (v := (x2 + 1)) F hl 2 rfl (by rw [show Int32.ofInt 1 = (1 : Int32) from by decide]) (Nat.le_of_ble_eq_true rfl) rfl d_R_walk_20 (fun ls hl => ?_)
        have hl : mt_L ls 3 [(2, (.inl (x2 + 1))), (0, (.inr (.inr (some b0)))), (1, (.inr (.inr r1)))] := hl
        refine lv_goto (tgt := 7) F.1 F.2.1 d_R_walk_23 (by decide) ?_
        refine W.widen (k := 0) (n := 0) (Nat.le_of_ble_eq_true rfl) (Nat.le_of_ble_eq_true rfl) ?_
        exact ih.1 _ _ _ _ _ _ hI (mt_sub hl [1, 2, 0] rfl) h
    · intro r1 x2 S H locs ls hI hl h
      have h : q_R_walk_1 b0 (g_R_walk b0 k0) r1 x2 S = some out := h
      unfold q_R_walk_1 at h
      refine mt_iload_n F hl 2 rfl rfl d_R_walk_36 ?_
      refine mt_aload_n F hl 0 rfl rfl d_R_walk_37 ?_
      obtain ⟨v1, e_v1, h⟩ := mw_bind h
      refine mw_getI F hK hI (in_3 _) (hc_3) 2 (by decide) (mA k_7) rfl e_v1 d_R_walk_38 ?_
      refine lv_icmp_ge (tgt := 71) F.1 F.2.1 d_R_walk_41 (by decide) (fun hc => ?_) (fun hc => ?_)
      · rw [if_pos hc] at h
        exact mw_vret F hI hr hlk h (Nat.le_of_ble_eq_true rfl) (Nat.le_of_ble_eq_true rfl) d_R_walk_71
      · rw [if_neg hc] at h
        refine mt_iload_n F hl 2 rfl rfl d_R_walk_44 ?_
        refine lv_bipush (v := 100) F.1 F.2.1 d_R_walk_45 (by decide) ?_
        refine lv_icmp_ge (tgt := 71) F.1 F.2.1 d_R_walk_47 (by decide) (fun hc => ?_) (fun hc => ?_)
        · rw [if_pos hc] at h
          exact mw_vret F hI hr hlk h (Nat.le_of_ble_eq_true rfl) (Nat.le_of_ble_eq_true rfl) d_R_walk_71
        · rw [if_neg hc] at h
          refine mt_aload_n F hl 0 rfl rfl d_R_walk_50 ?_
          refine mt_aload_n F hl 1 rfl rfl d_R_walk_51 ?_
          obtain ⟨v2, e_v2, h⟩ := mw_bind h
          refine mw_getR F hK hI (in_2 _) (hc_2) 0 (by decide) (mA k_235) rfl e_v2 d_R_walk_52 ?_
          refine mt_aload_n F hl 0 rfl rfl d_R_walk_55 ?_
          obtain ⟨v3, e_v3, h⟩ := mw_bind h
          refine mw_getR F hK hI (in_3 _) (hc_3) 1 (by decide) (mA k_6) rfl e_v3 d_R_walk_56 ?_
          refine mt_iload_n F hl 2 rfl rfl d_R_walk_59 ?_
          obtain ⟨v4, e_v4, h⟩ := mw_bind h
          refine mw_iald F hK hI (t0 := 0) rfl e_v4 d_R_walk_60 ?_
          obtain ⟨v5, e_v5, h⟩ := mw_bind h
          refine mw_aald F hK hI (t0 := 3) rfl e_v5 d_R_walk_61 ?_
          obtain ⟨b6, e_b6, h⟩ := mw_bind h
          obtain ⟨S7, e_S7, h⟩ := mw_bind h
          refine mw_callv hI (mw_runV F hK hI (c_R_enqueueAll l D dA A _ _ _ _ e_S7) (cwV 1 F.2.2.2.2 (gd_V k_231 k_232 k_233 k_234 k_24) rfl rfl rfl hd_R_enqueueAll ⟨Nat.le_of_ble_eq_true rfl, Nat.le_of_ble_eq_true rfl⟩) (hc_3) e_b6 rfl hl.1 rfl (Nat.zero_le _) d_R_walk_62 ⟨(Nat.le_of_ble_eq_true rfl), (Nat.le_of_ble_eq_true rfl)⟩) (fun H locs hI => ?_)
          refine mt_iinc (v := (x2 + 1)) F hl 2 rfl (by rw [show Int32.ofInt 1 = (1 : Int32) from by decide]) (Nat.le_of_ble_eq_true rfl) rfl d_R_walk_65 (fun ls hl => ?_)
          have hl : mt_L ls 3 [(2, (.inl (x2 + 1))), (0, (.inr (.inr (some b0)))), (1, (.inr (.inr r1)))] := hl
          refine lv_goto (tgt := 36) F.1 F.2.1 d_R_walk_68 (by decide) ?_
          refine W.widen (k := 0) (n := 0) (Nat.le_of_ble_eq_true rfl) (Nat.le_of_ble_eq_true rfl) ?_
          exact ih.2 _ _ _ _ _ _ hI (mt_sub hl [1, 2, 0] rfl) h
set_option maxHeartbeats 4000000 in
set_option maxRecDepth 100000 in
theorem c_R_walk (l : Launch) (D : va_G) (dA : Nat → ClassId) (A : Nat → Prop) (b0 : Nat) (a1 : Option Nat) (S : mc_S) (out : mc_S) (hf : f_R_walk b0 a1 S = some out) : Met l y_R_walk (cd_R_walk :: ALL) rm_R_walk (va_Pc [va_rf (some b0), va_rf a1] (mw_B D dA CL (TY dA) ZZ A S)) (va_Qv (fun (_ : Unit) => True) (fun _ t => mw_R D dA CL A out t) A) 0 0 A := by
  refine mw_ofW (cc := b_R_walk) (maxL := 3) (ret := none) [(.inr (.inr (some b0))), (.inr (.inr a1))] rfl (by decide +kernel) (Nat.le_of_ble_eq_true rfl) (L := [(0, (.inr (.inr (some b0)))), (1, (.inr (.inr a1)))]) rfl (fun p e s m args below meth c F hr hlk hnm hK ls hl hI => ?_)
  have h := hf
  unfold f_R_walk at h
  refine mt_aload_n F hl 0 rfl rfl d_R_walk_0 ?_
  refine lv_iconst (v := 0) F.1 F.2.1 d_R_walk_1 (by decide) ?_
  obtain ⟨S1, e_S1, h⟩ := mw_bind h
  refine mw_put F hK hI (in_3 _) ty_3 ok_3 nm_3 (hc_3) 2 (by decide) (mA k_7) rfl rfl rfl rfl e_S1 d_R_walk_2 (fun H locs hI => ?_)
  refine lv_iconst (v := 0) F.1 F.2.1 d_R_walk_5 (by decide) ?_
  refine mt_istore_n F hl rfl (Nat.le_of_ble_eq_true rfl) rfl d_R_walk_6 (fun ls hl => ?_)
  have hl : mt_L ls 3 [(2, (.inl 0)), (0, (.inr (.inr (some b0)))), (1, (.inr (.inr a1)))] := hl
  refine W.widen (k := 0) (n := 0) (Nat.le_of_ble_eq_true rfl) (Nat.le_of_ble_eq_true rfl) ?_
  exact (s_R_walk l D dA A b0 F hr hlk hnm hK out 5000).1 _ _ _ _ _ _ hI (mt_sub hl [1, 2, 0] rfl) h
abbrev rm_R_dropUnreached : Room := { frames := 3, cells := 0, slots := 0, locals := 67 }
set_option maxHeartbeats 4000000 in
set_option maxRecDepth 100000 in
theorem s_R_dropUnreached (l : Launch) (D : va_G) (dA : Nat → ClassId) (A : Nat → Prop) (b0 : Nat) {p : Program} {e : Env} {s : State} {m : MethodId} {args : Array Value} {below : List Frame} {meth : Method} {c : Code} (F : CallFix p m c b_R_dropUnreached 4 s args (cd_R_dropUnreached :: ALL) y_R_dropUnreached.cls) (hr : meth.sig.returnType = (some .int)) (hlk : meth.locks = false) (hnm : meth.name = y_R_dropUnreached.name) (hK : mw_K D CL (TY dA) ZZ s) (out : (Int32 × mc_S)) : ∀ n : Nat, (∀ (r1 : Option Nat) (x2 : Int32) (x3 : Int32) (S : mc_S) (H : Heap) (locs : List Loc) (ls : Array Slot), mw_I D dA CL A S s.heap H locs → mt_L ls 4 [(0, (.inr (.inr (some b0)))), (1, (.inr (.inr r1))), (2, (.inl x2)), (3, (.inl x3))] → g_R_dropUnreached b0 n r1 x2 x3 S = some out → W p l e rm_R_dropUnreached s m args below meth c H locs (0) (0) (MQ below (va_Qi (fun x (_ : Unit) => x = out.1) (fun _ t => mw_R D dA CL A out.2 t) A) args s 0 0 A) (F0 m 9 ls [])) := by
  intro n
  induction n with
  | zero =>
    intro r1 x2 x3 S H locs ls hI hl h; have h : (none : Option (Int32 × mc_S)) = some out := h; cases h
  | succ k0 ih =>
    intro r1 x2 x3 S H locs ls hI hl h
    have h : q_R_dropUnreached_0 b0 (g_R_dropUnreached b0 k0) r1 x2 x3 S = some out := h
    unfold q_R_dropUnreached_0 at h
    refine mt_iload_n F hl 3 rfl rfl d_R_dropUnreached_9 ?_
    refine lv_bipush (v := 100) F.1 F.2.1 d_R_dropUnreached_10 (by decide) ?_
    refine lv_icmp_ge (tgt := 49) F.1 F.2.1 d_R_dropUnreached_12 (by decide) (fun hc => ?_) (fun hc => ?_)
    · rw [if_pos hc] at h
      refine mt_iload_n F hl 2 rfl rfl d_R_dropUnreached_49 ?_
      exact mw_iret F hI hr hlk h (Nat.le_of_ble_eq_true rfl) (Nat.le_of_ble_eq_true rfl) d_R_dropUnreached_50
    · rw [if_neg hc] at h
      refine mt_aload_n F hl 1 rfl rfl d_R_dropUnreached_15 ?_
      obtain ⟨v1, e_v1, h⟩ := mw_bind h
      refine mw_getR F hK hI (in_2 _) (hc_2) 0 (by decide) (mA k_235) rfl e_v1 d_R_dropUnreached_16 ?_
      refine mt_iload_n F hl 3 rfl rfl d_R_dropUnreached_19 ?_
      obtain ⟨v2, e_v2, h⟩ := mw_bind h
      refine mw_aald F hK hI (t0 := 3) rfl e_v2 d_R_dropUnreached_20 ?_
      refine mw_ifnull (tgt := 43) F d_R_dropUnreached_21 (by decide) (fun hc => ?_) (fun hc => ?_)
      · rw [if_pos hc] at h
        refine mt_iinc (v := (x3 + 1)) F hl 3 rfl (by rw [show Int32.ofInt 1 = (1 : Int32) from by decide]) (Nat.le_of_ble_eq_true rfl) rfl d_R_dropUnreached_43 (fun ls hl => ?_)
        have hl : mt_L ls 4 [(3, (.inl (x3 + 1))), (0, (.inr (.inr (some b0)))), (1, (.inr (.inr r1))), (2, (.inl x2))] := hl
        refine lv_goto (tgt := 9) F.1 F.2.1 d_R_dropUnreached_46 (by decide) ?_
        refine W.widen (k := 0) (n := 0) (Nat.le_of_ble_eq_true rfl) (Nat.le_of_ble_eq_true rfl) ?_
        exact ih _ _ _ _ _ _ _ hI (mt_sub hl [1, 2, 3, 0] rfl) h
      · rw [if_neg hc] at h
        refine mt_aload_n F hl 0 rfl rfl d_R_dropUnreached_24 ?_
        obtain ⟨v3, e_v3, h⟩ := mw_bind h
        refine mw_getR F hK hI (in_3 _) (hc_3) 0 (by decide) (mA k_4) rfl e_v3 d_R_dropUnreached_25 ?_
        refine mt_iload_n F hl 3 rfl rfl d_R_dropUnreached_28 ?_
        obtain ⟨v4, e_v4, h⟩ := mw_bind h
        refine mw_zald F hK hI (t0 := 2) rfl e_v4 d_R_dropUnreached_29 ?_
        refine lv_if_ne (tgt := 43) F.1 F.2.1 d_R_dropUnreached_30 (by decide) (fun hc => ?_) (fun hc => ?_)
        · rw [if_neg hc] at h
          refine mt_iinc (v := (x3 + 1)) F hl 3 rfl (by rw [show Int32.ofInt 1 = (1 : Int32) from by decide]) (Nat.le_of_ble_eq_true rfl) rfl d_R_dropUnreached_43 (fun ls hl => ?_)
          have hl : mt_L ls 4 [(3, (.inl (x3 + 1))), (0, (.inr (.inr (some b0)))), (1, (.inr (.inr r1))), (2, (.inl x2))] := hl
          refine lv_goto (tgt := 9) F.1 F.2.1 d_R_dropUnreached_46 (by decide) ?_
          refine W.widen (k := 0) (n := 0) (Nat.le_of_ble_eq_true rfl) (Nat.le_of_ble_eq_true rfl) ?_
          exact ih _ _ _ _ _ _ _ hI (mt_sub hl [1, 2, 3, 0] rfl) h
        · rw [if_pos hc] at h
          refine mt_aload_n F hl 1 rfl rfl d_R_dropUnreached_33 ?_
          obtain ⟨v5, e_v5, h⟩ := mw_bind h
          refine mw_getR F hK hI (in_2 _) (hc_2) 0 (by decide) (mA k_235) rfl e_v5 d_R_dropUnreached_34 ?_
          refine mt_iload_n F hl 3 rfl rfl d_R_dropUnreached_37 ?_
          refine mw_null F d_R_dropUnreached_38 ?_
          obtain ⟨S6, e_S6, h⟩ := mw_bind h
          refine mw_aast F hK hI (t0 := 3) (ci := 1) (q0 := cq_1) rfl rfl e_S6 d_R_dropUnreached_39 (fun H locs hI => ?_)
          refine mt_iinc (v := (x2 + 1)) F hl 2 rfl (by rw [show Int32.ofInt 1 = (1 : Int32) from by decide]) (Nat.le_of_ble_eq_true rfl) rfl d_R_dropUnreached_40 (fun ls hl => ?_)
          have hl : mt_L ls 4 [(2, (.inl (x2 + 1))), (0, (.inr (.inr (some b0)))), (1, (.inr (.inr r1))), (3, (.inl x3))] := hl
          refine mt_iinc (v := (x3 + 1)) F hl 3 rfl (by rw [show Int32.ofInt 1 = (1 : Int32) from by decide]) (Nat.le_of_ble_eq_true rfl) rfl d_R_dropUnreached_43 (fun ls hl => ?_)
          have hl : mt_L ls 4 [(3, (.inl (x3 + 1))), (2, (.inl (x2 + 1))), (0, (.inr (.inr (some b0)))), (1, (.inr (.inr r1)))] := hl
          refine lv_goto (tgt := 9) F.1 F.2.1 d_R_dropUnreached_46 (by decide) ?_
          refine W.widen (k := 0) (n := 0) (Nat.le_of_ble_eq_true rfl) (Nat.le_of_ble_eq_true rfl) ?_
          exact ih _ _ _ _ _ _ _ hI (mt_sub hl [2, 3, 1, 0] rfl) h
set_option maxHeartbeats 4000000 in
set_option maxRecDepth 100000 in
theorem c_R_dropUnreached (l : Launch) (D : va_G) (dA : Nat → ClassId) (A : Nat → Prop) (b0 : Nat) (a1 : Option Nat) (S : mc_S) (out : (Int32 × mc_S)) (hf : f_R_dropUnreached b0 a1 S = some out) : Met l y_R_dropUnreached (cd_R_dropUnreached :: ALL) rm_R_dropUnreached (va_Pc [va_rf (some b0), va_rf a1] (mw_B D dA CL (TY dA) ZZ A S)) (va_Qi (fun x (_ : Unit) => x = out.1) (fun _ t => mw_R D dA CL A out.2 t) A) 0 0 A := by
  refine mw_ofW (cc := b_R_dropUnreached) (maxL := 4) (ret := (some .int)) [(.inr (.inr (some b0))), (.inr (.inr a1))] rfl (by decide +kernel) (Nat.le_of_ble_eq_true rfl) (L := [(0, (.inr (.inr (some b0)))), (1, (.inr (.inr a1)))]) rfl (fun p e s m args below meth c F hr hlk hnm hK ls hl hI => ?_)
  have h := hf
  unfold f_R_dropUnreached at h
  refine mt_aload_n F hl 0 rfl rfl d_R_dropUnreached_0 ?_
  refine mt_aload_n F hl 1 rfl rfl d_R_dropUnreached_1 ?_
  obtain ⟨b1, e_b1, h⟩ := mw_bind h
  obtain ⟨S2, e_S2, h⟩ := mw_bind h
  refine mw_callv hI (mw_runV F hK hI (c_R_walk l D dA A _ _ _ _ e_S2) (cwV 1 F.2.2.2.2 (gd_V k_236 k_237 k_238 k_239 k_24) rfl rfl rfl hd_R_walk ⟨Nat.le_of_ble_eq_true rfl, Nat.le_of_ble_eq_true rfl⟩) (hc_3) e_b1 rfl hl.1 rfl (Nat.zero_le _) d_R_dropUnreached_2 ⟨(Nat.le_of_ble_eq_true rfl), (Nat.le_of_ble_eq_true rfl)⟩) (fun H locs hI => ?_)
  refine lv_iconst (v := 0) F.1 F.2.1 d_R_dropUnreached_5 (by decide) ?_
  refine mt_istore_n F hl rfl (Nat.le_of_ble_eq_true rfl) rfl d_R_dropUnreached_6 (fun ls hl => ?_)
  have hl : mt_L ls 4 [(2, (.inl 0)), (0, (.inr (.inr (some b0)))), (1, (.inr (.inr a1)))] := hl
  refine lv_iconst (v := 0) F.1 F.2.1 d_R_dropUnreached_7 (by decide) ?_
  refine mt_istore_n F hl rfl (Nat.le_of_ble_eq_true rfl) rfl d_R_dropUnreached_8 (fun ls hl => ?_)
  have hl : mt_L ls 4 [(3, (.inl 0)), (2, (.inl 0)), (0, (.inr (.inr (some b0)))), (1, (.inr (.inr a1)))] := hl
  refine W.widen (k := 0) (n := 0) (Nat.le_of_ble_eq_true rfl) (Nat.le_of_ble_eq_true rfl) ?_
  exact (s_R_dropUnreached l D dA A b0 F hr hlk hnm hK out 5000) _ _ _ _ _ _ _ hI (mt_sub hl [2, 3, 1, 0] rfl) h
abbrev rm_K_sweep : Room := { frames := 4, cells := 0, slots := 0, locals := 90 }
set_option maxHeartbeats 4000000 in
set_option maxRecDepth 100000 in
theorem c_K_sweep (l : Launch) (D : va_G) (dA : Nat → ClassId) (A : Nat → Prop) (b0 : Nat) (S : mc_S) (out : (Int32 × mc_S)) (hf : f_K_sweep b0 S = some out) : Met l y_K_sweep (cd_K_sweep :: ALL) rm_K_sweep (va_Pc [va_rf (some b0)] (mw_B D dA CL (TY dA) ZZ A S)) (va_Qi (fun x (_ : Unit) => x = out.1) (fun _ t => mw_R D dA CL A out.2 t) A) 0 0 A := by
  refine mw_ofW (cc := b_K_sweep) (maxL := 2) (ret := (some .int)) [(.inr (.inr (some b0)))] rfl (by decide +kernel) (Nat.le_of_ble_eq_true rfl) (L := [(0, (.inr (.inr (some b0))))]) rfl (fun p e s m args below meth c F hr hlk hnm hK ls hl hI => ?_)
  have h := hf
  unfold f_K_sweep at h
  refine mt_aload_n F hl 0 rfl rfl d_K_sweep_0 ?_
  obtain ⟨v1, e_v1, h⟩ := mw_bind h
  refine mw_getR F hK hI (in_0 _) (hc_0) 0 (by decide) (mA k_42) rfl e_v1 d_K_sweep_1 ?_
  refine mt_aload_n F hl 0 rfl rfl d_K_sweep_4 ?_
  obtain ⟨b2, e_b2, h⟩ := mw_bind h
  obtain ⟨o3, e_o3, h⟩ := mw_bind h
  refine mw_callq hI (mw_runV F hK hI (c_K_kept l D dA A _ _ _ e_o3) (cwV 0 F.2.2.2.2 (gd_V k_89 k_90 k_91 k_92 k_78) rfl rfl rfl hd_K_kept ⟨Nat.le_of_ble_eq_true rfl, Nat.le_of_ble_eq_true rfl⟩) (hc_0) e_b2 rfl hl.1 rfl (by simp [mw_cat, mw_cI, mw_cL]) d_K_sweep_5 ⟨(Nat.le_of_ble_eq_true rfl), (Nat.le_of_ble_eq_true rfl)⟩) (fun H locs hI => ?_)
  obtain ⟨b4, e_b4, h⟩ := mw_bind h
  obtain ⟨S5, e_S5, h⟩ := mw_bind h
  refine mw_callv hI (mw_runV F hK hI (c_T_become l D dA A _ _ _ _ e_S5) (cwV 1 F.2.2.2.2 (gd_V k_189 k_190 k_191 k_192 k_38) rfl rfl rfl hd_T_become ⟨Nat.le_of_ble_eq_true rfl, Nat.le_of_ble_eq_true rfl⟩) (hc_2) e_b4 rfl hl.1 rfl (Nat.zero_le _) d_K_sweep_8 ⟨(Nat.le_of_ble_eq_true rfl), (Nat.le_of_ble_eq_true rfl)⟩) (fun H locs hI => ?_)
  refine mt_aload_n F hl 0 rfl rfl d_K_sweep_11 ?_
  obtain ⟨v6, e_v6, h⟩ := mw_bind h
  refine mw_getR F hK hI (in_0 _) (hc_0) 3 (by decide) (mA k_27) rfl e_v6 d_K_sweep_12 ?_
  refine mt_aload_n F hl 0 rfl rfl d_K_sweep_15 ?_
  obtain ⟨v7, e_v7, h⟩ := mw_bind h
  refine mw_getR F hK hI (in_0 _) (hc_0) 0 (by decide) (mA k_42) rfl e_v7 d_K_sweep_16 ?_
  obtain ⟨b8, e_b8, h⟩ := mw_bind h
  obtain ⟨o9, e_o9, h⟩ := mw_bind h
  refine mw_calli hI (mw_runV F hK hI (c_R_dropUnreached l D dA A _ _ _ _ e_o9) (cwV 1 F.2.2.2.2 (gd_V k_240 k_241 k_242 k_243 k_24) rfl rfl rfl hd_R_dropUnreached ⟨Nat.le_of_ble_eq_true rfl, Nat.le_of_ble_eq_true rfl⟩) (hc_3) e_b8 rfl hl.1 rfl (Nat.zero_le _) d_K_sweep_19 ⟨(Nat.le_of_ble_eq_true rfl), (Nat.le_of_ble_eq_true rfl)⟩) (fun H locs hI => ?_)
  refine mt_istore_n F hl rfl (Nat.le_of_ble_eq_true rfl) rfl d_K_sweep_22 (fun ls hl => ?_)
  have hl : mt_L ls 2 [(1, (.inl o9.1)), (0, (.inr (.inr (some b0))))] := hl
  refine mt_iload_n F hl 0 rfl rfl d_K_sweep_23 ?_
  refine lv_if_le (tgt := 33) F.1 F.2.1 d_K_sweep_24 (by decide) (fun hc => ?_) (fun hc => ?_)
  · rw [if_pos hc] at h
    refine mt_iload_n F hl 0 rfl rfl d_K_sweep_33 ?_
    exact mw_iret F hI hr hlk h (Nat.le_of_ble_eq_true rfl) (Nat.le_of_ble_eq_true rfl) d_K_sweep_34
  · rw [if_neg hc] at h
    refine mt_aload_n F hl 1 rfl rfl d_K_sweep_27 ?_
    refine lv_bipush (v := 8) F.1 F.2.1 d_K_sweep_28 (by decide) ?_
    obtain ⟨b10, e_b10, h⟩ := mw_bind h
    obtain ⟨S11, e_S11, h⟩ := mw_bind h
    refine mw_callv hI (mw_runV F hK hI (c_K_keepNow l D dA A _ _ _ _ e_S11) (cwV 1 F.2.2.2.2 (gd_V k_197 k_198 k_199 k_200 k_78) rfl rfl rfl hd_K_keepNow ⟨Nat.le_of_ble_eq_true rfl, Nat.le_of_ble_eq_true rfl⟩) (hc_0) e_b10 rfl hl.1 rfl (Nat.zero_le _) d_K_sweep_30 ⟨(Nat.le_of_ble_eq_true rfl), (Nat.le_of_ble_eq_true rfl)⟩) (fun H locs hI => ?_)
    refine mt_iload_n F hl 0 rfl rfl d_K_sweep_33 ?_
    exact mw_iret F hI hr hlk h (Nat.le_of_ble_eq_true rfl) (Nat.le_of_ble_eq_true rfl) d_K_sweep_34
abbrev rm_M_reach : Room := { frames := 0, cells := 0, slots := 0, locals := 0 }
set_option maxHeartbeats 4000000 in
set_option maxRecDepth 100000 in
theorem c_M_reach (l : Launch) (D : va_G) (dA : Nat → ClassId) (A : Nat → Prop) (b0 : Nat) (a1 : Int64) (a2 : Int32) (S : mc_S) (out : (Int32 × mc_S)) (hf : f_M_reach b0 a1 a2 S = some out) : Met l y_M_reach (cd_M_reach :: ALL) rm_M_reach (va_Pc [va_rf (some b0), .long a1, .int a2] (mw_B D dA CL (TY dA) ZZ A S)) (va_Qi (fun x (_ : Unit) => x = out.1) (fun _ t => mw_R D dA CL A out.2 t) A) 0 0 A := by
  refine mw_ofW (cc := b_M_reach) (maxL := 4) (ret := (some .int)) [(.inr (.inr (some b0))), (.inr (.inl a1)), (.inl a2)] rfl (by decide +kernel) (Nat.le_of_ble_eq_true rfl) (L := [(0, (.inr (.inr (some b0)))), (1, (.inr (.inl a1))), (3, (.inl a2))]) rfl (fun p e s m args below meth c F hr hlk hnm hK ls hl hI => ?_)
  have h := hf
  unfold f_M_reach at h
  refine mt_lload_n F hl 1 rfl rfl d_M_reach_0 ?_
  refine lv_ldc2 (v := 1099511627776) F.1 F.2.1 F.2.2.2.1 (F.2.2.2.2 _ (mA k_136)) d_M_reach_1 ?_
  refine W.lcmp F.1 F.2.1 d_M_reach_4 ?_
  refine lv_if_le (tgt := 24) F.1 F.2.1 d_M_reach_5 (by decide) (fun hc => ?_) (fun hc => ?_)
  · rw [if_pos hc] at h
    refine mt_iload_n F hl 2 rfl rfl d_M_reach_24 ?_
    exact mw_iret F hI hr hlk h (Nat.le_of_ble_eq_true rfl) (Nat.le_of_ble_eq_true rfl) d_M_reach_25
  · rw [if_neg hc] at h
    refine mt_aload_n F hl 0 rfl rfl d_M_reach_8 ?_
    obtain ⟨v1, e_v1, h⟩ := mw_bind h
    refine mw_getR F hK hI (in_4 _) (hc_4) 6 (by decide) (mA k_60) rfl e_v1 d_M_reach_9 ?_
    refine mt_lload_n F hl 1 rfl rfl d_M_reach_12 ?_
    refine lv_ldc2 (v := 1099511627776) F.1 F.2.1 F.2.2.2.1 (F.2.2.2.2 _ (mA k_136)) d_M_reach_13 ?_
    refine lv_lsub F.1 F.2.1 d_M_reach_16 ?_
    refine lv_lconst (v := 1) F.1 F.2.1 d_M_reach_17 (by decide) ?_
    refine lv_lsub F.1 F.2.1 d_M_reach_18 ?_
    refine lv_l2i F.1 F.2.1 d_M_reach_19 rfl ?_
    obtain ⟨v2, e_v2, h⟩ := mw_bind h
    refine mw_zald F hK hI (t0 := 2) rfl e_v2 d_M_reach_20 ?_
    refine lv_if_eq (tgt := 26) F.1 F.2.1 d_M_reach_21 (by decide) (fun hc => ?_) (fun hc => ?_)
    · rw [if_pos hc] at h
      refine mt_aload_n F hl 0 rfl rfl d_M_reach_26 ?_
      obtain ⟨v3, e_v3, h⟩ := mw_bind h
      refine mw_getR F hK hI (in_4 _) (hc_4) 6 (by decide) (mA k_60) rfl e_v3 d_M_reach_27 ?_
      refine mt_lload_n F hl 1 rfl rfl d_M_reach_30 ?_
      refine lv_ldc2 (v := 1099511627776) F.1 F.2.1 F.2.2.2.1 (F.2.2.2.2 _ (mA k_136)) d_M_reach_31 ?_
      refine lv_lsub F.1 F.2.1 d_M_reach_34 ?_
      refine lv_lconst (v := 1) F.1 F.2.1 d_M_reach_35 (by decide) ?_
      refine lv_lsub F.1 F.2.1 d_M_reach_36 ?_
      refine lv_l2i F.1 F.2.1 d_M_reach_37 rfl ?_
      refine lv_iconst (v := 1) F.1 F.2.1 d_M_reach_38 (by decide) ?_
      obtain ⟨S4, e_S4, h⟩ := mw_bind h
      refine mw_zast F hK hI (t0 := 2) rfl rfl e_S4 d_M_reach_39 (fun H locs hI => ?_)
      refine mt_aload_n F hl 0 rfl rfl d_M_reach_40 ?_
      obtain ⟨v5, e_v5, h⟩ := mw_bind h
      refine mw_getR F hK hI (in_4 _) (hc_4) 7 (by decide) (mA k_61) rfl e_v5 d_M_reach_41 ?_
      refine mt_iload_n F hl 2 rfl rfl d_M_reach_44 ?_
      refine mt_lload_n F hl 1 rfl rfl d_M_reach_45 ?_
      refine lv_ldc2 (v := 1099511627776) F.1 F.2.1 F.2.2.2.1 (F.2.2.2.2 _ (mA k_136)) d_M_reach_46 ?_
      refine lv_lsub F.1 F.2.1 d_M_reach_49 ?_
      refine lv_lconst (v := 1) F.1 F.2.1 d_M_reach_50 (by decide) ?_
      refine lv_lsub F.1 F.2.1 d_M_reach_51 ?_
      refine lv_l2i F.1 F.2.1 d_M_reach_52 rfl ?_
      obtain ⟨S6, e_S6, h⟩ := mw_bind h
      refine mw_iast F hK hI (t0 := 0) rfl e_S6 d_M_reach_53 (fun H locs hI => ?_)
      refine mt_iload_n F hl 2 rfl rfl d_M_reach_54 ?_
      refine lv_iconst (v := 1) F.1 F.2.1 d_M_reach_55 (by decide) ?_
      refine lv_iadd F.1 F.2.1 d_M_reach_56 ?_
      exact mw_iret F hI hr hlk h (Nat.le_of_ble_eq_true rfl) (Nat.le_of_ble_eq_true rfl) d_M_reach_57
    · rw [if_neg hc] at h
      refine mt_iload_n F hl 2 rfl rfl d_M_reach_24 ?_
      exact mw_iret F hI hr hlk h (Nat.le_of_ble_eq_true rfl) (Nat.le_of_ble_eq_true rfl) d_M_reach_25
abbrev rm_M_sweep : Room := { frames := 3, cells := 0, slots := 0, locals := 62 }
set_option maxHeartbeats 4000000 in
set_option maxRecDepth 100000 in
theorem s_M_sweep (l : Launch) (D : va_G) (dA : Nat → ClassId) (A : Nat → Prop) (b0 : Nat) {p : Program} {e : Env} {s : State} {m : MethodId} {args : Array Value} {below : List Frame} {meth : Method} {c : Code} (F : CallFix p m c b_M_sweep 7 s args (cd_M_sweep :: ALL) y_M_sweep.cls) (hr : meth.sig.returnType = (some .int)) (hlk : meth.locks = false) (hnm : meth.name = y_M_sweep.name) (hK : mw_K D CL (TY dA) ZZ s) (out : (Int32 × mc_S)) : ∀ n : Nat, (∀ (r1 : Option Nat) (r2 : Option Nat) (x3 : Int32) (x4 : Int32) (x5 : Int32) (x6 : Int32) (S : mc_S) (H : Heap) (locs : List Loc) (ls : Array Slot), mw_I D dA CL A S s.heap H locs → mt_L ls 7 [(0, (.inr (.inr (some b0)))), (1, (.inr (.inr r1))), (2, (.inr (.inr r2))), (3, (.inl x3)), (4, (.inl x4)), (5, (.inl x5))] → g_M_sweep b0 n 0 r1 r2 x3 x4 x5 x6 S = some out → W p l e rm_M_sweep s m args below meth c H locs (0) (0) (MQ below (va_Qi (fun x (_ : Unit) => x = out.1) (fun _ t => mw_R D dA CL A out.2 t) A) args s 0 0 A) (F0 m 29 ls [])) ∧ (∀ (r1 : Option Nat) (r2 : Option Nat) (x3 : Int32) (x4 : Int32) (x5 : Int32) (x6 : Int32) (S : mc_S) (H : Heap) (locs : List Loc) (ls : Array Slot), mw_I D dA CL A S s.heap H locs → mt_L ls 7 [(0, (.inr (.inr (some b0)))), (1, (.inr (.inr r1))), (2, (.inr (.inr r2))), (3, (.inl x3)), (4, (.inl x4)), (5, (.inl x5))] → g_M_sweep b0 n 1 r1 r2 x3 x4 x5 x6 S = some out → W p l e rm_M_sweep s m args below meth c H locs (0) (0) (MQ below (va_Qi (fun x (_ : Unit) => x = out.1) (fun _ t => mw_R D dA CL A out.2 t) A) args s 0 0 A) (F0 m 50 ls [])) ∧ (∀ (r1 : Option Nat) (r2 : Option Nat) (x3 : Int32) (x4 : Int32) (x5 : Int32) (x6 : Int32) (S : mc_S) (H : Heap) (locs : List Loc) (ls : Array Slot), mw_I D dA CL A S s.heap H locs → mt_L ls 7 [(0, (.inr (.inr (some b0)))), (1, (.inr (.inr r1))), (2, (.inr (.inr r2))), (3, (.inl x3)), (4, (.inl x4)), (5, (.inl x5))] → g_M_sweep b0 n 2 r1 r2 x3 x4 x5 x6 S = some out → W p l e rm_M_sweep s m args below meth c H locs (0) (0) (MQ below (va_Qi (fun x (_ : Unit) => x = out.1) (fun _ t => mw_R D dA CL A out.2 t) A) args s 0 0 A) (F0 m 87 ls [])) ∧ (∀ (r1 : Option Nat) (r2 : Option Nat) (x3 : Int32) (x4 : Int32) (x5 : Int32) (x6 : Int32) (S : mc_S) (H : Heap) (locs : List Loc) (ls : Array Slot), mw_I D dA CL A S s.heap H locs → mt_L ls 7 [(0, (.inr (.inr (some b0)))), (1, (.inr (.inr r1))), (2, (.inr (.inr r2))), (3, (.inl x3)), (4, (.inl x4)), (5, (.inl x5)), (6, (.inl x6))] → g_M_sweep b0 n 3 r1 r2 x3 x4 x5 x6 S = some out → W p l e rm_M_sweep s m args below meth c H locs (0) (0) (MQ below (va_Qi (fun x (_ : Unit) => x = out.1) (fun _ t => mw_R D dA CL A out.2 t) A) args s 0 0 A) (F0 m 96 ls [])) ∧ (∀ (r1 : Option Nat) (r2 : Option Nat) (x3 : Int32) (x4 : Int32) (x5 : Int32) (x6 : Int32) (S : mc_S) (H : Heap) (locs : List Loc) (ls : Array Slot), mw_I D dA CL A S s.heap H locs → mt_L ls 7 [(0, (.inr (.inr (some b0)))), (1, (.inr (.inr r1))), (2, (.inr (.inr r2))), (3, (.inl x3)), (4, (.inl x4)), (5, (.inl x5))] → g_M_sweep b0 n 4 r1 r2 x3 x4 x5 x6 S = some out → W p l e rm_M_sweep s m args below meth c H locs (0) (0) (MQ below (va_Qi (fun x (_ : Unit) => x = out.1) (fun _ t => mw_R D dA CL A out.2 t) A) args s 0 0 A) (F0 m 152 ls [])) := by
  intro n
  induction n with
  | zero =>
    refine ⟨?_, ?_, ?_, ?_, ?_⟩
    · intro r1 r2 x3 x4 x5 x6 S H locs ls hI hl h; have h : (none : Option (Int32 × mc_S)) = some out := h; cases h
    · intro r1 r2 x3 x4 x5 x6 S H locs ls hI hl h; have h : (none : Option (Int32 × mc_S)) = some out := h; cases h
    · intro r1 r2 x3 x4 x5 x6 S H locs ls hI hl h; have h : (none : Option (Int32 × mc_S)) = some out := h; cases h
    · intro r1 r2 x3 x4 x5 x6 S H locs ls hI hl h; have h : (none : Option (Int32 × mc_S)) = some out := h; cases h
    · intro r1 r2 x3 x4 x5 x6 S H locs ls hI hl h; have h : (none : Option (Int32 × mc_S)) = some out := h; cases h
  | succ k0 ih =>
    refine ⟨?_, ?_, ?_, ?_, ?_⟩
    · intro r1 r2 x3 x4 x5 x6 S H locs ls hI hl h
      have h : q_M_sweep_0 b0 (g_M_sweep b0 k0) r1 r2 x3 x4 x5 x6 S = some out := h
      unfold q_M_sweep_0 at h
      refine mt_iload F hl 5 rfl d_M_sweep_29 ?_
      refine lv_bipush (v := 100) F.1 F.2.1 d_M_sweep_31 (by decide) ?_
      refine lv_icmp_ge (tgt := 47) F.1 F.2.1 d_M_sweep_33 (by decide) (fun hc => ?_) (fun hc => ?_)
      · rw [if_pos hc] at h
        refine lv_iconst (v := 0) F.1 F.2.1 d_M_sweep_47 (by decide) ?_
        refine mt_istore F hl (Nat.le_of_ble_eq_true rfl) rfl d_M_sweep_48 (fun ls hl => ?_)
        have hl : mt_L ls 7 [(5, (.inl 0)), (0, (.inr (.inr (some b0)))), (1, (.inr (.inr r1))), (2, (.inr (.inr r2))), (3, (.inl x3)), (4, (.inl x4))] := hl
        refine W.widen (k := 0) (n := 0) (Nat.le_of_ble_eq_true rfl) (Nat.le_of_ble_eq_true rfl) ?_
        exact ih.2.1 _ _ _ _ _ _ _ _ _ _ hI (mt_sub hl [1, 2, 3, 4, 5, 0] rfl) h
      · rw [if_neg hc] at h
        refine mt_aload_n F hl 1 rfl rfl d_M_sweep_36 ?_
        refine mt_iload F hl 5 rfl d_M_sweep_37 ?_
        refine lv_iconst (v := 0) F.1 F.2.1 d_M_sweep_39 (by decide) ?_
        obtain ⟨S1, e_S1, h⟩ := mw_bind h
        refine mw_zast F hK hI (t0 := 2) rfl rfl e_S1 d_M_sweep_40 (fun H locs hI => ?_)
        refine mt_iinc (v := (x5 + 1)) F hl 5 rfl (by rw [show Int32.ofInt 1 = (1 : Int32) from by decide]) (Nat.le_of_ble_eq_true rfl) rfl d_M_sweep_41 (fun ls hl => ?_)
        have hl : mt_L ls 7 [(5, (.inl (x5 + 1))), (0, (.inr (.inr (some b0)))), (1, (.inr (.inr r1))), (2, (.inr (.inr r2))), (3, (.inl x3)), (4, (.inl x4))] := hl
        refine lv_goto (tgt := 29) F.1 F.2.1 d_M_sweep_44 (by decide) ?_
        refine W.widen (k := 0) (n := 0) (Nat.le_of_ble_eq_true rfl) (Nat.le_of_ble_eq_true rfl) ?_
        exact ih.1 _ _ _ _ _ _ _ _ _ _ hI (mt_sub hl [1, 2, 3, 4, 5, 0] rfl) h
    · intro r1 r2 x3 x4 x5 x6 S H locs ls hI hl h
      have h : q_M_sweep_1 b0 (g_M_sweep b0 k0) r1 r2 x3 x4 x5 x6 S = some out := h
      unfold q_M_sweep_1 at h
      refine mt_iload F hl 5 rfl d_M_sweep_50 ?_
      refine mt_aload_n F hl 0 rfl rfl d_M_sweep_52 ?_
      obtain ⟨v1, e_v1, h⟩ := mw_bind h
      refine mw_getR F hK hI (in_4 _) (hc_4) 0 (by decide) (mA k_56) rfl e_v1 d_M_sweep_53 ?_
      obtain ⟨v2, e_v2, h⟩ := mw_bind h
      refine mw_getI F hK hI (in_5 _) (hc_5) 6 (by decide) (mA k_178) rfl e_v2 d_M_sweep_56 ?_
      refine lv_icmp_ge (tgt := 84) F.1 F.2.1 d_M_sweep_59 (by decide) (fun hc => ?_) (fun hc => ?_)
      · rw [if_pos hc] at h
        refine lv_iconst (v := 0) F.1 F.2.1 d_M_sweep_84 (by decide) ?_
        refine mt_istore F hl (Nat.le_of_ble_eq_true rfl) rfl d_M_sweep_85 (fun ls hl => ?_)
        have hl : mt_L ls 7 [(5, (.inl 0)), (0, (.inr (.inr (some b0)))), (1, (.inr (.inr r1))), (2, (.inr (.inr r2))), (3, (.inl x3)), (4, (.inl x4))] := hl
        refine W.widen (k := 0) (n := 0) (Nat.le_of_ble_eq_true rfl) (Nat.le_of_ble_eq_true rfl) ?_
        exact ih.2.2.1 _ _ _ _ _ _ _ _ _ _ hI (mt_sub hl [1, 2, 3, 4, 5, 0] rfl) h
      · rw [if_neg hc] at h
        refine mt_aload_n F hl 0 rfl rfl d_M_sweep_62 ?_
        refine mt_aload_n F hl 0 rfl rfl d_M_sweep_63 ?_
        obtain ⟨v3, e_v3, h⟩ := mw_bind h
        refine mw_getR F hK hI (in_4 _) (hc_4) 0 (by decide) (mA k_56) rfl e_v3 d_M_sweep_64 ?_
        obtain ⟨v4, e_v4, h⟩ := mw_bind h
        refine mw_getR F hK hI (in_5 _) (hc_5) 5 (by decide) (mA k_177) rfl e_v4 d_M_sweep_67 ?_
        refine mt_iload F hl 5 rfl d_M_sweep_70 ?_
        obtain ⟨v5, e_v5, h⟩ := mw_bind h
        refine mw_lald F hK hI (t0 := 1) rfl e_v5 d_M_sweep_72 ?_
        refine mt_iload_n F hl 3 rfl rfl d_M_sweep_73 ?_
        obtain ⟨b6, e_b6, h⟩ := mw_bind h
        obtain ⟨o7, e_o7, h⟩ := mw_bind h
        refine mw_calli hI (mw_runV F hK hI (c_M_reach l D dA A _ _ _ _ _ e_o7) (cwV 2 F.2.2.2.2 (gd_V k_244 k_245 k_246 k_247 k_130) rfl rfl rfl hd_M_reach ⟨Nat.le_of_ble_eq_true rfl, Nat.le_of_ble_eq_true rfl⟩) (hc_4) e_b6 rfl hl.1 rfl (Nat.zero_le _) d_M_sweep_74 ⟨(Nat.le_of_ble_eq_true rfl), (Nat.le_of_ble_eq_true rfl)⟩) (fun H locs hI => ?_)
        refine mt_istore_n F hl rfl (Nat.le_of_ble_eq_true rfl) rfl d_M_sweep_77 (fun ls hl => ?_)
        have hl : mt_L ls 7 [(3, (.inl o7.1)), (0, (.inr (.inr (some b0)))), (1, (.inr (.inr r1))), (2, (.inr (.inr r2))), (4, (.inl x4)), (5, (.inl x5))] := hl
        refine mt_iinc (v := (x5 + 1)) F hl 5 rfl (by rw [show Int32.ofInt 1 = (1 : Int32) from by decide]) (Nat.le_of_ble_eq_true rfl) rfl d_M_sweep_78 (fun ls hl => ?_)
        have hl : mt_L ls 7 [(5, (.inl (x5 + 1))), (3, (.inl o7.1)), (0, (.inr (.inr (some b0)))), (1, (.inr (.inr r1))), (2, (.inr (.inr r2))), (4, (.inl x4))] := hl
        refine lv_goto (tgt := 50) F.1 F.2.1 d_M_sweep_81 (by decide) ?_
        refine W.widen (k := 0) (n := 0) (Nat.le_of_ble_eq_true rfl) (Nat.le_of_ble_eq_true rfl) ?_
        exact ih.2.1 _ _ _ _ _ _ _ _ _ _ hI (mt_sub hl [2, 3, 4, 1, 5, 0] rfl) h
    · intro r1 r2 x3 x4 x5 x6 S H locs ls hI hl h
      have h : q_M_sweep_2 b0 (g_M_sweep b0 k0) r1 r2 x3 x4 x5 x6 S = some out := h
      unfold q_M_sweep_2 at h
      refine mt_iload F hl 5 rfl d_M_sweep_87 ?_
      refine mt_iload_n F hl 3 rfl rfl d_M_sweep_89 ?_
      refine lv_icmp_ge (tgt := 149) F.1 F.2.1 d_M_sweep_90 (by decide) (fun hc => ?_) (fun hc => ?_)
      · rw [if_pos hc] at h
        refine lv_iconst (v := 0) F.1 F.2.1 d_M_sweep_149 (by decide) ?_
        refine mt_istore F hl (Nat.le_of_ble_eq_true rfl) rfl d_M_sweep_150 (fun ls hl => ?_)
        have hl : mt_L ls 7 [(5, (.inl 0)), (0, (.inr (.inr (some b0)))), (1, (.inr (.inr r1))), (2, (.inr (.inr r2))), (3, (.inl x3)), (4, (.inl x4))] := hl
        refine W.widen (k := 0) (n := 0) (Nat.le_of_ble_eq_true rfl) (Nat.le_of_ble_eq_true rfl) ?_
        exact ih.2.2.2.2 _ _ _ _ _ _ _ _ _ _ hI (mt_sub hl [1, 2, 3, 4, 5, 0] rfl) h
      · rw [if_neg hc] at h
        refine lv_iconst (v := 0) F.1 F.2.1 d_M_sweep_93 (by decide) ?_
        refine mt_istore F hl (Nat.le_of_ble_eq_true rfl) rfl d_M_sweep_94 (fun ls hl => ?_)
        have hl : mt_L ls 7 [(6, (.inl 0)), (0, (.inr (.inr (some b0)))), (1, (.inr (.inr r1))), (2, (.inr (.inr r2))), (3, (.inl x3)), (4, (.inl x4)), (5, (.inl x5))] := hl
        refine W.widen (k := 0) (n := 0) (Nat.le_of_ble_eq_true rfl) (Nat.le_of_ble_eq_true rfl) ?_
        exact ih.2.2.2.1 _ _ _ _ _ _ _ _ _ _ hI (mt_sub hl [1, 2, 3, 4, 5, 6, 0] rfl) h
    · intro r1 r2 x3 x4 x5 x6 S H locs ls hI hl h
      have h : q_M_sweep_3 b0 (g_M_sweep b0 k0) r1 r2 x3 x4 x5 x6 S = some out := h
      unfold q_M_sweep_3 at h
      refine mt_iload F hl 6 rfl d_M_sweep_96 ?_
      refine mt_aload_n F hl 0 rfl rfl d_M_sweep_98 ?_
      obtain ⟨v1, e_v1, h⟩ := mw_bind h
      refine mw_getR F hK hI (in_4 _) (hc_4) 0 (by decide) (mA k_56) rfl e_v1 d_M_sweep_99 ?_
      obtain ⟨v2, e_v2, h⟩ := mw_bind h
      refine mw_getR F hK hI (in_5 _) (hc_5) 1 (by decide) (mA k_64) rfl e_v2 d_M_sweep_102 ?_
      refine mt_aload_n F hl 2 rfl rfl d_M_sweep_105 ?_
      refine mt_iload F hl 5 rfl d_M_sweep_106 ?_
      obtain ⟨v3, e_v3, h⟩ := mw_bind h
      refine mw_iald F hK hI (t0 := 0) rfl e_v3 d_M_sweep_108 ?_
      obtain ⟨v4, e_v4, h⟩ := mw_bind h
      refine mw_iald F hK hI (t0 := 0) rfl e_v4 d_M_sweep_109 ?_
      refine lv_icmp_ge (tgt := 143) F.1 F.2.1 d_M_sweep_110 (by decide) (fun hc => ?_) (fun hc => ?_)
      · rw [if_pos hc] at h
        refine mt_iinc (v := (x5 + 1)) F hl 5 rfl (by rw [show Int32.ofInt 1 = (1 : Int32) from by decide]) (Nat.le_of_ble_eq_true rfl) rfl d_M_sweep_143 (fun ls hl => ?_)
        have hl : mt_L ls 7 [(5, (.inl (x5 + 1))), (0, (.inr (.inr (some b0)))), (1, (.inr (.inr r1))), (2, (.inr (.inr r2))), (3, (.inl x3)), (4, (.inl x4)), (6, (.inl x6))] := hl
        refine lv_goto (tgt := 87) F.1 F.2.1 d_M_sweep_146 (by decide) ?_
        refine W.widen (k := 0) (n := 0) (Nat.le_of_ble_eq_true rfl) (Nat.le_of_ble_eq_true rfl) ?_
        exact ih.2.2.1 _ _ _ _ _ _ _ _ _ _ hI (mt_sub hl [1, 2, 3, 4, 5, 0] rfl) h
      · rw [if_neg hc] at h
        refine mt_aload_n F hl 0 rfl rfl d_M_sweep_113 ?_
        refine mt_aload_n F hl 0 rfl rfl d_M_sweep_114 ?_
        obtain ⟨v5, e_v5, h⟩ := mw_bind h
        refine mw_getR F hK hI (in_4 _) (hc_4) 0 (by decide) (mA k_56) rfl e_v5 d_M_sweep_115 ?_
        obtain ⟨v6, e_v6, h⟩ := mw_bind h
        refine mw_getR F hK hI (in_5 _) (hc_5) 4 (by decide) (mA k_149) rfl e_v6 d_M_sweep_118 ?_
        refine lv_bipush (v := 20) F.1 F.2.1 d_M_sweep_121 (by decide) ?_
        refine mt_aload_n F hl 2 rfl rfl d_M_sweep_123 ?_
        refine mt_iload F hl 5 rfl d_M_sweep_124 ?_
        obtain ⟨v7, e_v7, h⟩ := mw_bind h
        refine mw_iald F hK hI (t0 := 0) rfl e_v7 d_M_sweep_126 ?_
        refine lv_imul F.1 F.2.1 d_M_sweep_127 ?_
        refine mt_iload F hl 6 rfl d_M_sweep_128 ?_
        refine lv_iadd F.1 F.2.1 d_M_sweep_130 ?_
        obtain ⟨v8, e_v8, h⟩ := mw_bind h
        refine mw_lald F hK hI (t0 := 1) rfl e_v8 d_M_sweep_131 ?_
        refine mt_iload_n F hl 3 rfl rfl d_M_sweep_132 ?_
        obtain ⟨b9, e_b9, h⟩ := mw_bind h
        obtain ⟨o10, e_o10, h⟩ := mw_bind h
        refine mw_calli hI (mw_runV F hK hI (c_M_reach l D dA A _ _ _ _ _ e_o10) (cwV 2 F.2.2.2.2 (gd_V k_244 k_245 k_246 k_247 k_130) rfl rfl rfl hd_M_reach ⟨Nat.le_of_ble_eq_true rfl, Nat.le_of_ble_eq_true rfl⟩) (hc_4) e_b9 rfl hl.1 rfl (Nat.zero_le _) d_M_sweep_133 ⟨(Nat.le_of_ble_eq_true rfl), (Nat.le_of_ble_eq_true rfl)⟩) (fun H locs hI => ?_)
        refine mt_istore_n F hl rfl (Nat.le_of_ble_eq_true rfl) rfl d_M_sweep_136 (fun ls hl => ?_)
        have hl : mt_L ls 7 [(3, (.inl o10.1)), (0, (.inr (.inr (some b0)))), (1, (.inr (.inr r1))), (2, (.inr (.inr r2))), (4, (.inl x4)), (5, (.inl x5)), (6, (.inl x6))] := hl
        refine mt_iinc (v := (x6 + 1)) F hl 6 rfl (by rw [show Int32.ofInt 1 = (1 : Int32) from by decide]) (Nat.le_of_ble_eq_true rfl) rfl d_M_sweep_137 (fun ls hl => ?_)
        have hl : mt_L ls 7 [(6, (.inl (x6 + 1))), (3, (.inl o10.1)), (0, (.inr (.inr (some b0)))), (1, (.inr (.inr r1))), (2, (.inr (.inr r2))), (4, (.inl x4)), (5, (.inl x5))] := hl
        refine lv_goto (tgt := 96) F.1 F.2.1 d_M_sweep_140 (by decide) ?_
        refine W.widen (k := 0) (n := 0) (Nat.le_of_ble_eq_true rfl) (Nat.le_of_ble_eq_true rfl) ?_
        exact ih.2.2.2.1 _ _ _ _ _ _ _ _ _ _ hI (mt_sub hl [2, 3, 4, 1, 5, 6, 0] rfl) h
    · intro r1 r2 x3 x4 x5 x6 S H locs ls hI hl h
      have h : q_M_sweep_4 b0 (g_M_sweep b0 k0) r1 r2 x3 x4 x5 x6 S = some out := h
      unfold q_M_sweep_4 at h
      refine mt_iload F hl 5 rfl d_M_sweep_152 ?_
      refine lv_bipush (v := 100) F.1 F.2.1 d_M_sweep_154 (by decide) ?_
      refine lv_icmp_ge (tgt := 202) F.1 F.2.1 d_M_sweep_156 (by decide) (fun hc => ?_) (fun hc => ?_)
      · rw [if_pos hc] at h
        refine mt_iload F hl 4 rfl d_M_sweep_202 ?_
        refine lv_if_le (tgt := 213) F.1 F.2.1 d_M_sweep_204 (by decide) (fun hc => ?_) (fun hc => ?_)
        · rw [if_pos hc] at h
          refine mt_iload F hl 4 rfl d_M_sweep_213 ?_
          exact mw_iret F hI hr hlk h (Nat.le_of_ble_eq_true rfl) (Nat.le_of_ble_eq_true rfl) d_M_sweep_215
        · rw [if_neg hc] at h
          refine mt_aload_n F hl 0 rfl rfl d_M_sweep_207 ?_
          refine lv_bipush (v := 8) F.1 F.2.1 d_M_sweep_208 (by decide) ?_
          obtain ⟨b1, e_b1, h⟩ := mw_bind h
          obtain ⟨S2, e_S2, h⟩ := mw_bind h
          refine mw_callv hI (mw_runV F hK hI (c_M_keep l D dA A _ _ _ _ e_S2) (cwV 1 F.2.2.2.2 (gd_V k_218 k_219 k_220 k_221 k_130) rfl rfl rfl hd_M_keep ⟨Nat.le_of_ble_eq_true rfl, Nat.le_of_ble_eq_true rfl⟩) (hc_4) e_b1 rfl hl.1 rfl (Nat.zero_le _) d_M_sweep_210 ⟨(Nat.le_of_ble_eq_true rfl), (Nat.le_of_ble_eq_true rfl)⟩) (fun H locs hI => ?_)
          refine mt_iload F hl 4 rfl d_M_sweep_213 ?_
          exact mw_iret F hI hr hlk h (Nat.le_of_ble_eq_true rfl) (Nat.le_of_ble_eq_true rfl) d_M_sweep_215
      · rw [if_neg hc] at h
        refine mt_aload_n F hl 0 rfl rfl d_M_sweep_159 ?_
        obtain ⟨v3, e_v3, h⟩ := mw_bind h
        refine mw_getR F hK hI (in_4 _) (hc_4) 0 (by decide) (mA k_56) rfl e_v3 d_M_sweep_160 ?_
        obtain ⟨v4, e_v4, h⟩ := mw_bind h
        refine mw_getR F hK hI (in_5 _) (hc_5) 0 (by decide) (mA k_63) rfl e_v4 d_M_sweep_163 ?_
        refine mt_iload F hl 5 rfl d_M_sweep_166 ?_
        obtain ⟨v5, e_v5, h⟩ := mw_bind h
        refine mw_iald F hK hI (t0 := 0) rfl e_v5 d_M_sweep_168 ?_
        refine lv_if_eq (tgt := 196) F.1 F.2.1 d_M_sweep_169 (by decide) (fun hc => ?_) (fun hc => ?_)
        · rw [if_pos hc] at h
          refine mt_iinc (v := (x5 + 1)) F hl 5 rfl (by rw [show Int32.ofInt 1 = (1 : Int32) from by decide]) (Nat.le_of_ble_eq_true rfl) rfl d_M_sweep_196 (fun ls hl => ?_)
          have hl : mt_L ls 7 [(5, (.inl (x5 + 1))), (0, (.inr (.inr (some b0)))), (1, (.inr (.inr r1))), (2, (.inr (.inr r2))), (3, (.inl x3)), (4, (.inl x4))] := hl
          refine lv_goto (tgt := 152) F.1 F.2.1 d_M_sweep_199 (by decide) ?_
          refine W.widen (k := 0) (n := 0) (Nat.le_of_ble_eq_true rfl) (Nat.le_of_ble_eq_true rfl) ?_
          exact ih.2.2.2.2 _ _ _ _ _ _ _ _ _ _ hI (mt_sub hl [1, 2, 3, 4, 5, 0] rfl) h
        · rw [if_neg hc] at h
          refine mt_aload_n F hl 1 rfl rfl d_M_sweep_172 ?_
          refine mt_iload F hl 5 rfl d_M_sweep_173 ?_
          obtain ⟨v6, e_v6, h⟩ := mw_bind h
          refine mw_zald F hK hI (t0 := 2) rfl e_v6 d_M_sweep_175 ?_
          refine lv_if_eq (tgt := 182) F.1 F.2.1 d_M_sweep_176 (by decide) (fun hc => ?_) (fun hc => ?_)
          · rw [if_pos hc] at h
            refine mt_aload_n F hl 0 rfl rfl d_M_sweep_182 ?_
            obtain ⟨v7, e_v7, h⟩ := mw_bind h
            refine mw_getR F hK hI (in_4 _) (hc_4) 0 (by decide) (mA k_56) rfl e_v7 d_M_sweep_183 ?_
            obtain ⟨v8, e_v8, h⟩ := mw_bind h
            refine mw_getR F hK hI (in_5 _) (hc_5) 0 (by decide) (mA k_63) rfl e_v8 d_M_sweep_186 ?_
            refine mt_iload F hl 5 rfl d_M_sweep_189 ?_
            refine lv_iconst (v := 0) F.1 F.2.1 d_M_sweep_191 (by decide) ?_
            obtain ⟨S9, e_S9, h⟩ := mw_bind h
            refine mw_iast F hK hI (t0 := 0) rfl e_S9 d_M_sweep_192 (fun H locs hI => ?_)
            refine mt_iinc (v := (x4 + 1)) F hl 4 rfl (by rw [show Int32.ofInt 1 = (1 : Int32) from by decide]) (Nat.le_of_ble_eq_true rfl) rfl d_M_sweep_193 (fun ls hl => ?_)
            have hl : mt_L ls 7 [(4, (.inl (x4 + 1))), (0, (.inr (.inr (some b0)))), (1, (.inr (.inr r1))), (2, (.inr (.inr r2))), (3, (.inl x3)), (5, (.inl x5))] := hl
            refine mt_iinc (v := (x5 + 1)) F hl 5 rfl (by rw [show Int32.ofInt 1 = (1 : Int32) from by decide]) (Nat.le_of_ble_eq_true rfl) rfl d_M_sweep_196 (fun ls hl => ?_)
            have hl : mt_L ls 7 [(5, (.inl (x5 + 1))), (4, (.inl (x4 + 1))), (0, (.inr (.inr (some b0)))), (1, (.inr (.inr r1))), (2, (.inr (.inr r2))), (3, (.inl x3))] := hl
            refine lv_goto (tgt := 152) F.1 F.2.1 d_M_sweep_199 (by decide) ?_
            refine W.widen (k := 0) (n := 0) (Nat.le_of_ble_eq_true rfl) (Nat.le_of_ble_eq_true rfl) ?_
            exact ih.2.2.2.2 _ _ _ _ _ _ _ _ _ _ hI (mt_sub hl [2, 3, 4, 5, 1, 0] rfl) h
          · rw [if_neg hc] at h
            refine lv_goto (tgt := 196) F.1 F.2.1 d_M_sweep_179 (by decide) ?_
            refine mt_iinc (v := (x5 + 1)) F hl 5 rfl (by rw [show Int32.ofInt 1 = (1 : Int32) from by decide]) (Nat.le_of_ble_eq_true rfl) rfl d_M_sweep_196 (fun ls hl => ?_)
            have hl : mt_L ls 7 [(5, (.inl (x5 + 1))), (0, (.inr (.inr (some b0)))), (1, (.inr (.inr r1))), (2, (.inr (.inr r2))), (3, (.inl x3)), (4, (.inl x4))] := hl
            refine lv_goto (tgt := 152) F.1 F.2.1 d_M_sweep_199 (by decide) ?_
            refine W.widen (k := 0) (n := 0) (Nat.le_of_ble_eq_true rfl) (Nat.le_of_ble_eq_true rfl) ?_
            exact ih.2.2.2.2 _ _ _ _ _ _ _ _ _ _ hI (mt_sub hl [1, 2, 3, 4, 5, 0] rfl) h
set_option maxHeartbeats 4000000 in
set_option maxRecDepth 100000 in
theorem c_M_sweep (l : Launch) (D : va_G) (dA : Nat → ClassId) (A : Nat → Prop) (b0 : Nat) (S : mc_S) (out : (Int32 × mc_S)) (hf : f_M_sweep b0 S = some out) : Met l y_M_sweep (cd_M_sweep :: ALL) rm_M_sweep (va_Pc [va_rf (some b0)] (mw_B D dA CL (TY dA) ZZ A S)) (va_Qi (fun x (_ : Unit) => x = out.1) (fun _ t => mw_R D dA CL A out.2 t) A) 0 0 A := by
  refine mw_ofW (cc := b_M_sweep) (maxL := 7) (ret := (some .int)) [(.inr (.inr (some b0)))] rfl (by decide +kernel) (Nat.le_of_ble_eq_true rfl) (L := [(0, (.inr (.inr (some b0))))]) rfl (fun p e s m args below meth c F hr hlk hnm hK ls hl hI => ?_)
  have h := hf
  unfold f_M_sweep at h
  refine mt_aload_n F hl 0 rfl rfl d_M_sweep_0 ?_
  obtain ⟨v1, e_v1, h⟩ := mw_bind h
  refine mw_getR F hK hI (in_4 _) (hc_4) 0 (by decide) (mA k_56) rfl e_v1 d_M_sweep_1 ?_
  refine mt_aload_n F hl 0 rfl rfl d_M_sweep_4 ?_
  obtain ⟨v2, e_v2, h⟩ := mw_bind h
  refine mw_getR F hK hI (in_4 _) (hc_4) 1 (by decide) (mA k_57) rfl e_v2 d_M_sweep_5 ?_
  obtain ⟨b3, e_b3, h⟩ := mw_bind h
  obtain ⟨S4, e_S4, h⟩ := mw_bind h
  refine mw_callv hI (mw_runV F hK hI (c_N_copy l D dA A _ _ _ _ e_S4) (cwV 1 F.2.2.2.2 (gd_V k_207 k_208 k_209 k_210 k_53) rfl rfl rfl hd_N_copy ⟨Nat.le_of_ble_eq_true rfl, Nat.le_of_ble_eq_true rfl⟩) (hc_5) e_b3 rfl hl.1 rfl (Nat.zero_le _) d_M_sweep_8 ⟨(Nat.le_of_ble_eq_true rfl), (Nat.le_of_ble_eq_true rfl)⟩) (fun H locs hI => ?_)
  refine mt_aload_n F hl 0 rfl rfl d_M_sweep_11 ?_
  obtain ⟨v5, e_v5, h⟩ := mw_bind h
  refine mw_getR F hK hI (in_4 _) (hc_4) 6 (by decide) (mA k_60) rfl e_v5 d_M_sweep_12 ?_
  refine mt_astore_n F hl rfl (Nat.le_of_ble_eq_true rfl) rfl d_M_sweep_15 (fun ls hl => ?_)
  have hl : mt_L ls 7 [(1, (.inr (.inr v5))), (0, (.inr (.inr (some b0))))] := hl
  refine mt_aload_n F hl 1 rfl rfl d_M_sweep_16 ?_
  obtain ⟨v6, e_v6, h⟩ := mw_bind h
  refine mw_getR F hK hI (in_4 _) (hc_4) 7 (by decide) (mA k_61) rfl e_v6 d_M_sweep_17 ?_
  refine mt_astore_n F hl rfl (Nat.le_of_ble_eq_true rfl) rfl d_M_sweep_20 (fun ls hl => ?_)
  have hl : mt_L ls 7 [(2, (.inr (.inr v6))), (1, (.inr (.inr v5))), (0, (.inr (.inr (some b0))))] := hl
  refine lv_iconst (v := 0) F.1 F.2.1 d_M_sweep_21 (by decide) ?_
  refine mt_istore_n F hl rfl (Nat.le_of_ble_eq_true rfl) rfl d_M_sweep_22 (fun ls hl => ?_)
  have hl : mt_L ls 7 [(3, (.inl 0)), (2, (.inr (.inr v6))), (1, (.inr (.inr v5))), (0, (.inr (.inr (some b0))))] := hl
  refine lv_iconst (v := 0) F.1 F.2.1 d_M_sweep_23 (by decide) ?_
  refine mt_istore F hl (Nat.le_of_ble_eq_true rfl) rfl d_M_sweep_24 (fun ls hl => ?_)
  have hl : mt_L ls 7 [(4, (.inl 0)), (3, (.inl 0)), (2, (.inr (.inr v6))), (1, (.inr (.inr v5))), (0, (.inr (.inr (some b0))))] := hl
  refine lv_iconst (v := 0) F.1 F.2.1 d_M_sweep_26 (by decide) ?_
  refine mt_istore F hl (Nat.le_of_ble_eq_true rfl) rfl d_M_sweep_27 (fun ls hl => ?_)
  have hl : mt_L ls 7 [(5, (.inl 0)), (4, (.inl 0)), (3, (.inl 0)), (2, (.inr (.inr v6))), (1, (.inr (.inr v5))), (0, (.inr (.inr (some b0))))] := hl
  refine W.widen (k := 0) (n := 0) (Nat.le_of_ble_eq_true rfl) (Nat.le_of_ble_eq_true rfl) ?_
  exact (s_M_sweep l D dA A b0 F hr hlk hnm hK out 5000).1 _ _ _ _ _ _ _ _ _ _ hI (mt_sub hl [5, 4, 3, 2, 1, 0] rfl) h
abbrev rm_K_sync : Room := { frames := 1, cells := 0, slots := 0, locals := 21 }
set_option maxHeartbeats 4000000 in
set_option maxRecDepth 100000 in
theorem c_K_sync (l : Launch) (D : va_G) (dA : Nat → ClassId) (A : Nat → Prop) (b0 : Nat) (S : mc_S) (out : (Int32 × mc_S)) (hf : f_K_sync b0 S = some out) : Met l y_K_sync (cd_K_sync :: ALL) rm_K_sync (va_Pc [va_rf (some b0)] (mw_B D dA CL (TY dA) ZZ A S)) (va_Qi (fun x (_ : Unit) => x = out.1) (fun _ t => mw_R D dA CL A out.2 t) A) 0 0 A := by
  refine mw_ofW (cc := b_K_sync) (maxL := 2) (ret := (some .int)) [(.inr (.inr (some b0)))] rfl (by decide +kernel) (Nat.le_of_ble_eq_true rfl) (L := [(0, (.inr (.inr (some b0))))]) rfl (fun p e s m args below meth c F hr hlk hnm hK ls hl hI => ?_)
  have h := hf
  unfold f_K_sync at h
  refine mt_aload_n F hl 0 rfl rfl d_K_sync_0 ?_
  obtain ⟨v1, e_v1, h⟩ := mw_bind h
  refine mw_getI F hK hI (in_0 _) (hc_0) 5 (by decide) (mA k_29) rfl e_v1 d_K_sync_1 ?_
  refine mt_istore_n F hl rfl (Nat.le_of_ble_eq_true rfl) rfl d_K_sync_4 (fun ls hl => ?_)
  have hl : mt_L ls 2 [(1, (.inl v1)), (0, (.inr (.inr (some b0))))] := hl
  refine mt_aload_n F hl 1 rfl rfl d_K_sync_5 ?_
  refine mt_aload_n F hl 1 rfl rfl d_K_sync_6 ?_
  refine mt_iload_n F hl 0 rfl rfl d_K_sync_7 ?_
  obtain ⟨b2, e_b2, h⟩ := mw_bind h
  obtain ⟨o3, e_o3, h⟩ := mw_bind h
  refine mw_calli hI (mw_runV F hK hI (c_K_ringIndex l D dA A _ _ _ _ e_o3) (cwV 1 F.2.2.2.2 (gd_V k_74 k_75 k_76 k_77 k_78) rfl rfl rfl hd_K_ringIndex ⟨Nat.le_of_ble_eq_true rfl, Nat.le_of_ble_eq_true rfl⟩) (hc_0) e_b2 rfl hl.1 rfl (by simp [mw_cat, mw_cI, mw_cL]) d_K_sync_8 ⟨(Nat.le_of_ble_eq_true rfl), (Nat.le_of_ble_eq_true rfl)⟩) (fun H locs hI => ?_)
  obtain ⟨S4, e_S4, h⟩ := mw_bind h
  refine mw_put F hK hI (in_0 _) ty_0 ok_0 nm_0 (hc_0) 4 (by decide) (mA k_28) rfl rfl rfl rfl e_S4 d_K_sync_11 (fun H locs hI => ?_)
  refine mt_aload_n F hl 1 rfl rfl d_K_sync_14 ?_
  refine lv_iconst (v := 0) F.1 F.2.1 d_K_sync_15 (by decide) ?_
  obtain ⟨S5, e_S5, h⟩ := mw_bind h
  refine mw_put F hK hI (in_0 _) ty_0 ok_0 nm_0 (hc_0) 5 (by decide) (mA k_29) rfl rfl rfl rfl e_S5 d_K_sync_16 (fun H locs hI => ?_)
  refine mt_iload_n F hl 0 rfl rfl d_K_sync_19 ?_
  exact mw_iret F hI hr hlk h (Nat.le_of_ble_eq_true rfl) (Nat.le_of_ble_eq_true rfl) d_K_sync_20
abbrev rm_M_sync : Room := { frames := 2, cells := 0, slots := 0, locals := 39 }
set_option maxHeartbeats 4000000 in
set_option maxRecDepth 100000 in
theorem c_M_sync (l : Launch) (D : va_G) (dA : Nat → ClassId) (A : Nat → Prop) (b0 : Nat) (S : mc_S) (out : (Int32 × mc_S)) (hf : f_M_sync b0 S = some out) : Met l y_M_sync (cd_M_sync :: ALL) rm_M_sync (va_Pc [va_rf (some b0)] (mw_B D dA CL (TY dA) ZZ A S)) (va_Qi (fun x (_ : Unit) => x = out.1) (fun _ t => mw_R D dA CL A out.2 t) A) 0 0 A := by
  refine mw_ofW (cc := b_M_sync) (maxL := 2) (ret := (some .int)) [(.inr (.inr (some b0)))] rfl (by decide +kernel) (Nat.le_of_ble_eq_true rfl) (L := [(0, (.inr (.inr (some b0))))]) rfl (fun p e s m args below meth c F hr hlk hnm hK ls hl hI => ?_)
  have h := hf
  unfold f_M_sync at h
  refine mt_aload_n F hl 0 rfl rfl d_M_sync_0 ?_
  obtain ⟨v1, e_v1, h⟩ := mw_bind h
  refine mw_getI F hK hI (in_4 _) (hc_4) 4 (by decide) (mA k_212) rfl e_v1 d_M_sync_1 ?_
  refine mt_istore_n F hl rfl (Nat.le_of_ble_eq_true rfl) rfl d_M_sync_4 (fun ls hl => ?_)
  have hl : mt_L ls 2 [(1, (.inl v1)), (0, (.inr (.inr (some b0))))] := hl
  refine mt_aload_n F hl 1 rfl rfl d_M_sync_5 ?_
  obtain ⟨v2, e_v2, h⟩ := mw_bind h
  refine mw_getR F hK hI (in_4 _) (hc_4) 2 (by decide) (mA k_58) rfl e_v2 d_M_sync_6 ?_
  refine mt_aload_n F hl 1 rfl rfl d_M_sync_9 ?_
  obtain ⟨v3, e_v3, h⟩ := mw_bind h
  refine mw_getR F hK hI (in_4 _) (hc_4) 1 (by decide) (mA k_57) rfl e_v3 d_M_sync_10 ?_
  obtain ⟨b4, e_b4, h⟩ := mw_bind h
  obtain ⟨S5, e_S5, h⟩ := mw_bind h
  refine mw_callv hI (mw_runV F hK hI (c_N_copy l D dA A _ _ _ _ e_S5) (cwV 1 F.2.2.2.2 (gd_V k_207 k_208 k_209 k_210 k_53) rfl rfl rfl hd_N_copy ⟨Nat.le_of_ble_eq_true rfl, Nat.le_of_ble_eq_true rfl⟩) (hc_5) e_b4 rfl hl.1 rfl (Nat.zero_le _) d_M_sync_13 ⟨(Nat.le_of_ble_eq_true rfl), (Nat.le_of_ble_eq_true rfl)⟩) (fun H locs hI => ?_)
  refine mt_aload_n F hl 1 rfl rfl d_M_sync_16 ?_
  refine lv_iconst (v := 0) F.1 F.2.1 d_M_sync_17 (by decide) ?_
  obtain ⟨S6, e_S6, h⟩ := mw_bind h
  refine mw_put F hK hI (in_4 _) ty_4 ok_4 nm_4 (hc_4) 4 (by decide) (mA k_212) rfl rfl rfl rfl e_S6 d_M_sync_18 (fun H locs hI => ?_)
  refine mt_iload_n F hl 0 rfl rfl d_M_sync_21 ?_
  exact mw_iret F hI hr hlk h (Nat.le_of_ble_eq_true rfl) (Nat.le_of_ble_eq_true rfl) d_M_sync_22
abbrev rm_K_entriesWithin : Room := { frames := 1, cells := 0, slots := 0, locals := 21 }
set_option maxHeartbeats 4000000 in
set_option maxRecDepth 100000 in
theorem s_K_entriesWithin (l : Launch) (D : va_G) (dA : Nat → ClassId) (A : Nat → Prop) (b0 : Nat) {p : Program} {e : Env} {s : State} {m : MethodId} {args : Array Value} {below : List Frame} {meth : Method} {c : Code} (F : CallFix p m c b_K_entriesWithin 5 s args (cd_K_entriesWithin :: ALL) y_K_entriesWithin.cls) (hr : meth.sig.returnType = (some .int)) (hlk : meth.locks = false) (hnm : meth.name = y_K_entriesWithin.name) (hK : mw_K D CL (TY dA) ZZ s) (out : (Int32 × mc_S)) : ∀ n : Nat, (∀ (x1 : Int32) (x2 : Int32) (x3 : Int32) (S : mc_S) (H : Heap) (locs : List Loc) (ls : Array Slot), mw_I D dA CL A S s.heap H locs → mt_L ls 5 [(0, (.inr (.inr (some b0)))), (1, (.inl x1)), (2, (.inl x2)), (3, (.inl x3))] → g_K_entriesWithin b0 n x1 x2 x3 S = some out → W p l e rm_K_entriesWithin s m args below meth c H locs (0) (0) (MQ below (va_Qi (fun x (_ : Unit) => x = out.1) (fun _ t => mw_R D dA CL A out.2 t) A) args s 0 0 A) (F0 m 4 ls [])) := by
  intro n
  induction n with
  | zero =>
    intro x1 x2 x3 S H locs ls hI hl h; have h : (none : Option (Int32 × mc_S)) = some out := h; cases h
  | succ k0 ih =>
    intro x1 x2 x3 S H locs ls hI hl h
    have h : q_K_entriesWithin_0 b0 (g_K_entriesWithin b0 k0) x1 x2 x3 S = some out := h
    unfold q_K_entriesWithin_0 at h
    refine mt_iload_n F hl 3 rfl rfl d_K_entriesWithin_4 ?_
    refine mt_aload_n F hl 0 rfl rfl d_K_entriesWithin_5 ?_
    obtain ⟨v1, e_v1, h⟩ := mw_bind h
    refine mw_getI F hK hI (in_0 _) (hc_0) 5 (by decide) (mA k_29) rfl e_v1 d_K_entriesWithin_6 ?_
    refine lv_icmp_gt (tgt := 45) F.1 F.2.1 d_K_entriesWithin_9 (by decide) (fun hc => ?_) (fun hc => ?_)
    · rw [if_pos hc] at h
      refine mt_aload_n F hl 0 rfl rfl d_K_entriesWithin_45 ?_
      obtain ⟨v2, e_v2, h⟩ := mw_bind h
      refine mw_getI F hK hI (in_0 _) (hc_0) 5 (by decide) (mA k_29) rfl e_v2 d_K_entriesWithin_46 ?_
      exact mw_iret F hI hr hlk h (Nat.le_of_ble_eq_true rfl) (Nat.le_of_ble_eq_true rfl) d_K_entriesWithin_49
    · rw [if_neg hc] at h
      refine mt_aload_n F hl 0 rfl rfl d_K_entriesWithin_12 ?_
      obtain ⟨v3, e_v3, h⟩ := mw_bind h
      refine mw_getR F hK hI (in_0 _) (hc_0) 2 (by decide) (mA k_21) rfl e_v3 d_K_entriesWithin_13 ?_
      refine mt_aload_n F hl 0 rfl rfl d_K_entriesWithin_16 ?_
      refine mt_iload_n F hl 3 rfl rfl d_K_entriesWithin_17 ?_
      obtain ⟨b4, e_b4, h⟩ := mw_bind h
      obtain ⟨o5, e_o5, h⟩ := mw_bind h
      refine mw_calli hI (mw_runV F hK hI (c_K_ringIndex l D dA A _ _ _ _ e_o5) (cwV 1 F.2.2.2.2 (gd_V k_74 k_75 k_76 k_77 k_78) rfl rfl rfl hd_K_ringIndex ⟨Nat.le_of_ble_eq_true rfl, Nat.le_of_ble_eq_true rfl⟩) (hc_0) e_b4 rfl hl.1 rfl (by simp [mw_cat, mw_cI, mw_cL]) d_K_entriesWithin_18 ⟨(Nat.le_of_ble_eq_true rfl), (Nat.le_of_ble_eq_true rfl)⟩) (fun H locs hI => ?_)
      obtain ⟨v6, e_v6, h⟩ := mw_bind h
      refine mw_iald F hK hI (t0 := 0) rfl e_v6 d_K_entriesWithin_21 ?_
      refine mt_istore F hl (Nat.le_of_ble_eq_true rfl) rfl d_K_entriesWithin_22 (fun ls hl => ?_)
      have hl : mt_L ls 5 [(4, (.inl v6)), (0, (.inr (.inr (some b0)))), (1, (.inl x1)), (2, (.inl x2)), (3, (.inl x3))] := hl
      refine mt_iload F hl 0 rfl d_K_entriesWithin_24 ?_
      refine mt_iload_n F hl 3 rfl rfl d_K_entriesWithin_26 ?_
      refine lv_icmp_le (tgt := 34) F.1 F.2.1 d_K_entriesWithin_27 (by decide) (fun hc => ?_) (fun hc => ?_)
      · rw [if_pos hc] at h
        refine mt_iload_n F hl 3 rfl rfl d_K_entriesWithin_34 ?_
        refine mt_iload F hl 0 rfl d_K_entriesWithin_35 ?_
        refine lv_isub F.1 F.2.1 d_K_entriesWithin_37 ?_
        refine mt_istore_n F hl rfl (Nat.le_of_ble_eq_true rfl) rfl d_K_entriesWithin_38 (fun ls hl => ?_)
        have hl : mt_L ls 5 [(2, (.inl (x2 - v6))), (4, (.inl v6)), (0, (.inr (.inr (some b0)))), (1, (.inl x1)), (3, (.inl x3))] := hl
        refine mt_iinc (v := (x3 + 1)) F hl 4 rfl (by rw [show Int32.ofInt 1 = (1 : Int32) from by decide]) (Nat.le_of_ble_eq_true rfl) rfl d_K_entriesWithin_39 (fun ls hl => ?_)
        have hl : mt_L ls 5 [(3, (.inl (x3 + 1))), (2, (.inl (x2 - v6))), (4, (.inl v6)), (0, (.inr (.inr (some b0)))), (1, (.inl x1))] := hl
        refine lv_goto (tgt := 4) F.1 F.2.1 d_K_entriesWithin_42 (by decide) ?_
        refine W.widen (k := 0) (n := 0) (Nat.le_of_ble_eq_true rfl) (Nat.le_of_ble_eq_true rfl) ?_
        exact ih _ _ _ _ _ _ _ hI (mt_sub hl [3, 4, 1, 0] rfl) h
      · rw [if_neg hc] at h
        refine mt_iload_n F hl 4 rfl rfl d_K_entriesWithin_30 ?_
        refine lv_iconst (v := 1) F.1 F.2.1 d_K_entriesWithin_31 (by decide) ?_
        refine lv_isub F.1 F.2.1 d_K_entriesWithin_32 ?_
        exact mw_iret F hI hr hlk h (Nat.le_of_ble_eq_true rfl) (Nat.le_of_ble_eq_true rfl) d_K_entriesWithin_33
set_option maxHeartbeats 4000000 in
set_option maxRecDepth 100000 in
theorem c_K_entriesWithin (l : Launch) (D : va_G) (dA : Nat → ClassId) (A : Nat → Prop) (b0 : Nat) (a1 : Int32) (S : mc_S) (out : (Int32 × mc_S)) (hf : f_K_entriesWithin b0 a1 S = some out) : Met l y_K_entriesWithin (cd_K_entriesWithin :: ALL) rm_K_entriesWithin (va_Pc [va_rf (some b0), .int a1] (mw_B D dA CL (TY dA) ZZ A S)) (va_Qi (fun x (_ : Unit) => x = out.1) (fun _ t => mw_R D dA CL A out.2 t) A) 0 0 A := by
  refine mw_ofW (cc := b_K_entriesWithin) (maxL := 5) (ret := (some .int)) [(.inr (.inr (some b0))), (.inl a1)] rfl (by decide +kernel) (Nat.le_of_ble_eq_true rfl) (L := [(0, (.inr (.inr (some b0)))), (1, (.inl a1))]) rfl (fun p e s m args below meth c F hr hlk hnm hK ls hl hI => ?_)
  have h := hf
  unfold f_K_entriesWithin at h
  refine mt_iload_n F hl 1 rfl rfl d_K_entriesWithin_0 ?_
  refine mt_istore_n F hl rfl (Nat.le_of_ble_eq_true rfl) rfl d_K_entriesWithin_1 (fun ls hl => ?_)
  have hl : mt_L ls 5 [(2, (.inl a1)), (0, (.inr (.inr (some b0)))), (1, (.inl a1))] := hl
  refine lv_iconst (v := 1) F.1 F.2.1 d_K_entriesWithin_2 (by decide) ?_
  refine mt_istore_n F hl rfl (Nat.le_of_ble_eq_true rfl) rfl d_K_entriesWithin_3 (fun ls hl => ?_)
  have hl : mt_L ls 5 [(3, (.inl 1)), (2, (.inl a1)), (0, (.inr (.inr (some b0)))), (1, (.inl a1))] := hl
  refine W.widen (k := 0) (n := 0) (Nat.le_of_ble_eq_true rfl) (Nat.le_of_ble_eq_true rfl) ?_
  exact (s_K_entriesWithin l D dA A b0 F hr hlk hnm hK out 5000) _ _ _ _ _ _ _ hI (mt_sub hl [2, 3, 1, 0] rfl) h
abbrev rm_K_crash : Room := { frames := 2, cells := 0, slots := 0, locals := 45 }
set_option maxHeartbeats 4000000 in
set_option maxRecDepth 100000 in
theorem s_K_crash (l : Launch) (D : va_G) (dA : Nat → ClassId) (A : Nat → Prop) (b0 : Nat) {p : Program} {e : Env} {s : State} {m : MethodId} {args : Array Value} {below : List Frame} {meth : Method} {c : Code} (F : CallFix p m c b_K_crash 4 s args (cd_K_crash :: ALL) y_K_crash.cls) (hr : meth.sig.returnType = (some .int)) (hlk : meth.locks = false) (hnm : meth.name = y_K_crash.name) (hK : mw_K D CL (TY dA) ZZ s) (out : (Int32 × mc_S)) : ∀ n : Nat, (∀ (x1 : Int32) (x2 : Int32) (x3 : Int32) (S : mc_S) (H : Heap) (locs : List Loc) (ls : Array Slot), mw_I D dA CL A S s.heap H locs → mt_L ls 4 [(0, (.inr (.inr (some b0)))), (1, (.inl x1)), (2, (.inl x2)), (3, (.inl x3))] → g_K_crash b0 n x1 x2 x3 S = some out → W p l e rm_K_crash s m args below meth c H locs (0) (0) (MQ below (va_Qi (fun x (_ : Unit) => x = out.1) (fun _ t => mw_R D dA CL A out.2 t) A) args s 0 0 A) (F0 m 16 ls [])) := by
  intro n
  induction n with
  | zero =>
    intro x1 x2 x3 S H locs ls hI hl h; have h : (none : Option (Int32 × mc_S)) = some out := h; cases h
  | succ k0 ih =>
    intro x1 x2 x3 S H locs ls hI hl h
    have h : q_K_crash_0 b0 (g_K_crash b0 k0) x1 x2 x3 S = some out := h
    unfold q_K_crash_0 at h
    refine mt_iload_n F hl 3 rfl rfl d_K_crash_16 ?_
    refine mt_aload_n F hl 0 rfl rfl d_K_crash_17 ?_
    obtain ⟨v1, e_v1, h⟩ := mw_bind h
    refine mw_getI F hK hI (in_0 _) (hc_0) 5 (by decide) (mA k_29) rfl e_v1 d_K_crash_18 ?_
    refine lv_icmp_gt (tgt := 49) F.1 F.2.1 d_K_crash_21 (by decide) (fun hc => ?_) (fun hc => ?_)
    · rw [if_pos hc] at h
      refine mt_aload_n F hl 0 rfl rfl d_K_crash_49 ?_
      refine mt_aload_n F hl 0 rfl rfl d_K_crash_50 ?_
      refine mt_iload_n F hl 2 rfl rfl d_K_crash_51 ?_
      obtain ⟨b2, e_b2, h⟩ := mw_bind h
      obtain ⟨o3, e_o3, h⟩ := mw_bind h
      refine mw_calli hI (mw_runV F hK hI (c_K_ringIndex l D dA A _ _ _ _ e_o3) (cwV 1 F.2.2.2.2 (gd_V k_74 k_75 k_76 k_77 k_78) rfl rfl rfl hd_K_ringIndex ⟨Nat.le_of_ble_eq_true rfl, Nat.le_of_ble_eq_true rfl⟩) (hc_0) e_b2 rfl hl.1 rfl (by simp [mw_cat, mw_cI, mw_cL]) d_K_crash_52 ⟨(Nat.le_of_ble_eq_true rfl), (Nat.le_of_ble_eq_true rfl)⟩) (fun H locs hI => ?_)
      obtain ⟨S4, e_S4, h⟩ := mw_bind h
      refine mw_put F hK hI (in_0 _) ty_0 ok_0 nm_0 (hc_0) 4 (by decide) (mA k_28) rfl rfl rfl rfl e_S4 d_K_crash_55 (fun H locs hI => ?_)
      refine mt_aload_n F hl 0 rfl rfl d_K_crash_58 ?_
      refine lv_iconst (v := 0) F.1 F.2.1 d_K_crash_59 (by decide) ?_
      obtain ⟨S5, e_S5, h⟩ := mw_bind h
      refine mw_put F hK hI (in_0 _) ty_0 ok_0 nm_0 (hc_0) 5 (by decide) (mA k_29) rfl rfl rfl rfl e_S5 d_K_crash_60 (fun H locs hI => ?_)
      refine mt_aload_n F hl 0 rfl rfl d_K_crash_63 ?_
      obtain ⟨v6, e_v6, h⟩ := mw_bind h
      refine mw_getR F hK hI (in_0 _) (hc_0) 0 (by decide) (mA k_42) rfl e_v6 d_K_crash_64 ?_
      refine mt_aload_n F hl 0 rfl rfl d_K_crash_67 ?_
      obtain ⟨b7, e_b7, h⟩ := mw_bind h
      obtain ⟨o8, e_o8, h⟩ := mw_bind h
      refine mw_callq hI (mw_runV F hK hI (c_K_kept l D dA A _ _ _ e_o8) (cwV 0 F.2.2.2.2 (gd_V k_89 k_90 k_91 k_92 k_78) rfl rfl rfl hd_K_kept ⟨Nat.le_of_ble_eq_true rfl, Nat.le_of_ble_eq_true rfl⟩) (hc_0) e_b7 rfl hl.1 rfl (by simp [mw_cat, mw_cI, mw_cL]) d_K_crash_68 ⟨(Nat.le_of_ble_eq_true rfl), (Nat.le_of_ble_eq_true rfl)⟩) (fun H locs hI => ?_)
      obtain ⟨b9, e_b9, h⟩ := mw_bind h
      obtain ⟨S10, e_S10, h⟩ := mw_bind h
      refine mw_callv hI (mw_runV F hK hI (c_T_become l D dA A _ _ _ _ e_S10) (cwV 1 F.2.2.2.2 (gd_V k_189 k_190 k_191 k_192 k_38) rfl rfl rfl hd_T_become ⟨Nat.le_of_ble_eq_true rfl, Nat.le_of_ble_eq_true rfl⟩) (hc_2) e_b9 rfl hl.1 rfl (Nat.zero_le _) d_K_crash_71 ⟨(Nat.le_of_ble_eq_true rfl), (Nat.le_of_ble_eq_true rfl)⟩) (fun H locs hI => ?_)
      refine mt_iload_n F hl 2 rfl rfl d_K_crash_74 ?_
      exact mw_iret F hI hr hlk h (Nat.le_of_ble_eq_true rfl) (Nat.le_of_ble_eq_true rfl) d_K_crash_75
    · rw [if_neg hc] at h
      refine mt_aload_n F hl 0 rfl rfl d_K_crash_24 ?_
      refine lv_dup F.1 F.2.1 d_K_crash_25 (mw_cat _) ?_
      obtain ⟨v11, e_v11, h⟩ := mw_bind h
      refine mw_getI F hK hI (in_0 _) (hc_0) 6 (by decide) (mA k_30) rfl e_v11 d_K_crash_26 ?_
      refine mt_aload_n F hl 0 rfl rfl d_K_crash_29 ?_
      obtain ⟨v12, e_v12, h⟩ := mw_bind h
      refine mw_getR F hK hI (in_0 _) (hc_0) 2 (by decide) (mA k_21) rfl e_v12 d_K_crash_30 ?_
      refine mt_aload_n F hl 0 rfl rfl d_K_crash_33 ?_
      refine mt_iload_n F hl 3 rfl rfl d_K_crash_34 ?_
      obtain ⟨b13, e_b13, h⟩ := mw_bind h
      obtain ⟨o14, e_o14, h⟩ := mw_bind h
      refine mw_calli hI (mw_runV F hK hI (c_K_ringIndex l D dA A _ _ _ _ e_o14) (cwV 1 F.2.2.2.2 (gd_V k_74 k_75 k_76 k_77 k_78) rfl rfl rfl hd_K_ringIndex ⟨Nat.le_of_ble_eq_true rfl, Nat.le_of_ble_eq_true rfl⟩) (hc_0) e_b13 rfl hl.1 rfl (by simp [mw_cat, mw_cI, mw_cL]) d_K_crash_35 ⟨(Nat.le_of_ble_eq_true rfl), (Nat.le_of_ble_eq_true rfl)⟩) (fun H locs hI => ?_)
      obtain ⟨v15, e_v15, h⟩ := mw_bind h
      refine mw_iald F hK hI (t0 := 0) rfl e_v15 d_K_crash_38 ?_
      refine lv_isub F.1 F.2.1 d_K_crash_39 ?_
      obtain ⟨S16, e_S16, h⟩ := mw_bind h
      refine mw_put F hK hI (in_0 _) ty_0 ok_0 nm_0 (hc_0) 6 (by decide) (mA k_30) rfl rfl rfl rfl e_S16 d_K_crash_40 (fun H locs hI => ?_)
      refine mt_iinc (v := (x3 + 1)) F hl 3 rfl (by rw [show Int32.ofInt 1 = (1 : Int32) from by decide]) (Nat.le_of_ble_eq_true rfl) rfl d_K_crash_43 (fun ls hl => ?_)
      have hl : mt_L ls 4 [(3, (.inl (x3 + 1))), (0, (.inr (.inr (some b0)))), (1, (.inl x1)), (2, (.inl x2))] := hl
      refine lv_goto (tgt := 16) F.1 F.2.1 d_K_crash_46 (by decide) ?_
      refine W.widen (k := 0) (n := 0) (Nat.le_of_ble_eq_true rfl) (Nat.le_of_ble_eq_true rfl) ?_
      exact ih _ _ _ _ _ _ _ hI (mt_sub hl [1, 2, 3, 0] rfl) h
set_option maxHeartbeats 4000000 in
set_option maxRecDepth 100000 in
theorem c_K_crash (l : Launch) (D : va_G) (dA : Nat → ClassId) (A : Nat → Prop) (b0 : Nat) (a1 : Int32) (S : mc_S) (out : (Int32 × mc_S)) (hf : f_K_crash b0 a1 S = some out) : Met l y_K_crash (cd_K_crash :: ALL) rm_K_crash (va_Pc [va_rf (some b0), .int a1] (mw_B D dA CL (TY dA) ZZ A S)) (va_Qi (fun x (_ : Unit) => x = out.1) (fun _ t => mw_R D dA CL A out.2 t) A) 0 0 A := by
  refine mw_ofW (cc := b_K_crash) (maxL := 4) (ret := (some .int)) [(.inr (.inr (some b0))), (.inl a1)] rfl (by decide +kernel) (Nat.le_of_ble_eq_true rfl) (L := [(0, (.inr (.inr (some b0)))), (1, (.inl a1))]) rfl (fun p e s m args below meth c F hr hlk hnm hK ls hl hI => ?_)
  have h := hf
  unfold f_K_crash at h
  refine mt_iload_n F hl 1 rfl rfl d_K_crash_0 ?_
  refine lv_if_ge (tgt := 6) F.1 F.2.1 d_K_crash_1 (by decide) (fun hc => ?_) (fun hc => ?_)
  · rw [if_pos hc] at h
    refine mt_aload_n F hl 0 rfl rfl d_K_crash_6 ?_
    refine mt_iload_n F hl 1 rfl rfl d_K_crash_7 ?_
    obtain ⟨b1, e_b1, h⟩ := mw_bind h
    obtain ⟨o2, e_o2, h⟩ := mw_bind h
    refine mw_calli hI (mw_runV F hK hI (c_K_entriesWithin l D dA A _ _ _ _ e_o2) (cwV 1 F.2.2.2.2 (gd_V k_248 k_249 k_250 k_251 k_78) rfl rfl rfl hd_K_entriesWithin ⟨Nat.le_of_ble_eq_true rfl, Nat.le_of_ble_eq_true rfl⟩) (hc_0) e_b1 rfl hl.1 rfl (Nat.zero_le _) d_K_crash_8 ⟨(Nat.le_of_ble_eq_true rfl), (Nat.le_of_ble_eq_true rfl)⟩) (fun H locs hI => ?_)
    refine mt_istore_n F hl rfl (Nat.le_of_ble_eq_true rfl) rfl d_K_crash_11 (fun ls hl => ?_)
    have hl : mt_L ls 4 [(2, (.inl o2.1)), (0, (.inr (.inr (some b0)))), (1, (.inl a1))] := hl
    refine mt_iload_n F hl 0 rfl rfl d_K_crash_12 ?_
    refine lv_iconst (v := 1) F.1 F.2.1 d_K_crash_13 (by decide) ?_
    refine lv_iadd F.1 F.2.1 d_K_crash_14 ?_
    refine mt_istore_n F hl rfl (Nat.le_of_ble_eq_true rfl) rfl d_K_crash_15 (fun ls hl => ?_)
    have hl : mt_L ls 4 [(3, (.inl (o2.1 + 1))), (2, (.inl o2.1)), (0, (.inr (.inr (some b0)))), (1, (.inl a1))] := hl
    refine W.widen (k := 0) (n := 0) (Nat.le_of_ble_eq_true rfl) (Nat.le_of_ble_eq_true rfl) ?_
    exact (s_K_crash l D dA A b0 F hr hlk hnm hK out 5000) _ _ _ _ _ _ _ hI (mt_sub hl [2, 3, 1, 0] rfl) h
  · rw [if_neg hc] at h
    refine lv_iconst (v := (-1)) F.1 F.2.1 d_K_crash_4 (by decide) ?_
    exact mw_iret F hI hr hlk h (Nat.le_of_ble_eq_true rfl) (Nat.le_of_ble_eq_true rfl) d_K_crash_5
