abbrev rm_K_changedBytes : Room := { frames := 3, cells := 0, slots := 0, locals := 67 }
set_option maxHeartbeats 4000000 in
set_option maxRecDepth 100000 in
theorem s_K_changedBytes (l : Launch) (D : va_G) (dA : Nat → ClassId) (A : Nat → Prop) (b0 : Nat) {p : Program} {e : Env} {s : State} {m : MethodId} {args : Array Value} {below : List Frame} {meth : Method} {c : Code} (F : CallFix p m c b_K_changedBytes 5 s args (cd_K_changedBytes :: ALL) y_K_changedBytes.cls) (hr : meth.sig.returnType = (some .int)) (hlk : meth.locks = false) (hnm : meth.name = y_K_changedBytes.name) (hK : mw_K D CL (TY dA) ZZ s) (out : (Int32 × mc_S)) : ∀ n : Nat, (∀ (r1 : Option Nat) (x2 : Int32) (x3 : Int32) (S : mc_S) (H : Heap) (locs : List Loc) (ls : Array Slot), mw_I D dA CL A S s.heap H locs → mt_L ls 5 [(0, (.inr (.inr (some b0)))), (1, (.inr (.inr r1))), (2, (.inl x2)), (3, (.inl x3))] → g_K_changedBytes b0 n r1 x2 x3 S = some out → W p l e rm_K_changedBytes s m args below meth c H locs (0) (0) (MQ below (va_Qi (fun x (_ : Unit) => x = out.1) (fun _ t => mw_R D dA CL A out.2 t) A) args s 0 0 A) (F0 m 9 ls [])) := by
  intro n
  induction n with
  | zero =>
    intro r1 x2 x3 S H locs ls hI hl h; have h : (none : Option (Int32 × mc_S)) = some out := h; cases h
  | succ k0 ih =>
    intro r1 x2 x3 S H locs ls hI hl h
    have h : q_K_changedBytes_0 b0 (g_K_changedBytes b0 k0) r1 x2 x3 S = some out := h
    unfold q_K_changedBytes_0 at h
    refine mt_iload_n F hl 3 rfl rfl d_K_changedBytes_9 ?_
    refine lv_bipush (v := 100) F.1 F.2.1 d_K_changedBytes_10 (by decide) ?_
    refine lv_icmp_ge (tgt := 54) F.1 F.2.1 d_K_changedBytes_12 (by decide) (fun hc => ?_) (fun hc => ?_)
    · rw [if_pos hc] at h
      refine lv_bipush (v := 16) F.1 F.2.1 d_K_changedBytes_54 (by decide) ?_
      refine mt_iload_n F hl 2 rfl rfl d_K_changedBytes_56 ?_
      refine lv_imul F.1 F.2.1 d_K_changedBytes_57 ?_
      refine lv_bipush (v := 6) F.1 F.2.1 d_K_changedBytes_58 (by decide) ?_
      refine mt_aload_n F hl 0 rfl rfl d_K_changedBytes_60 ?_
      obtain ⟨v1, e_v1, h⟩ := mw_bind h
      refine mw_getR F hK hI (in_0 _) (hc_0) 0 (by decide) (mA k_42) rfl e_v1 d_K_changedBytes_61 ?_
      obtain ⟨v2, e_v2, h⟩ := mw_bind h
      refine mw_getR F hK hI (in_2 _) (hc_2) 1 (by decide) (mA k_167) rfl e_v2 d_K_changedBytes_64 ?_
      refine mt_aload_n F hl 1 rfl rfl d_K_changedBytes_67 ?_
      obtain ⟨v3, e_v3, h⟩ := mw_bind h
      refine mw_getR F hK hI (in_2 _) (hc_2) 1 (by decide) (mA k_167) rfl e_v3 d_K_changedBytes_68 ?_
      obtain ⟨b4, e_b4, h⟩ := mw_bind h
      obtain ⟨o5, e_o5, h⟩ := mw_bind h
      refine mw_calli hI (mw_runV F hK hI (c_S_namesChangedFrom l D dA A _ _ _ _ e_o5) (cwV 1 F.2.2.2.2 (gd_V k_181 k_182 k_183 k_184 k_33) rfl rfl rfl hd_S_namesChangedFrom ⟨Nat.le_of_ble_eq_true rfl, Nat.le_of_ble_eq_true rfl⟩) (hc_1) e_b4 rfl hl.1 rfl (by simp [mw_cat, mw_cI, mw_cL]) d_K_changedBytes_71 ⟨(Nat.le_of_ble_eq_true rfl), (Nat.le_of_ble_eq_true rfl)⟩) (fun H locs hI => ?_)
      refine lv_imul F.1 F.2.1 d_K_changedBytes_74 ?_
      refine lv_iadd F.1 F.2.1 d_K_changedBytes_75 ?_
      exact mw_iret F hI hr hlk h (Nat.le_of_ble_eq_true rfl) (Nat.le_of_ble_eq_true rfl) d_K_changedBytes_76
    · rw [if_neg hc] at h
      refine mt_aload_n F hl 0 rfl rfl d_K_changedBytes_15 ?_
      obtain ⟨v6, e_v6, h⟩ := mw_bind h
      refine mw_getR F hK hI (in_0 _) (hc_0) 0 (by decide) (mA k_42) rfl e_v6 d_K_changedBytes_16 ?_
      obtain ⟨v7, e_v7, h⟩ := mw_bind h
      refine mw_getR F hK hI (in_2 _) (hc_2) 0 (by decide) (mA k_62) rfl e_v7 d_K_changedBytes_19 ?_
      refine mt_iload_n F hl 3 rfl rfl d_K_changedBytes_22 ?_
      obtain ⟨v8, e_v8, h⟩ := mw_bind h
      refine mw_aald F hK hI (t0 := 3) rfl e_v8 d_K_changedBytes_23 ?_
      refine mt_astore F hl (Nat.le_of_ble_eq_true rfl) rfl d_K_changedBytes_24 (fun ls hl => ?_)
      have hl : mt_L ls 5 [(4, (.inr (.inr v8))), (0, (.inr (.inr (some b0)))), (1, (.inr (.inr r1))), (2, (.inl x2)), (3, (.inl x3))] := hl
      refine mt_aload F hl 0 rfl d_K_changedBytes_26 ?_
      refine mw_ifnull (tgt := 48) F d_K_changedBytes_28 (by decide) (fun hc => ?_) (fun hc => ?_)
      · rw [if_pos hc] at h
        refine mt_iinc (v := (x3 + 1)) F hl 4 rfl (by rw [show Int32.ofInt 1 = (1 : Int32) from by decide]) (Nat.le_of_ble_eq_true rfl) rfl d_K_changedBytes_48 (fun ls hl => ?_)
        have hl : mt_L ls 5 [(3, (.inl (x3 + 1))), (4, (.inr (.inr v8))), (0, (.inr (.inr (some b0)))), (1, (.inr (.inr r1))), (2, (.inl x2))] := hl
        refine lv_goto (tgt := 9) F.1 F.2.1 d_K_changedBytes_51 (by decide) ?_
        refine W.widen (k := 0) (n := 0) (Nat.le_of_ble_eq_true rfl) (Nat.le_of_ble_eq_true rfl) ?_
        exact ih _ _ _ _ _ _ _ hI (mt_sub hl [2, 3, 4, 0] rfl) h
      · rw [if_neg hc] at h
        refine mt_aload F hl 0 rfl d_K_changedBytes_31 ?_
        refine mt_aload_n F hl 2 rfl rfl d_K_changedBytes_33 ?_
        obtain ⟨v9, e_v9, h⟩ := mw_bind h
        refine mw_getR F hK hI (in_2 _) (hc_2) 0 (by decide) (mA k_62) rfl e_v9 d_K_changedBytes_34 ?_
        refine mt_iload_n F hl 4 rfl rfl d_K_changedBytes_37 ?_
        obtain ⟨v10, e_v10, h⟩ := mw_bind h
        refine mw_aald F hK hI (t0 := 3) rfl e_v10 d_K_changedBytes_38 ?_
        obtain ⟨b11, e_b11, h⟩ := mw_bind h
        obtain ⟨o12, e_o12, h⟩ := mw_bind h
        refine mw_calli hI (mw_runV F hK hI (c_S_sameAs l D dA A _ _ _ _ e_o12) (cwV 1 F.2.2.2.2 (gd_V k_185 k_186 k_187 k_188 k_33) rfl rfl rfl hd_S_sameAs ⟨Nat.le_of_ble_eq_true rfl, Nat.le_of_ble_eq_true rfl⟩) (hc_1) e_b11 rfl hl.1 rfl (Nat.zero_le _) d_K_changedBytes_39 ⟨(Nat.le_of_ble_eq_true rfl), (Nat.le_of_ble_eq_true rfl)⟩) (fun H locs hI => ?_)
        refine lv_if_ne (tgt := 48) F.1 F.2.1 d_K_changedBytes_42 (by decide) (fun hc => ?_) (fun hc => ?_)
        · rw [if_neg hc] at h
          refine mt_iinc (v := (x3 + 1)) F hl 4 rfl (by rw [show Int32.ofInt 1 = (1 : Int32) from by decide]) (Nat.le_of_ble_eq_true rfl) rfl d_K_changedBytes_48 (fun ls hl => ?_)
          have hl : mt_L ls 5 [(3, (.inl (x3 + 1))), (4, (.inr (.inr v8))), (0, (.inr (.inr (some b0)))), (1, (.inr (.inr r1))), (2, (.inl x2))] := hl
          refine lv_goto (tgt := 9) F.1 F.2.1 d_K_changedBytes_51 (by decide) ?_
          refine W.widen (k := 0) (n := 0) (Nat.le_of_ble_eq_true rfl) (Nat.le_of_ble_eq_true rfl) ?_
          exact ih _ _ _ _ _ _ _ hI (mt_sub hl [2, 3, 4, 0] rfl) h
        · rw [if_pos hc] at h
          refine mt_iinc (v := (x2 + 1)) F hl 3 rfl (by rw [show Int32.ofInt 1 = (1 : Int32) from by decide]) (Nat.le_of_ble_eq_true rfl) rfl d_K_changedBytes_45 (fun ls hl => ?_)
          have hl : mt_L ls 5 [(2, (.inl (x2 + 1))), (4, (.inr (.inr v8))), (0, (.inr (.inr (some b0)))), (1, (.inr (.inr r1))), (3, (.inl x3))] := hl
          refine mt_iinc (v := (x3 + 1)) F hl 4 rfl (by rw [show Int32.ofInt 1 = (1 : Int32) from by decide]) (Nat.le_of_ble_eq_true rfl) rfl d_K_changedBytes_48 (fun ls hl => ?_)
          have hl : mt_L ls 5 [(3, (.inl (x3 + 1))), (2, (.inl (x2 + 1))), (4, (.inr (.inr v8))), (0, (.inr (.inr (some b0)))), (1, (.inr (.inr r1)))] := hl
          refine lv_goto (tgt := 9) F.1 F.2.1 d_K_changedBytes_51 (by decide) ?_
          refine W.widen (k := 0) (n := 0) (Nat.le_of_ble_eq_true rfl) (Nat.le_of_ble_eq_true rfl) ?_
          exact ih _ _ _ _ _ _ _ hI (mt_sub hl [3, 4, 1, 0] rfl) h
set_option maxHeartbeats 4000000 in
set_option maxRecDepth 100000 in
theorem c_K_changedBytes (l : Launch) (D : va_G) (dA : Nat → ClassId) (A : Nat → Prop) (b0 : Nat) (S : mc_S) (out : (Int32 × mc_S)) (hf : f_K_changedBytes b0 S = some out) : Met l y_K_changedBytes (cd_K_changedBytes :: ALL) rm_K_changedBytes (va_Pc [va_rf (some b0)] (mw_B D dA CL (TY dA) ZZ A S)) (va_Qi (fun x (_ : Unit) => x = out.1) (fun _ t => mw_R D dA CL A out.2 t) A) 0 0 A := by
  refine mw_ofW (cc := b_K_changedBytes) (maxL := 5) (ret := (some .int)) [(.inr (.inr (some b0)))] rfl (by decide +kernel) (Nat.le_of_ble_eq_true rfl) (L := [(0, (.inr (.inr (some b0))))]) rfl (fun p e s m args below meth c F hr hlk hnm hK ls hl hI => ?_)
  have h := hf
  unfold f_K_changedBytes at h
  refine mt_aload_n F hl 0 rfl rfl d_K_changedBytes_0 ?_
  obtain ⟨b1, e_b1, h⟩ := mw_bind h
  obtain ⟨o2, e_o2, h⟩ := mw_bind h
  refine mw_callq hI (mw_runV F hK hI (c_K_kept l D dA A _ _ _ e_o2) (cwV 0 F.2.2.2.2 (gd_V k_89 k_90 k_91 k_92 k_78) rfl rfl rfl hd_K_kept ⟨Nat.le_of_ble_eq_true rfl, Nat.le_of_ble_eq_true rfl⟩) (hc_0) e_b1 rfl hl.1 rfl (Nat.zero_le _) d_K_changedBytes_1 ⟨(Nat.le_of_ble_eq_true rfl), (Nat.le_of_ble_eq_true rfl)⟩) (fun H locs hI => ?_)
  refine mt_astore_n F hl rfl (Nat.le_of_ble_eq_true rfl) rfl d_K_changedBytes_4 (fun ls hl => ?_)
  have hl : mt_L ls 5 [(1, (.inr (.inr o2.1))), (0, (.inr (.inr (some b0))))] := hl
  refine lv_iconst (v := 0) F.1 F.2.1 d_K_changedBytes_5 (by decide) ?_
  refine mt_istore_n F hl rfl (Nat.le_of_ble_eq_true rfl) rfl d_K_changedBytes_6 (fun ls hl => ?_)
  have hl : mt_L ls 5 [(2, (.inl 0)), (1, (.inr (.inr o2.1))), (0, (.inr (.inr (some b0))))] := hl
  refine lv_iconst (v := 0) F.1 F.2.1 d_K_changedBytes_7 (by decide) ?_
  refine mt_istore_n F hl rfl (Nat.le_of_ble_eq_true rfl) rfl d_K_changedBytes_8 (fun ls hl => ?_)
  have hl : mt_L ls 5 [(3, (.inl 0)), (2, (.inl 0)), (1, (.inr (.inr o2.1))), (0, (.inr (.inr (some b0))))] := hl
  refine W.widen (k := 0) (n := 0) (Nat.le_of_ble_eq_true rfl) (Nat.le_of_ble_eq_true rfl) ?_
  exact (s_K_changedBytes l D dA A b0 F hr hlk hnm hK out 5000) _ _ _ _ _ _ _ hI (mt_sub hl [3, 2, 1, 0] rfl) h
abbrev rm_T_become : Room := { frames := 0, cells := 0, slots := 0, locals := 0 }
set_option maxHeartbeats 4000000 in
set_option maxRecDepth 100000 in
theorem s_T_become (l : Launch) (D : va_G) (dA : Nat → ClassId) (A : Nat → Prop) (b0 : Nat) {p : Program} {e : Env} {s : State} {m : MethodId} {args : Array Value} {below : List Frame} {meth : Method} {c : Code} (F : CallFix p m c b_T_become 3 s args (cd_T_become :: ALL) y_T_become.cls) (hr : meth.sig.returnType = none) (hlk : meth.locks = false) (hnm : meth.name = y_T_become.name) (hK : mw_K D CL (TY dA) ZZ s) (out : mc_S) : ∀ n : Nat, (∀ (r1 : Option Nat) (x2 : Int32) (S : mc_S) (H : Heap) (locs : List Loc) (ls : Array Slot), mw_I D dA CL A S s.heap H locs → mt_L ls 3 [(0, (.inr (.inr (some b0)))), (1, (.inr (.inr r1))), (2, (.inl x2))] → g_T_become b0 n r1 x2 S = some out → W p l e rm_T_become s m args below meth c H locs (0) (0) (MQ below (va_Qv (fun (_ : Unit) => True) (fun _ t => mw_R D dA CL A out t) A) args s 0 0 A) (F0 m 2 ls [])) := by
  intro n
  induction n with
  | zero =>
    intro r1 x2 S H locs ls hI hl h; have h : (none : Option mc_S) = some out := h; cases h
  | succ k0 ih =>
    intro r1 x2 S H locs ls hI hl h
    have h : q_T_become_0 b0 (g_T_become b0 k0) r1 x2 S = some out := h
    unfold q_T_become_0 at h
    refine mt_iload_n F hl 2 rfl rfl d_T_become_2 ?_
    refine lv_bipush (v := 100) F.1 F.2.1 d_T_become_3 (by decide) ?_
    refine lv_icmp_ge (tgt := 26) F.1 F.2.1 d_T_become_5 (by decide) (fun hc => ?_) (fun hc => ?_)
    · rw [if_pos hc] at h
      refine mt_aload_n F hl 0 rfl rfl d_T_become_26 ?_
      refine mt_aload_n F hl 1 rfl rfl d_T_become_27 ?_
      obtain ⟨v1, e_v1, h⟩ := mw_bind h
      refine mw_getR F hK hI (in_2 _) (hc_2) 1 (by decide) (mA k_17) rfl e_v1 d_T_become_28 ?_
      obtain ⟨S2, e_S2, h⟩ := mw_bind h
      refine mw_put F hK hI (in_2 _) ty_2 ok_2 nm_2 (hc_2) 1 (by decide) (mA k_17) rfl rfl (mw_narO _ _) (mw_fitO _ _) e_S2 d_T_become_31 (fun H locs hI => ?_)
      exact mw_vret F hI hr hlk h (Nat.le_of_ble_eq_true rfl) (Nat.le_of_ble_eq_true rfl) d_T_become_34
    · rw [if_neg hc] at h
      refine mt_aload_n F hl 0 rfl rfl d_T_become_8 ?_
      obtain ⟨v3, e_v3, h⟩ := mw_bind h
      refine mw_getR F hK hI (in_2 _) (hc_2) 0 (by decide) (mA k_16) rfl e_v3 d_T_become_9 ?_
      refine mt_iload_n F hl 2 rfl rfl d_T_become_12 ?_
      refine mt_aload_n F hl 1 rfl rfl d_T_become_13 ?_
      obtain ⟨v4, e_v4, h⟩ := mw_bind h
      refine mw_getR F hK hI (in_2 _) (hc_2) 0 (by decide) (mA k_16) rfl e_v4 d_T_become_14 ?_
      refine mt_iload_n F hl 2 rfl rfl d_T_become_17 ?_
      obtain ⟨v5, e_v5, h⟩ := mw_bind h
      refine mw_aald F hK hI (t0 := 3) rfl e_v5 d_T_become_18 ?_
      obtain ⟨S6, e_S6, h⟩ := mw_bind h
      refine mw_aast F hK hI (t0 := 3) (ci := 1) (q0 := cq_1) rfl rfl e_S6 d_T_become_19 (fun H locs hI => ?_)
      refine mt_iinc (v := (x2 + 1)) F hl 2 rfl (by rw [show Int32.ofInt 1 = (1 : Int32) from by decide]) (Nat.le_of_ble_eq_true rfl) rfl d_T_become_20 (fun ls hl => ?_)
      have hl : mt_L ls 3 [(2, (.inl (x2 + 1))), (0, (.inr (.inr (some b0)))), (1, (.inr (.inr r1)))] := hl
      refine lv_goto (tgt := 2) F.1 F.2.1 d_T_become_23 (by decide) ?_
      refine W.widen (k := 0) (n := 0) (Nat.le_of_ble_eq_true rfl) (Nat.le_of_ble_eq_true rfl) ?_
      exact ih _ _ _ _ _ _ hI (mt_sub hl [1, 2, 0] rfl) h
set_option maxHeartbeats 4000000 in
set_option maxRecDepth 100000 in
theorem c_T_become (l : Launch) (D : va_G) (dA : Nat → ClassId) (A : Nat → Prop) (b0 : Nat) (a1 : Option Nat) (S : mc_S) (out : mc_S) (hf : f_T_become b0 a1 S = some out) : Met l y_T_become (cd_T_become :: ALL) rm_T_become (va_Pc [va_rf (some b0), va_rf a1] (mw_B D dA CL (TY dA) ZZ A S)) (va_Qv (fun (_ : Unit) => True) (fun _ t => mw_R D dA CL A out t) A) 0 0 A := by
  refine mw_ofW (cc := b_T_become) (maxL := 3) (ret := none) [(.inr (.inr (some b0))), (.inr (.inr a1))] rfl (by decide +kernel) (Nat.le_of_ble_eq_true rfl) (L := [(0, (.inr (.inr (some b0)))), (1, (.inr (.inr a1)))]) rfl (fun p e s m args below meth c F hr hlk hnm hK ls hl hI => ?_)
  have h := hf
  unfold f_T_become at h
  refine lv_iconst (v := 0) F.1 F.2.1 d_T_become_0 (by decide) ?_
  refine mt_istore_n F hl rfl (Nat.le_of_ble_eq_true rfl) rfl d_T_become_1 (fun ls hl => ?_)
  have hl : mt_L ls 3 [(2, (.inl 0)), (0, (.inr (.inr (some b0)))), (1, (.inr (.inr a1)))] := hl
  refine W.widen (k := 0) (n := 0) (Nat.le_of_ble_eq_true rfl) (Nat.le_of_ble_eq_true rfl) ?_
  exact (s_T_become l D dA A b0 F hr hlk hnm hK out 5000) _ _ _ _ _ _ hI (mt_sub hl [1, 2, 0] rfl) h
abbrev rm_K_keepNow : Room := { frames := 1, cells := 0, slots := 0, locals := 22 }
set_option maxHeartbeats 4000000 in
set_option maxRecDepth 100000 in
theorem c_K_keepNow (l : Launch) (D : va_G) (dA : Nat → ClassId) (A : Nat → Prop) (b0 : Nat) (a1 : Int32) (S : mc_S) (out : mc_S) (hf : f_K_keepNow b0 a1 S = some out) : Met l y_K_keepNow (cd_K_keepNow :: ALL) rm_K_keepNow (va_Pc [va_rf (some b0), .int a1] (mw_B D dA CL (TY dA) ZZ A S)) (va_Qv (fun (_ : Unit) => True) (fun _ t => mw_R D dA CL A out t) A) 0 0 A := by
  refine mw_ofW (cc := b_K_keepNow) (maxL := 3) (ret := none) [(.inr (.inr (some b0))), (.inl a1)] rfl (by decide +kernel) (Nat.le_of_ble_eq_true rfl) (L := [(0, (.inr (.inr (some b0)))), (1, (.inl a1))]) rfl (fun p e s m args below meth c F hr hlk hnm hK ls hl hI => ?_)
  have h := hf
  unfold f_K_keepNow at h
  refine mt_aload_n F hl 0 rfl rfl d_K_keepNow_0 ?_
  obtain ⟨v1, e_v1, h⟩ := mw_bind h
  refine mw_getI F hK hI (in_0 _) (hc_0) 5 (by decide) (mA k_29) rfl e_v1 d_K_keepNow_1 ?_
  refine lv_bipush (v := 8) F.1 F.2.1 d_K_keepNow_4 (by decide) ?_
  refine lv_icmp_ne (tgt := 21) F.1 F.2.1 d_K_keepNow_6 (by decide) (fun hc => ?_) (fun hc => ?_)
  · rw [if_neg hc] at h
    refine mt_aload_n F hl 0 rfl rfl d_K_keepNow_21 ?_
    refine lv_dup F.1 F.2.1 d_K_keepNow_22 (mw_cat _) ?_
    obtain ⟨v2, e_v2, h⟩ := mw_bind h
    refine mw_getI F hK hI (in_0 _) (hc_0) 5 (by decide) (mA k_29) rfl e_v2 d_K_keepNow_23 ?_
    refine lv_iconst (v := 1) F.1 F.2.1 d_K_keepNow_26 (by decide) ?_
    refine lv_iadd F.1 F.2.1 d_K_keepNow_27 ?_
    obtain ⟨S3, e_S3, h⟩ := mw_bind h
    refine mw_put F hK hI (in_0 _) ty_0 ok_0 nm_0 (hc_0) 5 (by decide) (mA k_29) rfl rfl rfl rfl e_S3 d_K_keepNow_28 (fun H locs hI => ?_)
    refine mt_aload_n F hl 0 rfl rfl d_K_keepNow_31 ?_
    refine mt_aload_n F hl 0 rfl rfl d_K_keepNow_32 ?_
    obtain ⟨v4, e_v4, h⟩ := mw_bind h
    refine mw_getI F hK hI (in_0 _) (hc_0) 5 (by decide) (mA k_29) rfl e_v4 d_K_keepNow_33 ?_
    obtain ⟨b5, e_b5, h⟩ := mw_bind h
    obtain ⟨o6, e_o6, h⟩ := mw_bind h
    refine mw_calli hI (mw_runV F hK hI (c_K_ringIndex l D dA A _ _ _ _ e_o6) (cwV 1 F.2.2.2.2 (gd_V k_74 k_75 k_76 k_77 k_78) rfl rfl rfl hd_K_ringIndex ⟨Nat.le_of_ble_eq_true rfl, Nat.le_of_ble_eq_true rfl⟩) (hc_0) e_b5 rfl hl.1 rfl (Nat.zero_le _) d_K_keepNow_36 ⟨(Nat.le_of_ble_eq_true rfl), (Nat.le_of_ble_eq_true rfl)⟩) (fun H locs hI => ?_)
    refine mt_istore_n F hl rfl (Nat.le_of_ble_eq_true rfl) rfl d_K_keepNow_39 (fun ls hl => ?_)
    have hl : mt_L ls 3 [(2, (.inl o6.1)), (0, (.inr (.inr (some b0)))), (1, (.inl a1))] := hl
    refine mt_aload_n F hl 1 rfl rfl d_K_keepNow_40 ?_
    obtain ⟨v7, e_v7, h⟩ := mw_bind h
    refine mw_getR F hK hI (in_0 _) (hc_0) 1 (by decide) (mA k_20) rfl e_v7 d_K_keepNow_41 ?_
    refine mt_iload_n F hl 0 rfl rfl d_K_keepNow_44 ?_
    obtain ⟨v8, e_v8, h⟩ := mw_bind h
    refine mw_aald F hK hI (t0 := 4) rfl e_v8 d_K_keepNow_45 ?_
    refine mt_aload_n F hl 1 rfl rfl d_K_keepNow_46 ?_
    obtain ⟨v9, e_v9, h⟩ := mw_bind h
    refine mw_getR F hK hI (in_0 _) (hc_0) 0 (by decide) (mA k_42) rfl e_v9 d_K_keepNow_47 ?_
    obtain ⟨b10, e_b10, h⟩ := mw_bind h
    obtain ⟨S11, e_S11, h⟩ := mw_bind h
    refine mw_callv hI (mw_runV F hK hI (c_T_become l D dA A _ _ _ _ e_S11) (cwV 1 F.2.2.2.2 (gd_V k_189 k_190 k_191 k_192 k_38) rfl rfl rfl hd_T_become ⟨Nat.le_of_ble_eq_true rfl, Nat.le_of_ble_eq_true rfl⟩) (hc_2) e_b10 rfl hl.1 rfl (Nat.zero_le _) d_K_keepNow_50 ⟨(Nat.le_of_ble_eq_true rfl), (Nat.le_of_ble_eq_true rfl)⟩) (fun H locs hI => ?_)
    refine mt_aload_n F hl 1 rfl rfl d_K_keepNow_53 ?_
    obtain ⟨v12, e_v12, h⟩ := mw_bind h
    refine mw_getR F hK hI (in_0 _) (hc_0) 2 (by decide) (mA k_21) rfl e_v12 d_K_keepNow_54 ?_
    refine mt_iload_n F hl 0 rfl rfl d_K_keepNow_57 ?_
    refine mt_iload_n F hl 2 rfl rfl d_K_keepNow_58 ?_
    obtain ⟨S13, e_S13, h⟩ := mw_bind h
    refine mw_iast F hK hI (t0 := 0) rfl e_S13 d_K_keepNow_59 (fun H locs hI => ?_)
    refine mt_aload_n F hl 1 rfl rfl d_K_keepNow_60 ?_
    refine lv_dup F.1 F.2.1 d_K_keepNow_61 (mw_cat _) ?_
    obtain ⟨v14, e_v14, h⟩ := mw_bind h
    refine mw_getI F hK hI (in_0 _) (hc_0) 6 (by decide) (mA k_30) rfl e_v14 d_K_keepNow_62 ?_
    refine mt_iload_n F hl 2 rfl rfl d_K_keepNow_65 ?_
    refine lv_iadd F.1 F.2.1 d_K_keepNow_66 ?_
    obtain ⟨S15, e_S15, h⟩ := mw_bind h
    refine mw_put F hK hI (in_0 _) ty_0 ok_0 nm_0 (hc_0) 6 (by decide) (mA k_30) rfl rfl rfl rfl e_S15 d_K_keepNow_67 (fun H locs hI => ?_)
    exact mw_vret F hI hr hlk h (Nat.le_of_ble_eq_true rfl) (Nat.le_of_ble_eq_true rfl) d_K_keepNow_70
  · rw [if_pos hc] at h
    refine mt_aload_n F hl 0 rfl rfl d_K_keepNow_9 ?_
    refine mt_aload_n F hl 0 rfl rfl d_K_keepNow_10 ?_
    refine lv_iconst (v := 1) F.1 F.2.1 d_K_keepNow_11 (by decide) ?_
    obtain ⟨b16, e_b16, h⟩ := mw_bind h
    obtain ⟨o17, e_o17, h⟩ := mw_bind h
    refine mw_calli hI (mw_runV F hK hI (c_K_ringIndex l D dA A _ _ _ _ e_o17) (cwV 1 F.2.2.2.2 (gd_V k_74 k_75 k_76 k_77 k_78) rfl rfl rfl hd_K_ringIndex ⟨Nat.le_of_ble_eq_true rfl, Nat.le_of_ble_eq_true rfl⟩) (hc_0) e_b16 rfl hl.1 rfl (by simp [mw_cat, mw_cI, mw_cL]) d_K_keepNow_12 ⟨(Nat.le_of_ble_eq_true rfl), (Nat.le_of_ble_eq_true rfl)⟩) (fun H locs hI => ?_)
    obtain ⟨S18, e_S18, h⟩ := mw_bind h
    refine mw_put F hK hI (in_0 _) ty_0 ok_0 nm_0 (hc_0) 4 (by decide) (mA k_28) rfl rfl rfl rfl e_S18 d_K_keepNow_15 (fun H locs hI => ?_)
    refine lv_goto (tgt := 31) F.1 F.2.1 d_K_keepNow_18 (by decide) ?_
    refine mt_aload_n F hl 0 rfl rfl d_K_keepNow_31 ?_
    refine mt_aload_n F hl 0 rfl rfl d_K_keepNow_32 ?_
    obtain ⟨v19, e_v19, h⟩ := mw_bind h
    refine mw_getI F hK hI (in_0 _) (hc_0) 5 (by decide) (mA k_29) rfl e_v19 d_K_keepNow_33 ?_
    obtain ⟨b20, e_b20, h⟩ := mw_bind h
    obtain ⟨o21, e_o21, h⟩ := mw_bind h
    refine mw_calli hI (mw_runV F hK hI (c_K_ringIndex l D dA A _ _ _ _ e_o21) (cwV 1 F.2.2.2.2 (gd_V k_74 k_75 k_76 k_77 k_78) rfl rfl rfl hd_K_ringIndex ⟨Nat.le_of_ble_eq_true rfl, Nat.le_of_ble_eq_true rfl⟩) (hc_0) e_b20 rfl hl.1 rfl (Nat.zero_le _) d_K_keepNow_36 ⟨(Nat.le_of_ble_eq_true rfl), (Nat.le_of_ble_eq_true rfl)⟩) (fun H locs hI => ?_)
    refine mt_istore_n F hl rfl (Nat.le_of_ble_eq_true rfl) rfl d_K_keepNow_39 (fun ls hl => ?_)
    have hl : mt_L ls 3 [(2, (.inl o21.1)), (0, (.inr (.inr (some b0)))), (1, (.inl a1))] := hl
    refine mt_aload_n F hl 1 rfl rfl d_K_keepNow_40 ?_
    obtain ⟨v22, e_v22, h⟩ := mw_bind h
    refine mw_getR F hK hI (in_0 _) (hc_0) 1 (by decide) (mA k_20) rfl e_v22 d_K_keepNow_41 ?_
    refine mt_iload_n F hl 0 rfl rfl d_K_keepNow_44 ?_
    obtain ⟨v23, e_v23, h⟩ := mw_bind h
    refine mw_aald F hK hI (t0 := 4) rfl e_v23 d_K_keepNow_45 ?_
    refine mt_aload_n F hl 1 rfl rfl d_K_keepNow_46 ?_
    obtain ⟨v24, e_v24, h⟩ := mw_bind h
    refine mw_getR F hK hI (in_0 _) (hc_0) 0 (by decide) (mA k_42) rfl e_v24 d_K_keepNow_47 ?_
    obtain ⟨b25, e_b25, h⟩ := mw_bind h
    obtain ⟨S26, e_S26, h⟩ := mw_bind h
    refine mw_callv hI (mw_runV F hK hI (c_T_become l D dA A _ _ _ _ e_S26) (cwV 1 F.2.2.2.2 (gd_V k_189 k_190 k_191 k_192 k_38) rfl rfl rfl hd_T_become ⟨Nat.le_of_ble_eq_true rfl, Nat.le_of_ble_eq_true rfl⟩) (hc_2) e_b25 rfl hl.1 rfl (Nat.zero_le _) d_K_keepNow_50 ⟨(Nat.le_of_ble_eq_true rfl), (Nat.le_of_ble_eq_true rfl)⟩) (fun H locs hI => ?_)
    refine mt_aload_n F hl 1 rfl rfl d_K_keepNow_53 ?_
    obtain ⟨v27, e_v27, h⟩ := mw_bind h
    refine mw_getR F hK hI (in_0 _) (hc_0) 2 (by decide) (mA k_21) rfl e_v27 d_K_keepNow_54 ?_
    refine mt_iload_n F hl 0 rfl rfl d_K_keepNow_57 ?_
    refine mt_iload_n F hl 2 rfl rfl d_K_keepNow_58 ?_
    obtain ⟨S28, e_S28, h⟩ := mw_bind h
    refine mw_iast F hK hI (t0 := 0) rfl e_S28 d_K_keepNow_59 (fun H locs hI => ?_)
    refine mt_aload_n F hl 1 rfl rfl d_K_keepNow_60 ?_
    refine lv_dup F.1 F.2.1 d_K_keepNow_61 (mw_cat _) ?_
    obtain ⟨v29, e_v29, h⟩ := mw_bind h
    refine mw_getI F hK hI (in_0 _) (hc_0) 6 (by decide) (mA k_30) rfl e_v29 d_K_keepNow_62 ?_
    refine mt_iload_n F hl 2 rfl rfl d_K_keepNow_65 ?_
    refine lv_iadd F.1 F.2.1 d_K_keepNow_66 ?_
    obtain ⟨S30, e_S30, h⟩ := mw_bind h
    refine mw_put F hK hI (in_0 _) ty_0 ok_0 nm_0 (hc_0) 6 (by decide) (mA k_30) rfl rfl rfl rfl e_S30 d_K_keepNow_67 (fun H locs hI => ?_)
    exact mw_vret F hI hr hlk h (Nat.le_of_ble_eq_true rfl) (Nat.le_of_ble_eq_true rfl) d_K_keepNow_70
abbrev rm_K_commit : Room := { frames := 4, cells := 0, slots := 0, locals := 91 }
set_option maxHeartbeats 4000000 in
set_option maxRecDepth 100000 in
theorem c_K_commit (l : Launch) (D : va_G) (dA : Nat → ClassId) (A : Nat → Prop) (b0 : Nat) (S : mc_S) (out : (Int32 × mc_S)) (hf : f_K_commit b0 S = some out) : Met l y_K_commit (cd_K_commit :: ALL) rm_K_commit (va_Pc [va_rf (some b0)] (mw_B D dA CL (TY dA) ZZ A S)) (va_Qi (fun x (_ : Unit) => x = out.1) (fun _ t => mw_R D dA CL A out.2 t) A) 0 0 A := by
  refine mw_ofW (cc := b_K_commit) (maxL := 2) (ret := (some .int)) [(.inr (.inr (some b0)))] rfl (by decide +kernel) (Nat.le_of_ble_eq_true rfl) (L := [(0, (.inr (.inr (some b0))))]) rfl (fun p e s m args below meth c F hr hlk hnm hK ls hl hI => ?_)
  have h := hf
  unfold f_K_commit at h
  refine lv_bipush (v := 8) F.1 F.2.1 d_K_commit_0 (by decide) ?_
  refine mt_aload_n F hl 0 rfl rfl d_K_commit_2 ?_
  obtain ⟨b1, e_b1, h⟩ := mw_bind h
  obtain ⟨o2, e_o2, h⟩ := mw_bind h
  refine mw_calli hI (mw_runV F hK hI (c_K_changedBytes l D dA A _ _ _ e_o2) (cwV 0 F.2.2.2.2 (gd_V k_193 k_194 k_195 k_196 k_78) rfl rfl rfl hd_K_changedBytes ⟨Nat.le_of_ble_eq_true rfl, Nat.le_of_ble_eq_true rfl⟩) (hc_0) e_b1 rfl hl.1 rfl (by simp [mw_cat, mw_cI, mw_cL]) d_K_commit_3 ⟨(Nat.le_of_ble_eq_true rfl), (Nat.le_of_ble_eq_true rfl)⟩) (fun H locs hI => ?_)
  refine lv_iadd F.1 F.2.1 d_K_commit_6 ?_
  refine mt_istore_n F hl rfl (Nat.le_of_ble_eq_true rfl) rfl d_K_commit_7 (fun ls hl => ?_)
  have hl : mt_L ls 2 [(1, (.inl (8 + o2.1))), (0, (.inr (.inr (some b0))))] := hl
  refine mt_aload_n F hl 1 rfl rfl d_K_commit_8 ?_
  refine mt_iload_n F hl 0 rfl rfl d_K_commit_9 ?_
  obtain ⟨b3, e_b3, h⟩ := mw_bind h
  obtain ⟨S4, e_S4, h⟩ := mw_bind h
  refine mw_callv hI (mw_runV F hK hI (c_K_keepNow l D dA A _ _ _ _ e_S4) (cwV 1 F.2.2.2.2 (gd_V k_197 k_198 k_199 k_200 k_78) rfl rfl rfl hd_K_keepNow ⟨Nat.le_of_ble_eq_true rfl, Nat.le_of_ble_eq_true rfl⟩) (hc_0) e_b3 rfl hl.1 rfl (Nat.zero_le _) d_K_commit_10 ⟨(Nat.le_of_ble_eq_true rfl), (Nat.le_of_ble_eq_true rfl)⟩) (fun H locs hI => ?_)
  refine mt_iload_n F hl 0 rfl rfl d_K_commit_13 ?_
  exact mw_iret F hI hr hlk h (Nat.le_of_ble_eq_true rfl) (Nat.le_of_ble_eq_true rfl) d_K_commit_14
abbrev rm_N_isSame : Room := { frames := 0, cells := 0, slots := 0, locals := 0 }
set_option maxHeartbeats 4000000 in
set_option maxRecDepth 100000 in
theorem s_N_isSame (l : Launch) (D : va_G) (dA : Nat → ClassId) (A : Nat → Prop) (b0 : Nat) {p : Program} {e : Env} {s : State} {m : MethodId} {args : Array Value} {below : List Frame} {meth : Method} {c : Code} (F : CallFix p m c b_N_isSame 4 s args (cd_N_isSame :: ALL) y_N_isSame.cls) (hr : meth.sig.returnType = (some .boolean)) (hlk : meth.locks = false) (hnm : meth.name = y_N_isSame.name) (hK : mw_K D CL (TY dA) ZZ s) (out : (Int32 × mc_S)) : ∀ n : Nat, (∀ (x1 : Int32) (r2 : Option Nat) (x3 : Int32) (S : mc_S) (H : Heap) (locs : List Loc) (ls : Array Slot), mw_I D dA CL A S s.heap H locs → mt_L ls 4 [(0, (.inr (.inr (some b0)))), (1, (.inl x1)), (2, (.inr (.inr r2))), (3, (.inl x3))] → g_N_isSame b0 n x1 r2 x3 S = some out → W p l e rm_N_isSame s m args below meth c H locs (0) (0) (MQ below (va_Qi (fun x (_ : Unit) => x = out.1) (fun _ t => mw_R D dA CL A out.2 t) A) args s 0 0 A) (F0 m 34 ls [])) := by
  intro n
  induction n with
  | zero =>
    intro x1 r2 x3 S H locs ls hI hl h; have h : (none : Option (Int32 × mc_S)) = some out := h; cases h
  | succ k0 ih =>
    intro x1 r2 x3 S H locs ls hI hl h
    have h : q_N_isSame_0 b0 (g_N_isSame b0 k0) x1 r2 x3 S = some out := h
    unfold q_N_isSame_0 at h
    refine mt_iload_n F hl 3 rfl rfl d_N_isSame_34 ?_
    refine mt_aload_n F hl 0 rfl rfl d_N_isSame_35 ?_
    obtain ⟨v1, e_v1, h⟩ := mw_bind h
    refine mw_getR F hK hI (in_5 _) (hc_5) 1 (by decide) (mA k_45) rfl e_v1 d_N_isSame_36 ?_
    refine mt_iload_n F hl 1 rfl rfl d_N_isSame_39 ?_
    obtain ⟨v2, e_v2, h⟩ := mw_bind h
    refine mw_iald F hK hI (t0 := 0) rfl e_v2 d_N_isSame_40 ?_
    refine lv_icmp_ge (tgt := 113) F.1 F.2.1 d_N_isSame_41 (by decide) (fun hc => ?_) (fun hc => ?_)
    · rw [if_pos hc] at h
      refine lv_iconst (v := 1) F.1 F.2.1 d_N_isSame_113 (by decide) ?_
      exact mw_zret F hI hr hlk rfl h (Nat.le_of_ble_eq_true rfl) (Nat.le_of_ble_eq_true rfl) d_N_isSame_114
    · rw [if_neg hc] at h
      refine mt_aload_n F hl 0 rfl rfl d_N_isSame_44 ?_
      obtain ⟨v3, e_v3, h⟩ := mw_bind h
      refine mw_getR F hK hI (in_5 _) (hc_5) 4 (by decide) (mA k_48) rfl e_v3 d_N_isSame_45 ?_
      refine lv_bipush (v := 20) F.1 F.2.1 d_N_isSame_48 (by decide) ?_
      refine mt_iload_n F hl 1 rfl rfl d_N_isSame_50 ?_
      refine lv_imul F.1 F.2.1 d_N_isSame_51 ?_
      refine mt_iload_n F hl 3 rfl rfl d_N_isSame_52 ?_
      refine lv_iadd F.1 F.2.1 d_N_isSame_53 ?_
      obtain ⟨v4, e_v4, h⟩ := mw_bind h
      refine mw_lald F hK hI (t0 := 1) rfl e_v4 d_N_isSame_54 ?_
      refine mt_aload_n F hl 2 rfl rfl d_N_isSame_55 ?_
      obtain ⟨v5, e_v5, h⟩ := mw_bind h
      refine mw_getR F hK hI (in_5 _) (hc_5) 4 (by decide) (mA k_48) rfl e_v5 d_N_isSame_56 ?_
      refine lv_bipush (v := 20) F.1 F.2.1 d_N_isSame_59 (by decide) ?_
      refine mt_iload_n F hl 1 rfl rfl d_N_isSame_61 ?_
      refine lv_imul F.1 F.2.1 d_N_isSame_62 ?_
      refine mt_iload_n F hl 3 rfl rfl d_N_isSame_63 ?_
      refine lv_iadd F.1 F.2.1 d_N_isSame_64 ?_
      obtain ⟨v6, e_v6, h⟩ := mw_bind h
      refine mw_lald F hK hI (t0 := 1) rfl e_v6 d_N_isSame_65 ?_
      refine W.lcmp F.1 F.2.1 d_N_isSame_66 ?_
      refine lv_if_ne (tgt := 105) F.1 F.2.1 d_N_isSame_67 (by decide) (fun hc => ?_) (fun hc => ?_)
      · rw [if_neg hc] at h
        refine lv_iconst (v := 0) F.1 F.2.1 d_N_isSame_105 (by decide) ?_
        exact mw_zret F hI hr hlk rfl h (Nat.le_of_ble_eq_true rfl) (Nat.le_of_ble_eq_true rfl) d_N_isSame_106
      · rw [if_pos hc] at h
        refine mt_aload_n F hl 0 rfl rfl d_N_isSame_70 ?_
        obtain ⟨v7, e_v7, h⟩ := mw_bind h
        refine mw_getR F hK hI (in_5 _) (hc_5) 0 (by decide) (mA k_44) rfl e_v7 d_N_isSame_71 ?_
        refine mt_iload_n F hl 1 rfl rfl d_N_isSame_74 ?_
        obtain ⟨v8, e_v8, h⟩ := mw_bind h
        refine mw_iald F hK hI (t0 := 0) rfl e_v8 d_N_isSame_75 ?_
        refine lv_iconst (v := 1) F.1 F.2.1 d_N_isSame_76 (by decide) ?_
        refine lv_icmp_ne (tgt := 107) F.1 F.2.1 d_N_isSame_77 (by decide) (fun hc => ?_) (fun hc => ?_)
        · rw [if_neg hc] at h
          refine mt_iinc (v := (x3 + 1)) F hl 3 rfl (by rw [show Int32.ofInt 1 = (1 : Int32) from by decide]) (Nat.le_of_ble_eq_true rfl) rfl d_N_isSame_107 (fun ls hl => ?_)
          have hl : mt_L ls 4 [(3, (.inl (x3 + 1))), (0, (.inr (.inr (some b0)))), (1, (.inl x1)), (2, (.inr (.inr r2)))] := hl
          refine lv_goto (tgt := 34) F.1 F.2.1 d_N_isSame_110 (by decide) ?_
          refine W.widen (k := 0) (n := 0) (Nat.le_of_ble_eq_true rfl) (Nat.le_of_ble_eq_true rfl) ?_
          exact ih _ _ _ _ _ _ _ hI (mt_sub hl [1, 2, 3, 0] rfl) h
        · rw [if_pos hc] at h
          refine mt_aload_n F hl 0 rfl rfl d_N_isSame_80 ?_
          obtain ⟨v9, e_v9, h⟩ := mw_bind h
          refine mw_getR F hK hI (in_5 _) (hc_5) 2 (by decide) (mA k_46) rfl e_v9 d_N_isSame_81 ?_
          refine lv_bipush (v := 8) F.1 F.2.1 d_N_isSame_84 (by decide) ?_
          refine mt_iload_n F hl 1 rfl rfl d_N_isSame_86 ?_
          refine lv_imul F.1 F.2.1 d_N_isSame_87 ?_
          refine mt_iload_n F hl 3 rfl rfl d_N_isSame_88 ?_
          refine lv_iadd F.1 F.2.1 d_N_isSame_89 ?_
          obtain ⟨v10, e_v10, h⟩ := mw_bind h
          refine mw_iald F hK hI (t0 := 0) rfl e_v10 d_N_isSame_90 ?_
          refine mt_aload_n F hl 2 rfl rfl d_N_isSame_91 ?_
          obtain ⟨v11, e_v11, h⟩ := mw_bind h
          refine mw_getR F hK hI (in_5 _) (hc_5) 2 (by decide) (mA k_46) rfl e_v11 d_N_isSame_92 ?_
          refine lv_bipush (v := 8) F.1 F.2.1 d_N_isSame_95 (by decide) ?_
          refine mt_iload_n F hl 1 rfl rfl d_N_isSame_97 ?_
          refine lv_imul F.1 F.2.1 d_N_isSame_98 ?_
          refine mt_iload_n F hl 3 rfl rfl d_N_isSame_99 ?_
          refine lv_iadd F.1 F.2.1 d_N_isSame_100 ?_
          obtain ⟨v12, e_v12, h⟩ := mw_bind h
          refine mw_iald F hK hI (t0 := 0) rfl e_v12 d_N_isSame_101 ?_
          refine lv_icmp_eq (tgt := 107) F.1 F.2.1 d_N_isSame_102 (by decide) (fun hc => ?_) (fun hc => ?_)
          · rw [if_pos hc] at h
            refine mt_iinc (v := (x3 + 1)) F hl 3 rfl (by rw [show Int32.ofInt 1 = (1 : Int32) from by decide]) (Nat.le_of_ble_eq_true rfl) rfl d_N_isSame_107 (fun ls hl => ?_)
            have hl : mt_L ls 4 [(3, (.inl (x3 + 1))), (0, (.inr (.inr (some b0)))), (1, (.inl x1)), (2, (.inr (.inr r2)))] := hl
            refine lv_goto (tgt := 34) F.1 F.2.1 d_N_isSame_110 (by decide) ?_
            refine W.widen (k := 0) (n := 0) (Nat.le_of_ble_eq_true rfl) (Nat.le_of_ble_eq_true rfl) ?_
            exact ih _ _ _ _ _ _ _ hI (mt_sub hl [1, 2, 3, 0] rfl) h
          · rw [if_neg hc] at h
            refine lv_iconst (v := 0) F.1 F.2.1 d_N_isSame_105 (by decide) ?_
            exact mw_zret F hI hr hlk rfl h (Nat.le_of_ble_eq_true rfl) (Nat.le_of_ble_eq_true rfl) d_N_isSame_106
set_option maxHeartbeats 4000000 in
set_option maxRecDepth 100000 in
theorem c_N_isSame (l : Launch) (D : va_G) (dA : Nat → ClassId) (A : Nat → Prop) (b0 : Nat) (a1 : Int32) (a2 : Option Nat) (S : mc_S) (out : (Int32 × mc_S)) (hf : f_N_isSame b0 a1 a2 S = some out) : Met l y_N_isSame (cd_N_isSame :: ALL) rm_N_isSame (va_Pc [va_rf (some b0), .int a1, va_rf a2] (mw_B D dA CL (TY dA) ZZ A S)) (va_Qi (fun x (_ : Unit) => x = out.1) (fun _ t => mw_R D dA CL A out.2 t) A) 0 0 A := by
  refine mw_ofW (cc := b_N_isSame) (maxL := 4) (ret := (some .boolean)) [(.inr (.inr (some b0))), (.inl a1), (.inr (.inr a2))] rfl (by decide +kernel) (Nat.le_of_ble_eq_true rfl) (L := [(0, (.inr (.inr (some b0)))), (1, (.inl a1)), (2, (.inr (.inr a2)))]) rfl (fun p e s m args below meth c F hr hlk hnm hK ls hl hI => ?_)
  have h := hf
  unfold f_N_isSame at h
  refine mt_aload_n F hl 0 rfl rfl d_N_isSame_0 ?_
  obtain ⟨v1, e_v1, h⟩ := mw_bind h
  refine mw_getR F hK hI (in_5 _) (hc_5) 0 (by decide) (mA k_44) rfl e_v1 d_N_isSame_1 ?_
  refine mt_iload_n F hl 1 rfl rfl d_N_isSame_4 ?_
  obtain ⟨v2, e_v2, h⟩ := mw_bind h
  refine mw_iald F hK hI (t0 := 0) rfl e_v2 d_N_isSame_5 ?_
  refine mt_aload_n F hl 2 rfl rfl d_N_isSame_6 ?_
  obtain ⟨v3, e_v3, h⟩ := mw_bind h
  refine mw_getR F hK hI (in_5 _) (hc_5) 0 (by decide) (mA k_44) rfl e_v3 d_N_isSame_7 ?_
  refine mt_iload_n F hl 1 rfl rfl d_N_isSame_10 ?_
  obtain ⟨v4, e_v4, h⟩ := mw_bind h
  refine mw_iald F hK hI (t0 := 0) rfl e_v4 d_N_isSame_11 ?_
  refine lv_icmp_ne (tgt := 30) F.1 F.2.1 d_N_isSame_12 (by decide) (fun hc => ?_) (fun hc => ?_)
  · rw [if_neg hc] at h
    refine lv_iconst (v := 0) F.1 F.2.1 d_N_isSame_30 (by decide) ?_
    exact mw_zret F hI hr hlk rfl h (Nat.le_of_ble_eq_true rfl) (Nat.le_of_ble_eq_true rfl) d_N_isSame_31
  · rw [if_pos hc] at h
    refine mt_aload_n F hl 0 rfl rfl d_N_isSame_15 ?_
    obtain ⟨v5, e_v5, h⟩ := mw_bind h
    refine mw_getR F hK hI (in_5 _) (hc_5) 1 (by decide) (mA k_45) rfl e_v5 d_N_isSame_16 ?_
    refine mt_iload_n F hl 1 rfl rfl d_N_isSame_19 ?_
    obtain ⟨v6, e_v6, h⟩ := mw_bind h
    refine mw_iald F hK hI (t0 := 0) rfl e_v6 d_N_isSame_20 ?_
    refine mt_aload_n F hl 2 rfl rfl d_N_isSame_21 ?_
    obtain ⟨v7, e_v7, h⟩ := mw_bind h
    refine mw_getR F hK hI (in_5 _) (hc_5) 1 (by decide) (mA k_45) rfl e_v7 d_N_isSame_22 ?_
    refine mt_iload_n F hl 1 rfl rfl d_N_isSame_25 ?_
    obtain ⟨v8, e_v8, h⟩ := mw_bind h
    refine mw_iald F hK hI (t0 := 0) rfl e_v8 d_N_isSame_26 ?_
    refine lv_icmp_eq (tgt := 32) F.1 F.2.1 d_N_isSame_27 (by decide) (fun hc => ?_) (fun hc => ?_)
    · rw [if_pos hc] at h
      refine lv_iconst (v := 0) F.1 F.2.1 d_N_isSame_32 (by decide) ?_
      refine mt_istore_n F hl rfl (Nat.le_of_ble_eq_true rfl) rfl d_N_isSame_33 (fun ls hl => ?_)
      have hl : mt_L ls 4 [(3, (.inl 0)), (0, (.inr (.inr (some b0)))), (1, (.inl a1)), (2, (.inr (.inr a2)))] := hl
      refine W.widen (k := 0) (n := 0) (Nat.le_of_ble_eq_true rfl) (Nat.le_of_ble_eq_true rfl) ?_
      exact (s_N_isSame l D dA A b0 F hr hlk hnm hK out 5000) _ _ _ _ _ _ _ hI (mt_sub hl [1, 2, 3, 0] rfl) h
    · rw [if_neg hc] at h
      refine lv_iconst (v := 0) F.1 F.2.1 d_N_isSame_30 (by decide) ?_
      exact mw_zret F hI hr hlk rfl h (Nat.le_of_ble_eq_true rfl) (Nat.le_of_ble_eq_true rfl) d_N_isSame_31
abbrev rm_N_bytesBehind : Room := { frames := 1, cells := 0, slots := 0, locals := 23 }
set_option maxHeartbeats 4000000 in
set_option maxRecDepth 100000 in
theorem s_N_bytesBehind (l : Launch) (D : va_G) (dA : Nat → ClassId) (A : Nat → Prop) (b0 : Nat) {p : Program} {e : Env} {s : State} {m : MethodId} {args : Array Value} {below : List Frame} {meth : Method} {c : Code} (F : CallFix p m c b_N_bytesBehind 5 s args (cd_N_bytesBehind :: ALL) y_N_bytesBehind.cls) (hr : meth.sig.returnType = (some .int)) (hlk : meth.locks = false) (hnm : meth.name = y_N_bytesBehind.name) (hK : mw_K D CL (TY dA) ZZ s) (out : (Int32 × mc_S)) : ∀ n : Nat, (∀ (r1 : Option Nat) (x2 : Int32) (x3 : Int32) (S : mc_S) (H : Heap) (locs : List Loc) (ls : Array Slot), mw_I D dA CL A S s.heap H locs → mt_L ls 5 [(0, (.inr (.inr (some b0)))), (1, (.inr (.inr r1))), (2, (.inl x2)), (3, (.inl x3))] → g_N_bytesBehind b0 n 0 r1 x2 x3 S = some out → W p l e rm_N_bytesBehind s m args below meth c H locs (0) (0) (MQ below (va_Qi (fun x (_ : Unit) => x = out.1) (fun _ t => mw_R D dA CL A out.2 t) A) args s 0 0 A) (F0 m 4 ls [])) ∧ (∀ (r1 : Option Nat) (x2 : Int32) (x3 : Int32) (S : mc_S) (H : Heap) (locs : List Loc) (ls : Array Slot), mw_I D dA CL A S s.heap H locs → mt_L ls 5 [(0, (.inr (.inr (some b0)))), (1, (.inr (.inr r1))), (2, (.inl x2)), (3, (.inl x3))] → g_N_bytesBehind b0 n 1 r1 x2 x3 S = some out → W p l e rm_N_bytesBehind s m args below meth c H locs (0) (0) (MQ below (va_Qi (fun x (_ : Unit) => x = out.1) (fun _ t => mw_R D dA CL A out.2 t) A) args s 0 0 A) (F0 m 39 ls [])) ∧ (∀ (r1 : Option Nat) (x2 : Int32) (x3 : Int32) (S : mc_S) (H : Heap) (locs : List Loc) (ls : Array Slot), mw_I D dA CL A S s.heap H locs → mt_L ls 5 [(0, (.inr (.inr (some b0)))), (1, (.inr (.inr r1))), (2, (.inl x2)), (3, (.inl x3))] → g_N_bytesBehind b0 n 2 r1 x2 x3 S = some out → W p l e rm_N_bytesBehind s m args below meth c H locs (0) (0) (MQ below (va_Qi (fun x (_ : Unit) => x = out.1) (fun _ t => mw_R D dA CL A out.2 t) A) args s 0 0 A) (F0 m 92 ls [])) := by
  intro n
  induction n with
  | zero =>
    refine ⟨?_, ?_, ?_⟩
    · intro r1 x2 x3 S H locs ls hI hl h; have h : (none : Option (Int32 × mc_S)) = some out := h; cases h
    · intro r1 x2 x3 S H locs ls hI hl h; have h : (none : Option (Int32 × mc_S)) = some out := h; cases h
    · intro r1 x2 x3 S H locs ls hI hl h; have h : (none : Option (Int32 × mc_S)) = some out := h; cases h
  | succ k0 ih =>
    refine ⟨?_, ?_, ?_⟩
    · intro r1 x2 x3 S H locs ls hI hl h
      have h : q_N_bytesBehind_0 b0 (g_N_bytesBehind b0 k0) r1 x2 x3 S = some out := h
      unfold q_N_bytesBehind_0 at h
      refine mt_iload_n F hl 3 rfl rfl d_N_bytesBehind_4 ?_
      refine lv_bipush (v := 100) F.1 F.2.1 d_N_bytesBehind_5 (by decide) ?_
      refine lv_icmp_ge (tgt := 37) F.1 F.2.1 d_N_bytesBehind_7 (by decide) (fun hc => ?_) (fun hc => ?_)
      · rw [if_pos hc] at h
        refine lv_iconst (v := 0) F.1 F.2.1 d_N_bytesBehind_37 (by decide) ?_
        refine mt_istore_n F hl rfl (Nat.le_of_ble_eq_true rfl) rfl d_N_bytesBehind_38 (fun ls hl => ?_)
        have hl : mt_L ls 5 [(3, (.inl 0)), (0, (.inr (.inr (some b0)))), (1, (.inr (.inr r1))), (2, (.inl x2))] := hl
        refine W.widen (k := 0) (n := 0) (Nat.le_of_ble_eq_true rfl) (Nat.le_of_ble_eq_true rfl) ?_
        exact ih.2.1 _ _ _ _ _ _ _ hI (mt_sub hl [1, 2, 3, 0] rfl) h
      · rw [if_neg hc] at h
        refine mt_aload_n F hl 0 rfl rfl d_N_bytesBehind_10 ?_
        obtain ⟨v1, e_v1, h⟩ := mw_bind h
        refine mw_getR F hK hI (in_5 _) (hc_5) 0 (by decide) (mA k_44) rfl e_v1 d_N_bytesBehind_11 ?_
        refine mt_iload_n F hl 3 rfl rfl d_N_bytesBehind_14 ?_
        obtain ⟨v2, e_v2, h⟩ := mw_bind h
        refine mw_iald F hK hI (t0 := 0) rfl e_v2 d_N_bytesBehind_15 ?_
        refine lv_if_eq (tgt := 31) F.1 F.2.1 d_N_bytesBehind_16 (by decide) (fun hc => ?_) (fun hc => ?_)
        · rw [if_pos hc] at h
          refine mt_iinc (v := (x3 + 1)) F hl 3 rfl (by rw [show Int32.ofInt 1 = (1 : Int32) from by decide]) (Nat.le_of_ble_eq_true rfl) rfl d_N_bytesBehind_31 (fun ls hl => ?_)
          have hl : mt_L ls 5 [(3, (.inl (x3 + 1))), (0, (.inr (.inr (some b0)))), (1, (.inr (.inr r1))), (2, (.inl x2))] := hl
          refine lv_goto (tgt := 4) F.1 F.2.1 d_N_bytesBehind_34 (by decide) ?_
          refine W.widen (k := 0) (n := 0) (Nat.le_of_ble_eq_true rfl) (Nat.le_of_ble_eq_true rfl) ?_
          exact ih.1 _ _ _ _ _ _ _ hI (mt_sub hl [1, 2, 3, 0] rfl) h
        · rw [if_neg hc] at h
          refine mt_aload_n F hl 0 rfl rfl d_N_bytesBehind_19 ?_
          refine mt_iload_n F hl 3 rfl rfl d_N_bytesBehind_20 ?_
          refine mt_aload_n F hl 1 rfl rfl d_N_bytesBehind_21 ?_
          obtain ⟨b3, e_b3, h⟩ := mw_bind h
          obtain ⟨o4, e_o4, h⟩ := mw_bind h
          refine mw_calli hI (mw_runV F hK hI (c_N_isSame l D dA A _ _ _ _ _ e_o4) (cwV 2 F.2.2.2.2 (gd_V k_201 k_202 k_203 k_204 k_53) rfl rfl rfl hd_N_isSame ⟨Nat.le_of_ble_eq_true rfl, Nat.le_of_ble_eq_true rfl⟩) (hc_5) e_b3 rfl hl.1 rfl (Nat.zero_le _) d_N_bytesBehind_22 ⟨(Nat.le_of_ble_eq_true rfl), (Nat.le_of_ble_eq_true rfl)⟩) (fun H locs hI => ?_)
          refine lv_if_ne (tgt := 31) F.1 F.2.1 d_N_bytesBehind_25 (by decide) (fun hc => ?_) (fun hc => ?_)
          · rw [if_neg hc] at h
            refine mt_iinc (v := (x3 + 1)) F hl 3 rfl (by rw [show Int32.ofInt 1 = (1 : Int32) from by decide]) (Nat.le_of_ble_eq_true rfl) rfl d_N_bytesBehind_31 (fun ls hl => ?_)
            have hl : mt_L ls 5 [(3, (.inl (x3 + 1))), (0, (.inr (.inr (some b0)))), (1, (.inr (.inr r1))), (2, (.inl x2))] := hl
            refine lv_goto (tgt := 4) F.1 F.2.1 d_N_bytesBehind_34 (by decide) ?_
            refine W.widen (k := 0) (n := 0) (Nat.le_of_ble_eq_true rfl) (Nat.le_of_ble_eq_true rfl) ?_
            exact ih.1 _ _ _ _ _ _ _ hI (mt_sub hl [1, 2, 3, 0] rfl) h
          · rw [if_pos hc] at h
            refine mt_iinc (v := (x2 + 16)) F hl 2 rfl (by rw [show Int32.ofInt 16 = (16 : Int32) from by decide]) (Nat.le_of_ble_eq_true rfl) rfl d_N_bytesBehind_28 (fun ls hl => ?_)
            have hl : mt_L ls 5 [(2, (.inl (x2 + 16))), (0, (.inr (.inr (some b0)))), (1, (.inr (.inr r1))), (3, (.inl x3))] := hl
            refine mt_iinc (v := (x3 + 1)) F hl 3 rfl (by rw [show Int32.ofInt 1 = (1 : Int32) from by decide]) (Nat.le_of_ble_eq_true rfl) rfl d_N_bytesBehind_31 (fun ls hl => ?_)
            have hl : mt_L ls 5 [(3, (.inl (x3 + 1))), (2, (.inl (x2 + 16))), (0, (.inr (.inr (some b0)))), (1, (.inr (.inr r1)))] := hl
            refine lv_goto (tgt := 4) F.1 F.2.1 d_N_bytesBehind_34 (by decide) ?_
            refine W.widen (k := 0) (n := 0) (Nat.le_of_ble_eq_true rfl) (Nat.le_of_ble_eq_true rfl) ?_
            exact ih.1 _ _ _ _ _ _ _ hI (mt_sub hl [2, 3, 1, 0] rfl) h
    · intro r1 x2 x3 S H locs ls hI hl h
      have h : q_N_bytesBehind_1 b0 (g_N_bytesBehind b0 k0) r1 x2 x3 S = some out := h
      unfold q_N_bytesBehind_1 at h
      refine mt_iload_n F hl 3 rfl rfl d_N_bytesBehind_39 ?_
      refine mt_aload_n F hl 0 rfl rfl d_N_bytesBehind_40 ?_
      obtain ⟨v1, e_v1, h⟩ := mw_bind h
      refine mw_getI F hK hI (in_5 _) (hc_5) 6 (by decide) (mA k_172) rfl e_v1 d_N_bytesBehind_41 ?_
      refine lv_icmp_ge (tgt := 90) F.1 F.2.1 d_N_bytesBehind_44 (by decide) (fun hc => ?_) (fun hc => ?_)
      · rw [if_pos hc] at h
        refine lv_iconst (v := 0) F.1 F.2.1 d_N_bytesBehind_90 (by decide) ?_
        refine mt_istore_n F hl rfl (Nat.le_of_ble_eq_true rfl) rfl d_N_bytesBehind_91 (fun ls hl => ?_)
        have hl : mt_L ls 5 [(3, (.inl 0)), (0, (.inr (.inr (some b0)))), (1, (.inr (.inr r1))), (2, (.inl x2))] := hl
        refine W.widen (k := 0) (n := 0) (Nat.le_of_ble_eq_true rfl) (Nat.le_of_ble_eq_true rfl) ?_
        exact ih.2.2 _ _ _ _ _ _ _ hI (mt_sub hl [1, 2, 3, 0] rfl) h
      · rw [if_neg hc] at h
        refine mt_aload_n F hl 1 rfl rfl d_N_bytesBehind_47 ?_
        refine mt_aload_n F hl 0 rfl rfl d_N_bytesBehind_48 ?_
        obtain ⟨v2, e_v2, h⟩ := mw_bind h
        refine mw_getR F hK hI (in_5 _) (hc_5) 3 (by decide) (mA k_47) rfl e_v2 d_N_bytesBehind_49 ?_
        refine mt_iload_n F hl 3 rfl rfl d_N_bytesBehind_52 ?_
        obtain ⟨v3, e_v3, h⟩ := mw_bind h
        refine mw_iald F hK hI (t0 := 0) rfl e_v3 d_N_bytesBehind_53 ?_
        obtain ⟨b4, e_b4, h⟩ := mw_bind h
        obtain ⟨o5, e_o5, h⟩ := mw_bind h
        refine mw_calli hI (mw_runV F hK hI (c_N_findRoot l D dA A _ _ _ _ e_o5) (cwV 1 F.2.2.2.2 (gd_V k_173 k_205 k_175 k_176 k_53) rfl rfl rfl hd_N_findRoot ⟨Nat.le_of_ble_eq_true rfl, Nat.le_of_ble_eq_true rfl⟩) (hc_5) e_b4 rfl hl.1 rfl (Nat.zero_le _) d_N_bytesBehind_54 ⟨(Nat.le_of_ble_eq_true rfl), (Nat.le_of_ble_eq_true rfl)⟩) (fun H locs hI => ?_)
        refine mt_istore F hl (Nat.le_of_ble_eq_true rfl) rfl d_N_bytesBehind_57 (fun ls hl => ?_)
        have hl : mt_L ls 5 [(4, (.inl o5.1)), (0, (.inr (.inr (some b0)))), (1, (.inr (.inr r1))), (2, (.inl x2)), (3, (.inl x3))] := hl
        refine mt_iload F hl 0 rfl d_N_bytesBehind_59 ?_
        refine lv_if_lt (tgt := 81) F.1 F.2.1 d_N_bytesBehind_61 (by decide) (fun hc => ?_) (fun hc => ?_)
        · rw [if_pos hc] at h
          refine mt_iinc (v := (x2 + 6)) F hl 3 rfl (by rw [show Int32.ofInt 6 = (6 : Int32) from by decide]) (Nat.le_of_ble_eq_true rfl) rfl d_N_bytesBehind_81 (fun ls hl => ?_)
          have hl : mt_L ls 5 [(2, (.inl (x2 + 6))), (4, (.inl o5.1)), (0, (.inr (.inr (some b0)))), (1, (.inr (.inr r1))), (3, (.inl x3))] := hl
          refine mt_iinc (v := (x3 + 1)) F hl 4 rfl (by rw [show Int32.ofInt 1 = (1 : Int32) from by decide]) (Nat.le_of_ble_eq_true rfl) rfl d_N_bytesBehind_84 (fun ls hl => ?_)
          have hl : mt_L ls 5 [(3, (.inl (x3 + 1))), (2, (.inl (x2 + 6))), (4, (.inl o5.1)), (0, (.inr (.inr (some b0)))), (1, (.inr (.inr r1)))] := hl
          refine lv_goto (tgt := 39) F.1 F.2.1 d_N_bytesBehind_87 (by decide) ?_
          refine W.widen (k := 0) (n := 0) (Nat.le_of_ble_eq_true rfl) (Nat.le_of_ble_eq_true rfl) ?_
          exact ih.2.1 _ _ _ _ _ _ _ hI (mt_sub hl [3, 4, 1, 0] rfl) h
        · rw [if_neg hc] at h
          refine mt_aload_n F hl 2 rfl rfl d_N_bytesBehind_64 ?_
          obtain ⟨v6, e_v6, h⟩ := mw_bind h
          refine mw_getR F hK hI (in_5 _) (hc_5) 5 (by decide) (mA k_49) rfl e_v6 d_N_bytesBehind_65 ?_
          refine mt_iload F hl 0 rfl d_N_bytesBehind_68 ?_
          obtain ⟨v7, e_v7, h⟩ := mw_bind h
          refine mw_lald F hK hI (t0 := 1) rfl e_v7 d_N_bytesBehind_70 ?_
          refine mt_aload_n F hl 1 rfl rfl d_N_bytesBehind_71 ?_
          obtain ⟨v8, e_v8, h⟩ := mw_bind h
          refine mw_getR F hK hI (in_5 _) (hc_5) 5 (by decide) (mA k_49) rfl e_v8 d_N_bytesBehind_72 ?_
          refine mt_iload_n F hl 4 rfl rfl d_N_bytesBehind_75 ?_
          obtain ⟨v9, e_v9, h⟩ := mw_bind h
          refine mw_lald F hK hI (t0 := 1) rfl e_v9 d_N_bytesBehind_76 ?_
          refine W.lcmp F.1 F.2.1 d_N_bytesBehind_77 ?_
          refine lv_if_eq (tgt := 84) F.1 F.2.1 d_N_bytesBehind_78 (by decide) (fun hc => ?_) (fun hc => ?_)
          · rw [if_pos hc] at h
            refine mt_iinc (v := (x3 + 1)) F hl 4 rfl (by rw [show Int32.ofInt 1 = (1 : Int32) from by decide]) (Nat.le_of_ble_eq_true rfl) rfl d_N_bytesBehind_84 (fun ls hl => ?_)
            have hl : mt_L ls 5 [(3, (.inl (x3 + 1))), (4, (.inl o5.1)), (0, (.inr (.inr (some b0)))), (1, (.inr (.inr r1))), (2, (.inl x2))] := hl
            refine lv_goto (tgt := 39) F.1 F.2.1 d_N_bytesBehind_87 (by decide) ?_
            refine W.widen (k := 0) (n := 0) (Nat.le_of_ble_eq_true rfl) (Nat.le_of_ble_eq_true rfl) ?_
            exact ih.2.1 _ _ _ _ _ _ _ hI (mt_sub hl [2, 3, 4, 0] rfl) h
          · rw [if_neg hc] at h
            refine mt_iinc (v := (x2 + 6)) F hl 3 rfl (by rw [show Int32.ofInt 6 = (6 : Int32) from by decide]) (Nat.le_of_ble_eq_true rfl) rfl d_N_bytesBehind_81 (fun ls hl => ?_)
            have hl : mt_L ls 5 [(2, (.inl (x2 + 6))), (4, (.inl o5.1)), (0, (.inr (.inr (some b0)))), (1, (.inr (.inr r1))), (3, (.inl x3))] := hl
            refine mt_iinc (v := (x3 + 1)) F hl 4 rfl (by rw [show Int32.ofInt 1 = (1 : Int32) from by decide]) (Nat.le_of_ble_eq_true rfl) rfl d_N_bytesBehind_84 (fun ls hl => ?_)
            have hl : mt_L ls 5 [(3, (.inl (x3 + 1))), (2, (.inl (x2 + 6))), (4, (.inl o5.1)), (0, (.inr (.inr (some b0)))), (1, (.inr (.inr r1)))] := hl
            refine lv_goto (tgt := 39) F.1 F.2.1 d_N_bytesBehind_87 (by decide) ?_
            refine W.widen (k := 0) (n := 0) (Nat.le_of_ble_eq_true rfl) (Nat.le_of_ble_eq_true rfl) ?_
            exact ih.2.1 _ _ _ _ _ _ _ hI (mt_sub hl [3, 4, 1, 0] rfl) h
    · intro r1 x2 x3 S H locs ls hI hl h
      have h : q_N_bytesBehind_2 b0 (g_N_bytesBehind b0 k0) r1 x2 x3 S = some out := h
      unfold q_N_bytesBehind_2 at h
      refine mt_iload_n F hl 3 rfl rfl d_N_bytesBehind_92 ?_
      refine mt_aload_n F hl 1 rfl rfl d_N_bytesBehind_93 ?_
      obtain ⟨v1, e_v1, h⟩ := mw_bind h
      refine mw_getI F hK hI (in_5 _) (hc_5) 6 (by decide) (mA k_172) rfl e_v1 d_N_bytesBehind_94 ?_
      refine lv_icmp_ge (tgt := 122) F.1 F.2.1 d_N_bytesBehind_97 (by decide) (fun hc => ?_) (fun hc => ?_)
      · rw [if_pos hc] at h
        refine mt_iload_n F hl 2 rfl rfl d_N_bytesBehind_122 ?_
        exact mw_iret F hI hr hlk h (Nat.le_of_ble_eq_true rfl) (Nat.le_of_ble_eq_true rfl) d_N_bytesBehind_123
      · rw [if_neg hc] at h
        refine mt_aload_n F hl 0 rfl rfl d_N_bytesBehind_100 ?_
        refine mt_aload_n F hl 1 rfl rfl d_N_bytesBehind_101 ?_
        obtain ⟨v2, e_v2, h⟩ := mw_bind h
        refine mw_getR F hK hI (in_5 _) (hc_5) 3 (by decide) (mA k_47) rfl e_v2 d_N_bytesBehind_102 ?_
        refine mt_iload_n F hl 3 rfl rfl d_N_bytesBehind_105 ?_
        obtain ⟨v3, e_v3, h⟩ := mw_bind h
        refine mw_iald F hK hI (t0 := 0) rfl e_v3 d_N_bytesBehind_106 ?_
        obtain ⟨b4, e_b4, h⟩ := mw_bind h
        obtain ⟨o5, e_o5, h⟩ := mw_bind h
        refine mw_calli hI (mw_runV F hK hI (c_N_findRoot l D dA A _ _ _ _ e_o5) (cwV 1 F.2.2.2.2 (gd_V k_173 k_205 k_175 k_176 k_53) rfl rfl rfl hd_N_findRoot ⟨Nat.le_of_ble_eq_true rfl, Nat.le_of_ble_eq_true rfl⟩) (hc_5) e_b4 rfl hl.1 rfl (Nat.zero_le _) d_N_bytesBehind_107 ⟨(Nat.le_of_ble_eq_true rfl), (Nat.le_of_ble_eq_true rfl)⟩) (fun H locs hI => ?_)
        refine lv_if_ge (tgt := 116) F.1 F.2.1 d_N_bytesBehind_110 (by decide) (fun hc => ?_) (fun hc => ?_)
        · rw [if_pos hc] at h
          refine mt_iinc (v := (x3 + 1)) F hl 3 rfl (by rw [show Int32.ofInt 1 = (1 : Int32) from by decide]) (Nat.le_of_ble_eq_true rfl) rfl d_N_bytesBehind_116 (fun ls hl => ?_)
          have hl : mt_L ls 5 [(3, (.inl (x3 + 1))), (0, (.inr (.inr (some b0)))), (1, (.inr (.inr r1))), (2, (.inl x2))] := hl
          refine lv_goto (tgt := 92) F.1 F.2.1 d_N_bytesBehind_119 (by decide) ?_
          refine W.widen (k := 0) (n := 0) (Nat.le_of_ble_eq_true rfl) (Nat.le_of_ble_eq_true rfl) ?_
          exact ih.2.2 _ _ _ _ _ _ _ hI (mt_sub hl [1, 2, 3, 0] rfl) h
        · rw [if_neg hc] at h
          refine mt_iinc (v := (x2 + 6)) F hl 2 rfl (by rw [show Int32.ofInt 6 = (6 : Int32) from by decide]) (Nat.le_of_ble_eq_true rfl) rfl d_N_bytesBehind_113 (fun ls hl => ?_)
          have hl : mt_L ls 5 [(2, (.inl (x2 + 6))), (0, (.inr (.inr (some b0)))), (1, (.inr (.inr r1))), (3, (.inl x3))] := hl
          refine mt_iinc (v := (x3 + 1)) F hl 3 rfl (by rw [show Int32.ofInt 1 = (1 : Int32) from by decide]) (Nat.le_of_ble_eq_true rfl) rfl d_N_bytesBehind_116 (fun ls hl => ?_)
          have hl : mt_L ls 5 [(3, (.inl (x3 + 1))), (2, (.inl (x2 + 6))), (0, (.inr (.inr (some b0)))), (1, (.inr (.inr r1)))] := hl
          refine lv_goto (tgt := 92) F.1 F.2.1 d_N_bytesBehind_119 (by decide) ?_
          refine W.widen (k := 0) (n := 0) (Nat.le_of_ble_eq_true rfl) (Nat.le_of_ble_eq_true rfl) ?_
          exact ih.2.2 _ _ _ _ _ _ _ hI (mt_sub hl [2, 3, 1, 0] rfl) h
set_option maxHeartbeats 4000000 in
set_option maxRecDepth 100000 in
theorem c_N_bytesBehind (l : Launch) (D : va_G) (dA : Nat → ClassId) (A : Nat → Prop) (b0 : Nat) (a1 : Option Nat) (S : mc_S) (out : (Int32 × mc_S)) (hf : f_N_bytesBehind b0 a1 S = some out) : Met l y_N_bytesBehind (cd_N_bytesBehind :: ALL) rm_N_bytesBehind (va_Pc [va_rf (some b0), va_rf a1] (mw_B D dA CL (TY dA) ZZ A S)) (va_Qi (fun x (_ : Unit) => x = out.1) (fun _ t => mw_R D dA CL A out.2 t) A) 0 0 A := by
  refine mw_ofW (cc := b_N_bytesBehind) (maxL := 5) (ret := (some .int)) [(.inr (.inr (some b0))), (.inr (.inr a1))] rfl (by decide +kernel) (Nat.le_of_ble_eq_true rfl) (L := [(0, (.inr (.inr (some b0)))), (1, (.inr (.inr a1)))]) rfl (fun p e s m args below meth c F hr hlk hnm hK ls hl hI => ?_)
  have h := hf
  unfold f_N_bytesBehind at h
  refine lv_iconst (v := 0) F.1 F.2.1 d_N_bytesBehind_0 (by decide) ?_
  refine mt_istore_n F hl rfl (Nat.le_of_ble_eq_true rfl) rfl d_N_bytesBehind_1 (fun ls hl => ?_)
  have hl : mt_L ls 5 [(2, (.inl 0)), (0, (.inr (.inr (some b0)))), (1, (.inr (.inr a1)))] := hl
  refine lv_iconst (v := 0) F.1 F.2.1 d_N_bytesBehind_2 (by decide) ?_
  refine mt_istore_n F hl rfl (Nat.le_of_ble_eq_true rfl) rfl d_N_bytesBehind_3 (fun ls hl => ?_)
  have hl : mt_L ls 5 [(3, (.inl 0)), (2, (.inl 0)), (0, (.inr (.inr (some b0)))), (1, (.inr (.inr a1)))] := hl
  refine W.widen (k := 0) (n := 0) (Nat.le_of_ble_eq_true rfl) (Nat.le_of_ble_eq_true rfl) ?_
  exact (s_N_bytesBehind l D dA A b0 F hr hlk hnm hK out 5000).1 _ _ _ _ _ _ _ hI (mt_sub hl [2, 3, 1, 0] rfl) h
abbrev rm_N_copy : Room := { frames := 1, cells := 0, slots := 0, locals := 18 }
set_option maxHeartbeats 4000000 in
set_option maxRecDepth 100000 in
theorem c_N_copy (l : Launch) (D : va_G) (dA : Nat → ClassId) (A : Nat → Prop) (b0 : Nat) (a1 : Option Nat) (S : mc_S) (out : mc_S) (hf : f_N_copy b0 a1 S = some out) : Met l y_N_copy (cd_N_copy :: ALL) rm_N_copy (va_Pc [va_rf (some b0), va_rf a1] (mw_B D dA CL (TY dA) ZZ A S)) (va_Qv (fun (_ : Unit) => True) (fun _ t => mw_R D dA CL A out t) A) 0 0 A := by
  refine mw_ofW (cc := b_N_copy) (maxL := 2) (ret := none) [(.inr (.inr (some b0))), (.inr (.inr a1))] rfl (by decide +kernel) (Nat.le_of_ble_eq_true rfl) (L := [(0, (.inr (.inr (some b0)))), (1, (.inr (.inr a1)))]) rfl (fun p e s m args below meth c F hr hlk hnm hK ls hl hI => ?_)
  have h := hf
  unfold f_N_copy at h
  refine mt_aload_n F hl 1 rfl rfl d_N_copy_0 ?_
  obtain ⟨v1, e_v1, h⟩ := mw_bind h
  refine mw_getR F hK hI (in_5 _) (hc_5) 0 (by decide) (mA k_44) rfl e_v1 d_N_copy_1 ?_
  refine lv_iconst (v := 0) F.1 F.2.1 d_N_copy_4 (by decide) ?_
  refine mt_aload_n F hl 0 rfl rfl d_N_copy_5 ?_
  obtain ⟨v2, e_v2, h⟩ := mw_bind h
  refine mw_getR F hK hI (in_5 _) (hc_5) 0 (by decide) (mA k_44) rfl e_v2 d_N_copy_6 ?_
  refine lv_iconst (v := 0) F.1 F.2.1 d_N_copy_9 (by decide) ?_
  refine lv_bipush (v := 100) F.1 F.2.1 d_N_copy_10 (by decide) ?_
  obtain ⟨S3, e_S3, h⟩ := mw_bind h
  refine mw_copyi F hK hI (t0 := 0) (mA k_206) (mA k_82) (mA k_83) (mA k_84) rfl e_S3 hl.1 (Nat.le_of_ble_eq_true rfl) (by simp [mw_cat, mw_cI, mw_cL, nativeFrameWords, rm_N_copy]) d_N_copy_12 (fun H locs hI => ?_)
  refine mt_aload_n F hl 1 rfl rfl d_N_copy_15 ?_
  obtain ⟨v4, e_v4, h⟩ := mw_bind h
  refine mw_getR F hK hI (in_5 _) (hc_5) 1 (by decide) (mA k_45) rfl e_v4 d_N_copy_16 ?_
  refine lv_iconst (v := 0) F.1 F.2.1 d_N_copy_19 (by decide) ?_
  refine mt_aload_n F hl 0 rfl rfl d_N_copy_20 ?_
  obtain ⟨v5, e_v5, h⟩ := mw_bind h
  refine mw_getR F hK hI (in_5 _) (hc_5) 1 (by decide) (mA k_45) rfl e_v5 d_N_copy_21 ?_
  refine lv_iconst (v := 0) F.1 F.2.1 d_N_copy_24 (by decide) ?_
  refine lv_bipush (v := 100) F.1 F.2.1 d_N_copy_25 (by decide) ?_
  obtain ⟨S6, e_S6, h⟩ := mw_bind h
  refine mw_copyi F hK hI (t0 := 0) (mA k_206) (mA k_82) (mA k_83) (mA k_84) rfl e_S6 hl.1 (Nat.le_of_ble_eq_true rfl) (by simp [mw_cat, mw_cI, mw_cL, nativeFrameWords, rm_N_copy]) d_N_copy_27 (fun H locs hI => ?_)
  refine mt_aload_n F hl 1 rfl rfl d_N_copy_30 ?_
  obtain ⟨v7, e_v7, h⟩ := mw_bind h
  refine mw_getR F hK hI (in_5 _) (hc_5) 2 (by decide) (mA k_46) rfl e_v7 d_N_copy_31 ?_
  refine lv_iconst (v := 0) F.1 F.2.1 d_N_copy_34 (by decide) ?_
  refine mt_aload_n F hl 0 rfl rfl d_N_copy_35 ?_
  obtain ⟨v8, e_v8, h⟩ := mw_bind h
  refine mw_getR F hK hI (in_5 _) (hc_5) 2 (by decide) (mA k_46) rfl e_v8 d_N_copy_36 ?_
  refine lv_iconst (v := 0) F.1 F.2.1 d_N_copy_39 (by decide) ?_
  refine lv_sipush (v := 800) F.1 F.2.1 d_N_copy_40 (by decide) ?_
  obtain ⟨S9, e_S9, h⟩ := mw_bind h
  refine mw_copyi F hK hI (t0 := 0) (mA k_206) (mA k_82) (mA k_83) (mA k_84) rfl e_S9 hl.1 (Nat.le_of_ble_eq_true rfl) (by simp [mw_cat, mw_cI, mw_cL, nativeFrameWords, rm_N_copy]) d_N_copy_43 (fun H locs hI => ?_)
  refine mt_aload_n F hl 1 rfl rfl d_N_copy_46 ?_
  obtain ⟨v10, e_v10, h⟩ := mw_bind h
  refine mw_getR F hK hI (in_5 _) (hc_5) 4 (by decide) (mA k_48) rfl e_v10 d_N_copy_47 ?_
  refine lv_iconst (v := 0) F.1 F.2.1 d_N_copy_50 (by decide) ?_
  refine mt_aload_n F hl 0 rfl rfl d_N_copy_51 ?_
  obtain ⟨v11, e_v11, h⟩ := mw_bind h
  refine mw_getR F hK hI (in_5 _) (hc_5) 4 (by decide) (mA k_48) rfl e_v11 d_N_copy_52 ?_
  refine lv_iconst (v := 0) F.1 F.2.1 d_N_copy_55 (by decide) ?_
  refine lv_sipush (v := 2000) F.1 F.2.1 d_N_copy_56 (by decide) ?_
  obtain ⟨S12, e_S12, h⟩ := mw_bind h
  refine mw_copyl F hK hI (t0 := 1) (mA k_206) (mA k_82) (mA k_83) (mA k_84) rfl e_S12 hl.1 (Nat.le_of_ble_eq_true rfl) (by simp [mw_cat, mw_cI, mw_cL, nativeFrameWords, rm_N_copy]) d_N_copy_59 (fun H locs hI => ?_)
  refine mt_aload_n F hl 1 rfl rfl d_N_copy_62 ?_
  obtain ⟨v13, e_v13, h⟩ := mw_bind h
  refine mw_getR F hK hI (in_5 _) (hc_5) 3 (by decide) (mA k_47) rfl e_v13 d_N_copy_63 ?_
  refine lv_iconst (v := 0) F.1 F.2.1 d_N_copy_66 (by decide) ?_
  refine mt_aload_n F hl 0 rfl rfl d_N_copy_67 ?_
  obtain ⟨v14, e_v14, h⟩ := mw_bind h
  refine mw_getR F hK hI (in_5 _) (hc_5) 3 (by decide) (mA k_47) rfl e_v14 d_N_copy_68 ?_
  refine lv_iconst (v := 0) F.1 F.2.1 d_N_copy_71 (by decide) ?_
  refine lv_bipush (v := 12) F.1 F.2.1 d_N_copy_72 (by decide) ?_
  obtain ⟨S15, e_S15, h⟩ := mw_bind h
  refine mw_copyi F hK hI (t0 := 0) (mA k_206) (mA k_82) (mA k_83) (mA k_84) rfl e_S15 hl.1 (Nat.le_of_ble_eq_true rfl) (by simp [mw_cat, mw_cI, mw_cL, nativeFrameWords, rm_N_copy]) d_N_copy_74 (fun H locs hI => ?_)
  refine mt_aload_n F hl 1 rfl rfl d_N_copy_77 ?_
  obtain ⟨v16, e_v16, h⟩ := mw_bind h
  refine mw_getR F hK hI (in_5 _) (hc_5) 5 (by decide) (mA k_49) rfl e_v16 d_N_copy_78 ?_
  refine lv_iconst (v := 0) F.1 F.2.1 d_N_copy_81 (by decide) ?_
  refine mt_aload_n F hl 0 rfl rfl d_N_copy_82 ?_
  obtain ⟨v17, e_v17, h⟩ := mw_bind h
  refine mw_getR F hK hI (in_5 _) (hc_5) 5 (by decide) (mA k_49) rfl e_v17 d_N_copy_83 ?_
  refine lv_iconst (v := 0) F.1 F.2.1 d_N_copy_86 (by decide) ?_
  refine lv_bipush (v := 12) F.1 F.2.1 d_N_copy_87 (by decide) ?_
  obtain ⟨S18, e_S18, h⟩ := mw_bind h
  refine mw_copyl F hK hI (t0 := 1) (mA k_206) (mA k_82) (mA k_83) (mA k_84) rfl e_S18 hl.1 (Nat.le_of_ble_eq_true rfl) (by simp [mw_cat, mw_cI, mw_cL, nativeFrameWords, rm_N_copy]) d_N_copy_89 (fun H locs hI => ?_)
  refine mt_aload_n F hl 0 rfl rfl d_N_copy_92 ?_
  refine mt_aload_n F hl 1 rfl rfl d_N_copy_93 ?_
  obtain ⟨v19, e_v19, h⟩ := mw_bind h
  refine mw_getI F hK hI (in_5 _) (hc_5) 6 (by decide) (mA k_172) rfl e_v19 d_N_copy_94 ?_
  obtain ⟨S20, e_S20, h⟩ := mw_bind h
  refine mw_put F hK hI (in_5 _) ty_5 ok_5 nm_5 (hc_5) 6 (by decide) (mA k_172) rfl rfl rfl rfl e_S20 d_N_copy_97 (fun H locs hI => ?_)
  exact mw_vret F hI hr hlk h (Nat.le_of_ble_eq_true rfl) (Nat.le_of_ble_eq_true rfl) d_N_copy_100
abbrev rm_M_keep : Room := { frames := 2, cells := 0, slots := 0, locals := 39 }
set_option maxHeartbeats 4000000 in
set_option maxRecDepth 100000 in
theorem s_M_keep (l : Launch) (D : va_G) (dA : Nat → ClassId) (A : Nat → Prop) (b0 : Nat) {p : Program} {e : Env} {s : State} {m : MethodId} {args : Array Value} {below : List Frame} {meth : Method} {c : Code} (F : CallFix p m c b_M_keep 4 s args (cd_M_keep :: ALL) y_M_keep.cls) (hr : meth.sig.returnType = none) (hlk : meth.locks = false) (hnm : meth.name = y_M_keep.name) (hK : mw_K D CL (TY dA) ZZ s) (out : mc_S) : ∀ n : Nat, (∀ (x1 : Int32) (r2 : Option Nat) (x3 : Int32) (S : mc_S) (H : Heap) (locs : List Loc) (ls : Array Slot), mw_I D dA CL A S s.heap H locs → mt_L ls 4 [(0, (.inr (.inr (some b0)))), (1, (.inl x1)), (2, (.inr (.inr r2))), (3, (.inl x3))] → g_M_keep b0 n x1 r2 x3 S = some out → W p l e rm_M_keep s m args below meth c H locs (0) (0) (MQ below (va_Qv (fun (_ : Unit) => True) (fun _ t => mw_R D dA CL A out t) A) args s 0 0 A) (F0 m 47 ls [])) := by
  intro n
  induction n with
  | zero =>
    intro x1 r2 x3 S H locs ls hI hl h; have h : (none : Option mc_S) = some out := h; cases h
  | succ k0 ih =>
    intro x1 r2 x3 S H locs ls hI hl h
    have h : q_M_keep_0 b0 (g_M_keep b0 k0) x1 r2 x3 S = some out := h
    unfold q_M_keep_0 at h
    refine mt_iload_n F hl 3 rfl rfl d_M_keep_47 ?_
    refine lv_bipush (v := 8) F.1 F.2.1 d_M_keep_48 (by decide) ?_
    refine lv_icmp_ge (tgt := 73) F.1 F.2.1 d_M_keep_50 (by decide) (fun hc => ?_) (fun hc => ?_)
    · rw [if_pos hc] at h
      refine mt_aload_n F hl 0 rfl rfl d_M_keep_73 ?_
      obtain ⟨v1, e_v1, h⟩ := mw_bind h
      refine mw_getR F hK hI (in_4 _) (hc_4) 3 (by decide) (mA k_59) rfl e_v1 d_M_keep_74 ?_
      refine lv_bipush (v := 7) F.1 F.2.1 d_M_keep_77 (by decide) ?_
      refine mt_aload_n F hl 2 rfl rfl d_M_keep_79 ?_
      obtain ⟨S2, e_S2, h⟩ := mw_bind h
      refine mw_aast F hK hI (t0 := 5) (ci := 5) (q0 := cq_5) rfl rfl e_S2 d_M_keep_80 (fun H locs hI => ?_)
      refine mt_aload_n F hl 0 rfl rfl d_M_keep_81 ?_
      refine lv_dup F.1 F.2.1 d_M_keep_82 (mw_cat _) ?_
      obtain ⟨v3, e_v3, h⟩ := mw_bind h
      refine mw_getI F hK hI (in_4 _) (hc_4) 4 (by decide) (mA k_212) rfl e_v3 d_M_keep_83 ?_
      refine lv_iconst (v := 1) F.1 F.2.1 d_M_keep_86 (by decide) ?_
      refine lv_isub F.1 F.2.1 d_M_keep_87 ?_
      obtain ⟨S4, e_S4, h⟩ := mw_bind h
      refine mw_put F hK hI (in_4 _) ty_4 ok_4 nm_4 (hc_4) 4 (by decide) (mA k_212) rfl rfl rfl rfl e_S4 d_M_keep_88 (fun H locs hI => ?_)
      refine mt_aload_n F hl 0 rfl rfl d_M_keep_91 ?_
      obtain ⟨v5, e_v5, h⟩ := mw_bind h
      refine mw_getR F hK hI (in_4 _) (hc_4) 3 (by decide) (mA k_59) rfl e_v5 d_M_keep_92 ?_
      refine mt_aload_n F hl 0 rfl rfl d_M_keep_95 ?_
      obtain ⟨v6, e_v6, h⟩ := mw_bind h
      refine mw_getI F hK hI (in_4 _) (hc_4) 4 (by decide) (mA k_212) rfl e_v6 d_M_keep_96 ?_
      obtain ⟨v7, e_v7, h⟩ := mw_bind h
      refine mw_aald F hK hI (t0 := 5) rfl e_v7 d_M_keep_99 ?_
      refine mt_aload_n F hl 0 rfl rfl d_M_keep_100 ?_
      obtain ⟨v8, e_v8, h⟩ := mw_bind h
      refine mw_getR F hK hI (in_4 _) (hc_4) 0 (by decide) (mA k_56) rfl e_v8 d_M_keep_101 ?_
      obtain ⟨b9, e_b9, h⟩ := mw_bind h
      obtain ⟨S10, e_S10, h⟩ := mw_bind h
      refine mw_callv hI (mw_runV F hK hI (c_N_copy l D dA A _ _ _ _ e_S10) (cwV 1 F.2.2.2.2 (gd_V k_207 k_208 k_209 k_210 k_53) rfl rfl rfl hd_N_copy ⟨Nat.le_of_ble_eq_true rfl, Nat.le_of_ble_eq_true rfl⟩) (hc_5) e_b9 rfl hl.1 rfl (Nat.zero_le _) d_M_keep_104 ⟨(Nat.le_of_ble_eq_true rfl), (Nat.le_of_ble_eq_true rfl)⟩) (fun H locs hI => ?_)
      refine mt_aload_n F hl 0 rfl rfl d_M_keep_107 ?_
      obtain ⟨v11, e_v11, h⟩ := mw_bind h
      refine mw_getR F hK hI (in_4 _) (hc_4) 3 (by decide) (mA k_59) rfl e_v11 d_M_keep_108 ?_
      refine mt_aload_n F hl 0 rfl rfl d_M_keep_111 ?_
      obtain ⟨v12, e_v12, h⟩ := mw_bind h
      refine mw_getI F hK hI (in_4 _) (hc_4) 4 (by decide) (mA k_212) rfl e_v12 d_M_keep_112 ?_
      obtain ⟨v13, e_v13, h⟩ := mw_bind h
      refine mw_aald F hK hI (t0 := 5) rfl e_v13 d_M_keep_115 ?_
      refine mt_iload_n F hl 1 rfl rfl d_M_keep_116 ?_
      obtain ⟨S14, e_S14, h⟩ := mw_bind h
      refine mw_put F hK hI (in_5 _) ty_5 ok_5 nm_5 (hc_5) 7 (by decide) (mA k_213) rfl rfl rfl rfl e_S14 d_M_keep_117 (fun H locs hI => ?_)
      refine mt_aload_n F hl 0 rfl rfl d_M_keep_120 ?_
      refine lv_dup F.1 F.2.1 d_M_keep_121 (mw_cat _) ?_
      obtain ⟨v15, e_v15, h⟩ := mw_bind h
      refine mw_getI F hK hI (in_4 _) (hc_4) 4 (by decide) (mA k_212) rfl e_v15 d_M_keep_122 ?_
      refine lv_iconst (v := 1) F.1 F.2.1 d_M_keep_125 (by decide) ?_
      refine lv_iadd F.1 F.2.1 d_M_keep_126 ?_
      obtain ⟨S16, e_S16, h⟩ := mw_bind h
      refine mw_put F hK hI (in_4 _) ty_4 ok_4 nm_4 (hc_4) 4 (by decide) (mA k_212) rfl rfl rfl rfl e_S16 d_M_keep_127 (fun H locs hI => ?_)
      exact mw_vret F hI hr hlk h (Nat.le_of_ble_eq_true rfl) (Nat.le_of_ble_eq_true rfl) d_M_keep_130
    · rw [if_neg hc] at h
      refine mt_aload_n F hl 0 rfl rfl d_M_keep_53 ?_
      obtain ⟨v17, e_v17, h⟩ := mw_bind h
      refine mw_getR F hK hI (in_4 _) (hc_4) 3 (by decide) (mA k_59) rfl e_v17 d_M_keep_54 ?_
      refine mt_iload_n F hl 3 rfl rfl d_M_keep_57 ?_
      refine lv_iconst (v := 1) F.1 F.2.1 d_M_keep_58 (by decide) ?_
      refine lv_isub F.1 F.2.1 d_M_keep_59 ?_
      refine mt_aload_n F hl 0 rfl rfl d_M_keep_60 ?_
      obtain ⟨v18, e_v18, h⟩ := mw_bind h
      refine mw_getR F hK hI (in_4 _) (hc_4) 3 (by decide) (mA k_59) rfl e_v18 d_M_keep_61 ?_
      refine mt_iload_n F hl 3 rfl rfl d_M_keep_64 ?_
      obtain ⟨v19, e_v19, h⟩ := mw_bind h
      refine mw_aald F hK hI (t0 := 5) rfl e_v19 d_M_keep_65 ?_
      obtain ⟨S20, e_S20, h⟩ := mw_bind h
      refine mw_aast F hK hI (t0 := 5) (ci := 5) (q0 := cq_5) rfl rfl e_S20 d_M_keep_66 (fun H locs hI => ?_)
      refine mt_iinc (v := (x3 + 1)) F hl 3 rfl (by rw [show Int32.ofInt 1 = (1 : Int32) from by decide]) (Nat.le_of_ble_eq_true rfl) rfl d_M_keep_67 (fun ls hl => ?_)
      have hl : mt_L ls 4 [(3, (.inl (x3 + 1))), (0, (.inr (.inr (some b0)))), (1, (.inl x1)), (2, (.inr (.inr r2)))] := hl
      refine lv_goto (tgt := 47) F.1 F.2.1 d_M_keep_70 (by decide) ?_
      refine W.widen (k := 0) (n := 0) (Nat.le_of_ble_eq_true rfl) (Nat.le_of_ble_eq_true rfl) ?_
      exact ih _ _ _ _ _ _ _ hI (mt_sub hl [1, 2, 3, 0] rfl) h
set_option maxHeartbeats 4000000 in
set_option maxRecDepth 100000 in
theorem c_M_keep (l : Launch) (D : va_G) (dA : Nat → ClassId) (A : Nat → Prop) (b0 : Nat) (a1 : Int32) (S : mc_S) (out : mc_S) (hf : f_M_keep b0 a1 S = some out) : Met l y_M_keep (cd_M_keep :: ALL) rm_M_keep (va_Pc [va_rf (some b0), .int a1] (mw_B D dA CL (TY dA) ZZ A S)) (va_Qv (fun (_ : Unit) => True) (fun _ t => mw_R D dA CL A out t) A) 0 0 A := by
  refine mw_ofW (cc := b_M_keep) (maxL := 4) (ret := none) [(.inr (.inr (some b0))), (.inl a1)] rfl (by decide +kernel) (Nat.le_of_ble_eq_true rfl) (L := [(0, (.inr (.inr (some b0)))), (1, (.inl a1))]) rfl (fun p e s m args below meth c F hr hlk hnm hK ls hl hI => ?_)
  have h := hf
  unfold f_M_keep at h
  refine mt_aload_n F hl 0 rfl rfl d_M_keep_0 ?_
  obtain ⟨v1, e_v1, h⟩ := mw_bind h
  refine mw_getR F hK hI (in_4 _) (hc_4) 1 (by decide) (mA k_57) rfl e_v1 d_M_keep_1 ?_
  refine mt_aload_n F hl 0 rfl rfl d_M_keep_4 ?_
  obtain ⟨v2, e_v2, h⟩ := mw_bind h
  refine mw_getR F hK hI (in_4 _) (hc_4) 0 (by decide) (mA k_56) rfl e_v2 d_M_keep_5 ?_
  obtain ⟨b3, e_b3, h⟩ := mw_bind h
  obtain ⟨S4, e_S4, h⟩ := mw_bind h
  refine mw_callv hI (mw_runV F hK hI (c_N_copy l D dA A _ _ _ _ e_S4) (cwV 1 F.2.2.2.2 (gd_V k_207 k_208 k_209 k_210 k_53) rfl rfl rfl hd_N_copy ⟨Nat.le_of_ble_eq_true rfl, Nat.le_of_ble_eq_true rfl⟩) (hc_5) e_b3 rfl hl.1 rfl (Nat.zero_le _) d_M_keep_8 ⟨(Nat.le_of_ble_eq_true rfl), (Nat.le_of_ble_eq_true rfl)⟩) (fun H locs hI => ?_)
  refine mt_aload_n F hl 0 rfl rfl d_M_keep_11 ?_
  refine lv_dup F.1 F.2.1 d_M_keep_12 (mw_cat _) ?_
  obtain ⟨v5, e_v5, h⟩ := mw_bind h
  refine mw_getI F hK hI (in_4 _) (hc_4) 5 (by decide) (mA k_211) rfl e_v5 d_M_keep_13 ?_
  refine mt_iload_n F hl 1 rfl rfl d_M_keep_16 ?_
  refine lv_iadd F.1 F.2.1 d_M_keep_17 ?_
  obtain ⟨S6, e_S6, h⟩ := mw_bind h
  refine mw_put F hK hI (in_4 _) ty_4 ok_4 nm_4 (hc_4) 5 (by decide) (mA k_211) rfl rfl rfl rfl e_S6 d_M_keep_18 (fun H locs hI => ?_)
  refine mt_aload_n F hl 0 rfl rfl d_M_keep_21 ?_
  obtain ⟨v7, e_v7, h⟩ := mw_bind h
  refine mw_getI F hK hI (in_4 _) (hc_4) 4 (by decide) (mA k_212) rfl e_v7 d_M_keep_22 ?_
  refine lv_bipush (v := 8) F.1 F.2.1 d_M_keep_25 (by decide) ?_
  refine lv_icmp_ne (tgt := 91) F.1 F.2.1 d_M_keep_27 (by decide) (fun hc => ?_) (fun hc => ?_)
  · rw [if_neg hc] at h
    refine mt_aload_n F hl 0 rfl rfl d_M_keep_91 ?_
    obtain ⟨v8, e_v8, h⟩ := mw_bind h
    refine mw_getR F hK hI (in_4 _) (hc_4) 3 (by decide) (mA k_59) rfl e_v8 d_M_keep_92 ?_
    refine mt_aload_n F hl 0 rfl rfl d_M_keep_95 ?_
    obtain ⟨v9, e_v9, h⟩ := mw_bind h
    refine mw_getI F hK hI (in_4 _) (hc_4) 4 (by decide) (mA k_212) rfl e_v9 d_M_keep_96 ?_
    obtain ⟨v10, e_v10, h⟩ := mw_bind h
    refine mw_aald F hK hI (t0 := 5) rfl e_v10 d_M_keep_99 ?_
    refine mt_aload_n F hl 0 rfl rfl d_M_keep_100 ?_
    obtain ⟨v11, e_v11, h⟩ := mw_bind h
    refine mw_getR F hK hI (in_4 _) (hc_4) 0 (by decide) (mA k_56) rfl e_v11 d_M_keep_101 ?_
    obtain ⟨b12, e_b12, h⟩ := mw_bind h
    obtain ⟨S13, e_S13, h⟩ := mw_bind h
    refine mw_callv hI (mw_runV F hK hI (c_N_copy l D dA A _ _ _ _ e_S13) (cwV 1 F.2.2.2.2 (gd_V k_207 k_208 k_209 k_210 k_53) rfl rfl rfl hd_N_copy ⟨Nat.le_of_ble_eq_true rfl, Nat.le_of_ble_eq_true rfl⟩) (hc_5) e_b12 rfl hl.1 rfl (Nat.zero_le _) d_M_keep_104 ⟨(Nat.le_of_ble_eq_true rfl), (Nat.le_of_ble_eq_true rfl)⟩) (fun H locs hI => ?_)
    refine mt_aload_n F hl 0 rfl rfl d_M_keep_107 ?_
    obtain ⟨v14, e_v14, h⟩ := mw_bind h
    refine mw_getR F hK hI (in_4 _) (hc_4) 3 (by decide) (mA k_59) rfl e_v14 d_M_keep_108 ?_
    refine mt_aload_n F hl 0 rfl rfl d_M_keep_111 ?_
    obtain ⟨v15, e_v15, h⟩ := mw_bind h
    refine mw_getI F hK hI (in_4 _) (hc_4) 4 (by decide) (mA k_212) rfl e_v15 d_M_keep_112 ?_
    obtain ⟨v16, e_v16, h⟩ := mw_bind h
    refine mw_aald F hK hI (t0 := 5) rfl e_v16 d_M_keep_115 ?_
    refine mt_iload_n F hl 1 rfl rfl d_M_keep_116 ?_
    obtain ⟨S17, e_S17, h⟩ := mw_bind h
    refine mw_put F hK hI (in_5 _) ty_5 ok_5 nm_5 (hc_5) 7 (by decide) (mA k_213) rfl rfl rfl rfl e_S17 d_M_keep_117 (fun H locs hI => ?_)
    refine mt_aload_n F hl 0 rfl rfl d_M_keep_120 ?_
    refine lv_dup F.1 F.2.1 d_M_keep_121 (mw_cat _) ?_
    obtain ⟨v18, e_v18, h⟩ := mw_bind h
    refine mw_getI F hK hI (in_4 _) (hc_4) 4 (by decide) (mA k_212) rfl e_v18 d_M_keep_122 ?_
    refine lv_iconst (v := 1) F.1 F.2.1 d_M_keep_125 (by decide) ?_
    refine lv_iadd F.1 F.2.1 d_M_keep_126 ?_
    obtain ⟨S19, e_S19, h⟩ := mw_bind h
    refine mw_put F hK hI (in_4 _) ty_4 ok_4 nm_4 (hc_4) 4 (by decide) (mA k_212) rfl rfl rfl rfl e_S19 d_M_keep_127 (fun H locs hI => ?_)
    exact mw_vret F hI hr hlk h (Nat.le_of_ble_eq_true rfl) (Nat.le_of_ble_eq_true rfl) d_M_keep_130
  · rw [if_pos hc] at h
    refine mt_aload_n F hl 0 rfl rfl d_M_keep_30 ?_
    obtain ⟨v20, e_v20, h⟩ := mw_bind h
    refine mw_getR F hK hI (in_4 _) (hc_4) 3 (by decide) (mA k_59) rfl e_v20 d_M_keep_31 ?_
    refine lv_iconst (v := 0) F.1 F.2.1 d_M_keep_34 (by decide) ?_
    obtain ⟨v21, e_v21, h⟩ := mw_bind h
    refine mw_aald F hK hI (t0 := 5) rfl e_v21 d_M_keep_35 ?_
    refine mt_astore_n F hl rfl (Nat.le_of_ble_eq_true rfl) rfl d_M_keep_36 (fun ls hl => ?_)
    have hl : mt_L ls 4 [(2, (.inr (.inr v21))), (0, (.inr (.inr (some b0)))), (1, (.inl a1))] := hl
    refine mt_aload_n F hl 1 rfl rfl d_M_keep_37 ?_
    obtain ⟨v22, e_v22, h⟩ := mw_bind h
    refine mw_getR F hK hI (in_4 _) (hc_4) 2 (by decide) (mA k_58) rfl e_v22 d_M_keep_38 ?_
    refine mt_aload_n F hl 0 rfl rfl d_M_keep_41 ?_
    obtain ⟨b23, e_b23, h⟩ := mw_bind h
    obtain ⟨S24, e_S24, h⟩ := mw_bind h
    refine mw_callv hI (mw_runV F hK hI (c_N_copy l D dA A _ _ _ _ e_S24) (cwV 1 F.2.2.2.2 (gd_V k_207 k_208 k_209 k_210 k_53) rfl rfl rfl hd_N_copy ⟨Nat.le_of_ble_eq_true rfl, Nat.le_of_ble_eq_true rfl⟩) (hc_5) e_b23 rfl hl.1 rfl (Nat.zero_le _) d_M_keep_42 ⟨(Nat.le_of_ble_eq_true rfl), (Nat.le_of_ble_eq_true rfl)⟩) (fun H locs hI => ?_)
    refine lv_iconst (v := 1) F.1 F.2.1 d_M_keep_45 (by decide) ?_
    refine mt_istore_n F hl rfl (Nat.le_of_ble_eq_true rfl) rfl d_M_keep_46 (fun ls hl => ?_)
    have hl : mt_L ls 4 [(3, (.inl 1)), (2, (.inr (.inr v21))), (0, (.inr (.inr (some b0)))), (1, (.inl a1))] := hl
    refine W.widen (k := 0) (n := 0) (Nat.le_of_ble_eq_true rfl) (Nat.le_of_ble_eq_true rfl) ?_
    exact (s_M_keep l D dA A b0 F hr hlk hnm hK out 5000) _ _ _ _ _ _ _ hI (mt_sub hl [2, 3, 1, 0] rfl) h
abbrev rm_M_commit : Room := { frames := 3, cells := 0, slots := 0, locals := 62 }
set_option maxHeartbeats 4000000 in
set_option maxRecDepth 100000 in
theorem c_M_commit (l : Launch) (D : va_G) (dA : Nat → ClassId) (A : Nat → Prop) (b0 : Nat) (S : mc_S) (out : (Int32 × mc_S)) (hf : f_M_commit b0 S = some out) : Met l y_M_commit (cd_M_commit :: ALL) rm_M_commit (va_Pc [va_rf (some b0)] (mw_B D dA CL (TY dA) ZZ A S)) (va_Qi (fun x (_ : Unit) => x = out.1) (fun _ t => mw_R D dA CL A out.2 t) A) 0 0 A := by
  refine mw_ofW (cc := b_M_commit) (maxL := 2) (ret := (some .int)) [(.inr (.inr (some b0)))] rfl (by decide +kernel) (Nat.le_of_ble_eq_true rfl) (L := [(0, (.inr (.inr (some b0))))]) rfl (fun p e s m args below meth c F hr hlk hnm hK ls hl hI => ?_)
  have h := hf
  unfold f_M_commit at h
  refine lv_bipush (v := 8) F.1 F.2.1 d_M_commit_0 (by decide) ?_
  refine mt_aload_n F hl 0 rfl rfl d_M_commit_2 ?_
  obtain ⟨v1, e_v1, h⟩ := mw_bind h
  refine mw_getR F hK hI (in_4 _) (hc_4) 0 (by decide) (mA k_56) rfl e_v1 d_M_commit_3 ?_
  refine mt_aload_n F hl 0 rfl rfl d_M_commit_6 ?_
  obtain ⟨v2, e_v2, h⟩ := mw_bind h
  refine mw_getR F hK hI (in_4 _) (hc_4) 1 (by decide) (mA k_57) rfl e_v2 d_M_commit_7 ?_
  obtain ⟨b3, e_b3, h⟩ := mw_bind h
  obtain ⟨o4, e_o4, h⟩ := mw_bind h
  refine mw_calli hI (mw_runV F hK hI (c_N_bytesBehind l D dA A _ _ _ _ e_o4) (cwV 1 F.2.2.2.2 (gd_V k_214 k_215 k_216 k_217 k_53) rfl rfl rfl hd_N_bytesBehind ⟨Nat.le_of_ble_eq_true rfl, Nat.le_of_ble_eq_true rfl⟩) (hc_5) e_b3 rfl hl.1 rfl (by simp [mw_cat, mw_cI, mw_cL]) d_M_commit_10 ⟨(Nat.le_of_ble_eq_true rfl), (Nat.le_of_ble_eq_true rfl)⟩) (fun H locs hI => ?_)
  refine lv_iadd F.1 F.2.1 d_M_commit_13 ?_
  refine mt_istore_n F hl rfl (Nat.le_of_ble_eq_true rfl) rfl d_M_commit_14 (fun ls hl => ?_)
  have hl : mt_L ls 2 [(1, (.inl (8 + o4.1))), (0, (.inr (.inr (some b0))))] := hl
  refine mt_aload_n F hl 1 rfl rfl d_M_commit_15 ?_
  refine mt_iload_n F hl 0 rfl rfl d_M_commit_16 ?_
  obtain ⟨b5, e_b5, h⟩ := mw_bind h
  obtain ⟨S6, e_S6, h⟩ := mw_bind h
  refine mw_callv hI (mw_runV F hK hI (c_M_keep l D dA A _ _ _ _ e_S6) (cwV 1 F.2.2.2.2 (gd_V k_218 k_219 k_220 k_221 k_130) rfl rfl rfl hd_M_keep ⟨Nat.le_of_ble_eq_true rfl, Nat.le_of_ble_eq_true rfl⟩) (hc_4) e_b5 rfl hl.1 rfl (Nat.zero_le _) d_M_commit_17 ⟨(Nat.le_of_ble_eq_true rfl), (Nat.le_of_ble_eq_true rfl)⟩) (fun H locs hI => ?_)
  refine mt_iload_n F hl 0 rfl rfl d_M_commit_20 ?_
  exact mw_iret F hI hr hlk h (Nat.le_of_ble_eq_true rfl) (Nat.le_of_ble_eq_true rfl) d_M_commit_21
abbrev rm_K_undo : Room := { frames := 4, cells := 0, slots := 0, locals := 91 }
set_option maxHeartbeats 4000000 in
set_option maxRecDepth 100000 in
theorem c_K_undo (l : Launch) (D : va_G) (dA : Nat → ClassId) (A : Nat → Prop) (b0 : Nat) (S : mc_S) (out : (Int32 × mc_S)) (hf : f_K_undo b0 S = some out) : Met l y_K_undo (cd_K_undo :: ALL) rm_K_undo (va_Pc [va_rf (some b0)] (mw_B D dA CL (TY dA) ZZ A S)) (va_Qi (fun x (_ : Unit) => x = out.1) (fun _ t => mw_R D dA CL A out.2 t) A) 0 0 A := by
  refine mw_ofW (cc := b_K_undo) (maxL := 2) (ret := (some .int)) [(.inr (.inr (some b0)))] rfl (by decide +kernel) (Nat.le_of_ble_eq_true rfl) (L := [(0, (.inr (.inr (some b0))))]) rfl (fun p e s m args below meth c F hr hlk hnm hK ls hl hI => ?_)
  have h := hf
  unfold f_K_undo at h
  refine mt_aload_n F hl 0 rfl rfl d_K_undo_0 ?_
  obtain ⟨b1, e_b1, h⟩ := mw_bind h
  obtain ⟨o2, e_o2, h⟩ := mw_bind h
  refine mw_calli hI (mw_runV F hK hI (c_K_changedBytes l D dA A _ _ _ e_o2) (cwV 0 F.2.2.2.2 (gd_V k_193 k_194 k_195 k_196 k_78) rfl rfl rfl hd_K_changedBytes ⟨Nat.le_of_ble_eq_true rfl, Nat.le_of_ble_eq_true rfl⟩) (hc_0) e_b1 rfl hl.1 rfl (Nat.zero_le _) d_K_undo_1 ⟨(Nat.le_of_ble_eq_true rfl), (Nat.le_of_ble_eq_true rfl)⟩) (fun H locs hI => ?_)
  refine mt_istore_n F hl rfl (Nat.le_of_ble_eq_true rfl) rfl d_K_undo_4 (fun ls hl => ?_)
  have hl : mt_L ls 2 [(1, (.inl o2.1)), (0, (.inr (.inr (some b0))))] := hl
  refine mt_aload_n F hl 1 rfl rfl d_K_undo_5 ?_
  obtain ⟨v3, e_v3, h⟩ := mw_bind h
  refine mw_getR F hK hI (in_0 _) (hc_0) 0 (by decide) (mA k_42) rfl e_v3 d_K_undo_6 ?_
  refine mt_aload_n F hl 1 rfl rfl d_K_undo_9 ?_
  obtain ⟨b4, e_b4, h⟩ := mw_bind h
  obtain ⟨o5, e_o5, h⟩ := mw_bind h
  refine mw_callq hI (mw_runV F hK hI (c_K_kept l D dA A _ _ _ e_o5) (cwV 0 F.2.2.2.2 (gd_V k_89 k_90 k_91 k_92 k_78) rfl rfl rfl hd_K_kept ⟨Nat.le_of_ble_eq_true rfl, Nat.le_of_ble_eq_true rfl⟩) (hc_0) e_b4 rfl hl.1 rfl (by simp [mw_cat, mw_cI, mw_cL]) d_K_undo_10 ⟨(Nat.le_of_ble_eq_true rfl), (Nat.le_of_ble_eq_true rfl)⟩) (fun H locs hI => ?_)
  obtain ⟨b6, e_b6, h⟩ := mw_bind h
  obtain ⟨S7, e_S7, h⟩ := mw_bind h
  refine mw_callv hI (mw_runV F hK hI (c_T_become l D dA A _ _ _ _ e_S7) (cwV 1 F.2.2.2.2 (gd_V k_189 k_190 k_191 k_192 k_38) rfl rfl rfl hd_T_become ⟨Nat.le_of_ble_eq_true rfl, Nat.le_of_ble_eq_true rfl⟩) (hc_2) e_b6 rfl hl.1 rfl (Nat.zero_le _) d_K_undo_13 ⟨(Nat.le_of_ble_eq_true rfl), (Nat.le_of_ble_eq_true rfl)⟩) (fun H locs hI => ?_)
  refine mt_iload_n F hl 0 rfl rfl d_K_undo_16 ?_
  exact mw_iret F hI hr hlk h (Nat.le_of_ble_eq_true rfl) (Nat.le_of_ble_eq_true rfl) d_K_undo_17
