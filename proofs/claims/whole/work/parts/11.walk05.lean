abbrev rm_M_crash : Room := { frames := 2, cells := 0, slots := 0, locals := 39 }
set_option maxHeartbeats 4000000 in
set_option maxRecDepth 100000 in
theorem s_M_crash (l : Launch) (D : va_G) (dA : Nat → ClassId) (A : Nat → Prop) (b0 : Nat) {p : Program} {e : Env} {s : State} {m : MethodId} {args : Array Value} {below : List Frame} {meth : Method} {c : Code} (F : CallFix p m c b_M_crash 6 s args (cd_M_crash :: ALL) y_M_crash.cls) (hr : meth.sig.returnType = (some .int)) (hlk : meth.locks = false) (hnm : meth.name = y_M_crash.name) (hK : mw_K D CL (TY dA) ZZ s) (out : (Int32 × mc_S)) : ∀ n : Nat, (∀ (x1 : Int32) (x2 : Int32) (y3 : Int64) (x5 : Int32) (S : mc_S) (H : Heap) (locs : List Loc) (ls : Array Slot), mw_I D dA CL A S s.heap H locs → mt_L ls 6 [(0, (.inr (.inr (some b0)))), (1, (.inl x1)), (2, (.inl x2)), (3, (.inr (.inl y3)))] → g_M_crash b0 n 0 x1 x2 y3 x5 S = some out → W p l e rm_M_crash s m args below meth c H locs (0) (0) (MQ below (va_Qi (fun x (_ : Unit) => x = out.1) (fun _ t => mw_R D dA CL A out.2 t) A) args s 0 0 A) (F0 m 10 ls [])) ∧ (∀ (x1 : Int32) (x2 : Int32) (y3 : Int64) (x5 : Int32) (S : mc_S) (H : Heap) (locs : List Loc) (ls : Array Slot), mw_I D dA CL A S s.heap H locs → mt_L ls 6 [(0, (.inr (.inr (some b0)))), (1, (.inl x1)), (2, (.inl x2)), (3, (.inr (.inl y3))), (5, (.inl x5))] → g_M_crash b0 n 1 x1 x2 y3 x5 S = some out → W p l e rm_M_crash s m args below meth c H locs (0) (0) (MQ below (va_Qi (fun x (_ : Unit) => x = out.1) (fun _ t => mw_R D dA CL A out.2 t) A) args s 0 0 A) (F0 m 58 ls [])) := by
  intro n
  induction n with
  | zero =>
    refine ⟨?_, ?_⟩
    · intro x1 x2 y3 x5 S H locs ls hI hl h; have h : (none : Option (Int32 × mc_S)) = some out := h; cases h
    · intro x1 x2 y3 x5 S H locs ls hI hl h; have h : (none : Option (Int32 × mc_S)) = some out := h; cases h
  | succ k0 ih =>
    refine ⟨?_, ?_⟩
    · intro x1 x2 y3 x5 S H locs ls hI hl h
      have h : q_M_crash_0 b0 (g_M_crash b0 k0) x1 x2 y3 x5 S = some out := h
      unfold q_M_crash_0 at h
      refine mt_iload_n F hl 2 rfl rfl d_M_crash_10 ?_
      refine mt_aload_n F hl 0 rfl rfl d_M_crash_11 ?_
      obtain ⟨v1, e_v1, h⟩ := mw_bind h
      refine mw_getI F hK hI (in_4 _) (hc_4) 4 (by decide) (mA k_212) rfl e_v1 d_M_crash_12 ?_
      refine lv_icmp_ge (tgt := 55) F.1 F.2.1 d_M_crash_15 (by decide) (fun hc => ?_) (fun hc => ?_)
      · rw [if_pos hc] at h
        refine mt_iload_n F hl 2 rfl rfl d_M_crash_55 ?_
        refine mt_istore F hl (Nat.le_of_ble_eq_true rfl) rfl d_M_crash_56 (fun ls hl => ?_)
        have hl : mt_L ls 6 [(5, (.inl x2)), (0, (.inr (.inr (some b0)))), (1, (.inl x1)), (2, (.inl x2)), (3, (.inr (.inl y3)))] := hl
        refine W.widen (k := 0) (n := 0) (Nat.le_of_ble_eq_true rfl) (Nat.le_of_ble_eq_true rfl) ?_
        exact ih.2 _ _ _ _ _ _ _ _ hI (mt_sub hl [1, 2, 3, 4, 0] rfl) h
      · rw [if_neg hc] at h
        refine mt_lload_n F hl 3 rfl rfl d_M_crash_18 ?_
        refine mt_aload_n F hl 0 rfl rfl d_M_crash_19 ?_
        obtain ⟨v2, e_v2, h⟩ := mw_bind h
        refine mw_getR F hK hI (in_4 _) (hc_4) 3 (by decide) (mA k_59) rfl e_v2 d_M_crash_20 ?_
        refine mt_iload_n F hl 2 rfl rfl d_M_crash_23 ?_
        obtain ⟨v3, e_v3, h⟩ := mw_bind h
        refine mw_aald F hK hI (t0 := 5) rfl e_v3 d_M_crash_24 ?_
        obtain ⟨v4, e_v4, h⟩ := mw_bind h
        refine mw_getI F hK hI (in_5 _) (hc_5) 7 (by decide) (mA k_213) rfl e_v4 d_M_crash_25 ?_
        refine lv_i2l F.1 F.2.1 d_M_crash_28 rfl ?_
        refine lv_ladd F.1 F.2.1 d_M_crash_29 ?_
        refine mt_iload_n F hl 1 rfl rfl d_M_crash_30 ?_
        refine lv_i2l F.1 F.2.1 d_M_crash_31 rfl ?_
        refine W.lcmp F.1 F.2.1 d_M_crash_32 ?_
        refine lv_if_gt (tgt := 55) F.1 F.2.1 d_M_crash_33 (by decide) (fun hc => ?_) (fun hc => ?_)
        · rw [if_pos hc] at h
          refine mt_iload_n F hl 2 rfl rfl d_M_crash_55 ?_
          refine mt_istore F hl (Nat.le_of_ble_eq_true rfl) rfl d_M_crash_56 (fun ls hl => ?_)
          have hl : mt_L ls 6 [(5, (.inl x2)), (0, (.inr (.inr (some b0)))), (1, (.inl x1)), (2, (.inl x2)), (3, (.inr (.inl y3)))] := hl
          refine W.widen (k := 0) (n := 0) (Nat.le_of_ble_eq_true rfl) (Nat.le_of_ble_eq_true rfl) ?_
          exact ih.2 _ _ _ _ _ _ _ _ hI (mt_sub hl [1, 2, 3, 4, 0] rfl) h
        · rw [if_neg hc] at h
          refine mt_lload_n F hl 3 rfl rfl d_M_crash_36 ?_
          refine mt_aload_n F hl 0 rfl rfl d_M_crash_37 ?_
          obtain ⟨v5, e_v5, h⟩ := mw_bind h
          refine mw_getR F hK hI (in_4 _) (hc_4) 3 (by decide) (mA k_59) rfl e_v5 d_M_crash_38 ?_
          refine mt_iload_n F hl 2 rfl rfl d_M_crash_41 ?_
          obtain ⟨v6, e_v6, h⟩ := mw_bind h
          refine mw_aald F hK hI (t0 := 5) rfl e_v6 d_M_crash_42 ?_
          obtain ⟨v7, e_v7, h⟩ := mw_bind h
          refine mw_getI F hK hI (in_5 _) (hc_5) 7 (by decide) (mA k_213) rfl e_v7 d_M_crash_43 ?_
          refine lv_i2l F.1 F.2.1 d_M_crash_46 rfl ?_
          refine lv_ladd F.1 F.2.1 d_M_crash_47 ?_
          refine mt_lstore_n F hl rfl (Nat.le_of_ble_eq_true rfl) rfl d_M_crash_48 (fun ls hl => ?_)
          have hl : mt_L ls 6 [(3, (.inr (.inl (y3 + (v7).toInt64)))), (0, (.inr (.inr (some b0)))), (1, (.inl x1)), (2, (.inl x2))] := hl
          refine mt_iinc (v := (x2 + 1)) F hl 3 rfl (by rw [show Int32.ofInt 1 = (1 : Int32) from by decide]) (Nat.le_of_ble_eq_true rfl) rfl d_M_crash_49 (fun ls hl => ?_)
          have hl : mt_L ls 6 [(2, (.inl (x2 + 1))), (3, (.inr (.inl (y3 + (v7).toInt64)))), (0, (.inr (.inr (some b0)))), (1, (.inl x1))] := hl
          refine lv_goto (tgt := 10) F.1 F.2.1 d_M_crash_52 (by decide) ?_
          refine W.widen (k := 0) (n := 0) (Nat.le_of_ble_eq_true rfl) (Nat.le_of_ble_eq_true rfl) ?_
          exact ih.1 _ _ _ _ _ _ _ _ hI (mt_sub hl [2, 3, 0, 1] rfl) h
    · intro x1 x2 y3 x5 S H locs ls hI hl h
      have h : q_M_crash_1 b0 (g_M_crash b0 k0) x1 x2 y3 x5 S = some out := h
      unfold q_M_crash_1 at h
      refine mt_iload F hl 4 rfl d_M_crash_58 ?_
      refine mt_aload_n F hl 0 rfl rfl d_M_crash_60 ?_
      obtain ⟨v1, e_v1, h⟩ := mw_bind h
      refine mw_getI F hK hI (in_4 _) (hc_4) 4 (by decide) (mA k_212) rfl e_v1 d_M_crash_61 ?_
      refine lv_icmp_ge (tgt := 92) F.1 F.2.1 d_M_crash_64 (by decide) (fun hc => ?_) (fun hc => ?_)
      · rw [if_pos hc] at h
        refine mt_iload_n F hl 2 rfl rfl d_M_crash_92 ?_
        refine lv_if_le (tgt := 111) F.1 F.2.1 d_M_crash_93 (by decide) (fun hc => ?_) (fun hc => ?_)
        · rw [if_pos hc] at h
          refine mt_aload_n F hl 0 rfl rfl d_M_crash_111 ?_
          obtain ⟨v2, e_v2, h⟩ := mw_bind h
          refine mw_getR F hK hI (in_4 _) (hc_4) 0 (by decide) (mA k_56) rfl e_v2 d_M_crash_112 ?_
          refine mt_aload_n F hl 0 rfl rfl d_M_crash_115 ?_
          obtain ⟨v3, e_v3, h⟩ := mw_bind h
          refine mw_getR F hK hI (in_4 _) (hc_4) 2 (by decide) (mA k_58) rfl e_v3 d_M_crash_116 ?_
          obtain ⟨b4, e_b4, h⟩ := mw_bind h
          obtain ⟨S5, e_S5, h⟩ := mw_bind h
          refine mw_callv hI (mw_runV F hK hI (c_N_copy l D dA A _ _ _ _ e_S5) (cwV 1 F.2.2.2.2 (gd_V k_207 k_208 k_209 k_210 k_53) rfl rfl rfl hd_N_copy ⟨Nat.le_of_ble_eq_true rfl, Nat.le_of_ble_eq_true rfl⟩) (hc_5) e_b4 rfl hl.1 rfl (Nat.zero_le _) d_M_crash_119 ⟨(Nat.le_of_ble_eq_true rfl), (Nat.le_of_ble_eq_true rfl)⟩) (fun H locs hI => ?_)
          refine mt_aload_n F hl 0 rfl rfl d_M_crash_122 ?_
          obtain ⟨v6, e_v6, h⟩ := mw_bind h
          refine mw_getR F hK hI (in_4 _) (hc_4) 1 (by decide) (mA k_57) rfl e_v6 d_M_crash_123 ?_
          refine mt_aload_n F hl 0 rfl rfl d_M_crash_126 ?_
          obtain ⟨v7, e_v7, h⟩ := mw_bind h
          refine mw_getR F hK hI (in_4 _) (hc_4) 2 (by decide) (mA k_58) rfl e_v7 d_M_crash_127 ?_
          obtain ⟨b8, e_b8, h⟩ := mw_bind h
          obtain ⟨S9, e_S9, h⟩ := mw_bind h
          refine mw_callv hI (mw_runV F hK hI (c_N_copy l D dA A _ _ _ _ e_S9) (cwV 1 F.2.2.2.2 (gd_V k_207 k_208 k_209 k_210 k_53) rfl rfl rfl hd_N_copy ⟨Nat.le_of_ble_eq_true rfl, Nat.le_of_ble_eq_true rfl⟩) (hc_5) e_b8 rfl hl.1 rfl (Nat.zero_le _) d_M_crash_130 ⟨(Nat.le_of_ble_eq_true rfl), (Nat.le_of_ble_eq_true rfl)⟩) (fun H locs hI => ?_)
          refine mt_aload_n F hl 0 rfl rfl d_M_crash_133 ?_
          refine lv_iconst (v := 0) F.1 F.2.1 d_M_crash_134 (by decide) ?_
          obtain ⟨S10, e_S10, h⟩ := mw_bind h
          refine mw_put F hK hI (in_4 _) ty_4 ok_4 nm_4 (hc_4) 4 (by decide) (mA k_212) rfl rfl rfl rfl e_S10 d_M_crash_135 (fun H locs hI => ?_)
          refine mt_iload_n F hl 2 rfl rfl d_M_crash_138 ?_
          exact mw_iret F hI hr hlk h (Nat.le_of_ble_eq_true rfl) (Nat.le_of_ble_eq_true rfl) d_M_crash_139
        · rw [if_neg hc] at h
          refine mt_aload_n F hl 0 rfl rfl d_M_crash_96 ?_
          obtain ⟨v11, e_v11, h⟩ := mw_bind h
          refine mw_getR F hK hI (in_4 _) (hc_4) 2 (by decide) (mA k_58) rfl e_v11 d_M_crash_97 ?_
          refine mt_aload_n F hl 0 rfl rfl d_M_crash_100 ?_
          obtain ⟨v12, e_v12, h⟩ := mw_bind h
          refine mw_getR F hK hI (in_4 _) (hc_4) 3 (by decide) (mA k_59) rfl e_v12 d_M_crash_101 ?_
          refine mt_iload_n F hl 2 rfl rfl d_M_crash_104 ?_
          refine lv_iconst (v := 1) F.1 F.2.1 d_M_crash_105 (by decide) ?_
          refine lv_isub F.1 F.2.1 d_M_crash_106 ?_
          obtain ⟨v13, e_v13, h⟩ := mw_bind h
          refine mw_aald F hK hI (t0 := 5) rfl e_v13 d_M_crash_107 ?_
          obtain ⟨b14, e_b14, h⟩ := mw_bind h
          obtain ⟨S15, e_S15, h⟩ := mw_bind h
          refine mw_callv hI (mw_runV F hK hI (c_N_copy l D dA A _ _ _ _ e_S15) (cwV 1 F.2.2.2.2 (gd_V k_207 k_208 k_209 k_210 k_53) rfl rfl rfl hd_N_copy ⟨Nat.le_of_ble_eq_true rfl, Nat.le_of_ble_eq_true rfl⟩) (hc_5) e_b14 rfl hl.1 rfl (Nat.zero_le _) d_M_crash_108 ⟨(Nat.le_of_ble_eq_true rfl), (Nat.le_of_ble_eq_true rfl)⟩) (fun H locs hI => ?_)
          refine mt_aload_n F hl 0 rfl rfl d_M_crash_111 ?_
          obtain ⟨v16, e_v16, h⟩ := mw_bind h
          refine mw_getR F hK hI (in_4 _) (hc_4) 0 (by decide) (mA k_56) rfl e_v16 d_M_crash_112 ?_
          refine mt_aload_n F hl 0 rfl rfl d_M_crash_115 ?_
          obtain ⟨v17, e_v17, h⟩ := mw_bind h
          refine mw_getR F hK hI (in_4 _) (hc_4) 2 (by decide) (mA k_58) rfl e_v17 d_M_crash_116 ?_
          obtain ⟨b18, e_b18, h⟩ := mw_bind h
          obtain ⟨S19, e_S19, h⟩ := mw_bind h
          refine mw_callv hI (mw_runV F hK hI (c_N_copy l D dA A _ _ _ _ e_S19) (cwV 1 F.2.2.2.2 (gd_V k_207 k_208 k_209 k_210 k_53) rfl rfl rfl hd_N_copy ⟨Nat.le_of_ble_eq_true rfl, Nat.le_of_ble_eq_true rfl⟩) (hc_5) e_b18 rfl hl.1 rfl (Nat.zero_le _) d_M_crash_119 ⟨(Nat.le_of_ble_eq_true rfl), (Nat.le_of_ble_eq_true rfl)⟩) (fun H locs hI => ?_)
          refine mt_aload_n F hl 0 rfl rfl d_M_crash_122 ?_
          obtain ⟨v20, e_v20, h⟩ := mw_bind h
          refine mw_getR F hK hI (in_4 _) (hc_4) 1 (by decide) (mA k_57) rfl e_v20 d_M_crash_123 ?_
          refine mt_aload_n F hl 0 rfl rfl d_M_crash_126 ?_
          obtain ⟨v21, e_v21, h⟩ := mw_bind h
          refine mw_getR F hK hI (in_4 _) (hc_4) 2 (by decide) (mA k_58) rfl e_v21 d_M_crash_127 ?_
          obtain ⟨b22, e_b22, h⟩ := mw_bind h
          obtain ⟨S23, e_S23, h⟩ := mw_bind h
          refine mw_callv hI (mw_runV F hK hI (c_N_copy l D dA A _ _ _ _ e_S23) (cwV 1 F.2.2.2.2 (gd_V k_207 k_208 k_209 k_210 k_53) rfl rfl rfl hd_N_copy ⟨Nat.le_of_ble_eq_true rfl, Nat.le_of_ble_eq_true rfl⟩) (hc_5) e_b22 rfl hl.1 rfl (Nat.zero_le _) d_M_crash_130 ⟨(Nat.le_of_ble_eq_true rfl), (Nat.le_of_ble_eq_true rfl)⟩) (fun H locs hI => ?_)
          refine mt_aload_n F hl 0 rfl rfl d_M_crash_133 ?_
          refine lv_iconst (v := 0) F.1 F.2.1 d_M_crash_134 (by decide) ?_
          obtain ⟨S24, e_S24, h⟩ := mw_bind h
          refine mw_put F hK hI (in_4 _) ty_4 ok_4 nm_4 (hc_4) 4 (by decide) (mA k_212) rfl rfl rfl rfl e_S24 d_M_crash_135 (fun H locs hI => ?_)
          refine mt_iload_n F hl 2 rfl rfl d_M_crash_138 ?_
          exact mw_iret F hI hr hlk h (Nat.le_of_ble_eq_true rfl) (Nat.le_of_ble_eq_true rfl) d_M_crash_139
      · rw [if_neg hc] at h
        refine mt_aload_n F hl 0 rfl rfl d_M_crash_67 ?_
        refine lv_dup F.1 F.2.1 d_M_crash_68 (mw_cat _) ?_
        obtain ⟨v25, e_v25, h⟩ := mw_bind h
        refine mw_getI F hK hI (in_4 _) (hc_4) 5 (by decide) (mA k_211) rfl e_v25 d_M_crash_69 ?_
        refine mt_aload_n F hl 0 rfl rfl d_M_crash_72 ?_
        obtain ⟨v26, e_v26, h⟩ := mw_bind h
        refine mw_getR F hK hI (in_4 _) (hc_4) 3 (by decide) (mA k_59) rfl e_v26 d_M_crash_73 ?_
        refine mt_iload F hl 4 rfl d_M_crash_76 ?_
        obtain ⟨v27, e_v27, h⟩ := mw_bind h
        refine mw_aald F hK hI (t0 := 5) rfl e_v27 d_M_crash_78 ?_
        obtain ⟨v28, e_v28, h⟩ := mw_bind h
        refine mw_getI F hK hI (in_5 _) (hc_5) 7 (by decide) (mA k_213) rfl e_v28 d_M_crash_79 ?_
        refine lv_isub F.1 F.2.1 d_M_crash_82 ?_
        obtain ⟨S29, e_S29, h⟩ := mw_bind h
        refine mw_put F hK hI (in_4 _) ty_4 ok_4 nm_4 (hc_4) 5 (by decide) (mA k_211) rfl rfl rfl rfl e_S29 d_M_crash_83 (fun H locs hI => ?_)
        refine mt_iinc (v := (x5 + 1)) F hl 4 rfl (by rw [show Int32.ofInt 1 = (1 : Int32) from by decide]) (Nat.le_of_ble_eq_true rfl) rfl d_M_crash_86 (fun ls hl => ?_)
        have hl : mt_L ls 6 [(5, (.inl (x5 + 1))), (0, (.inr (.inr (some b0)))), (1, (.inl x1)), (2, (.inl x2)), (3, (.inr (.inl y3)))] := hl
        refine lv_goto (tgt := 58) F.1 F.2.1 d_M_crash_89 (by decide) ?_
        refine W.widen (k := 0) (n := 0) (Nat.le_of_ble_eq_true rfl) (Nat.le_of_ble_eq_true rfl) ?_
        exact ih.2 _ _ _ _ _ _ _ _ hI (mt_sub hl [1, 2, 3, 4, 0] rfl) h
set_option maxHeartbeats 4000000 in
set_option maxRecDepth 100000 in
theorem c_M_crash (l : Launch) (D : va_G) (dA : Nat → ClassId) (A : Nat → Prop) (b0 : Nat) (a1 : Int32) (S : mc_S) (out : (Int32 × mc_S)) (hf : f_M_crash b0 a1 S = some out) : Met l y_M_crash (cd_M_crash :: ALL) rm_M_crash (va_Pc [va_rf (some b0), .int a1] (mw_B D dA CL (TY dA) ZZ A S)) (va_Qi (fun x (_ : Unit) => x = out.1) (fun _ t => mw_R D dA CL A out.2 t) A) 0 0 A := by
  refine mw_ofW (cc := b_M_crash) (maxL := 6) (ret := (some .int)) [(.inr (.inr (some b0))), (.inl a1)] rfl (by decide +kernel) (Nat.le_of_ble_eq_true rfl) (L := [(0, (.inr (.inr (some b0)))), (1, (.inl a1))]) rfl (fun p e s m args below meth c F hr hlk hnm hK ls hl hI => ?_)
  have h := hf
  unfold f_M_crash at h
  refine mt_iload_n F hl 1 rfl rfl d_M_crash_0 ?_
  refine lv_if_ge (tgt := 6) F.1 F.2.1 d_M_crash_1 (by decide) (fun hc => ?_) (fun hc => ?_)
  · rw [if_pos hc] at h
    refine lv_iconst (v := 0) F.1 F.2.1 d_M_crash_6 (by decide) ?_
    refine mt_istore_n F hl rfl (Nat.le_of_ble_eq_true rfl) rfl d_M_crash_7 (fun ls hl => ?_)
    have hl : mt_L ls 6 [(2, (.inl 0)), (0, (.inr (.inr (some b0)))), (1, (.inl a1))] := hl
    refine lv_lconst (v := 0) F.1 F.2.1 d_M_crash_8 (by decide) ?_
    refine mt_lstore_n F hl rfl (Nat.le_of_ble_eq_true rfl) rfl d_M_crash_9 (fun ls hl => ?_)
    have hl : mt_L ls 6 [(3, (.inr (.inl 0))), (2, (.inl 0)), (0, (.inr (.inr (some b0)))), (1, (.inl a1))] := hl
    refine W.widen (k := 0) (n := 0) (Nat.le_of_ble_eq_true rfl) (Nat.le_of_ble_eq_true rfl) ?_
    exact (s_M_crash l D dA A b0 F hr hlk hnm hK out 5000).1 _ _ _ _ _ _ _ _ hI (mt_sub hl [2, 3, 1, 0] rfl) h
  · rw [if_neg hc] at h
    refine lv_iconst (v := (-1)) F.1 F.2.1 d_M_crash_4 (by decide) ?_
    exact mw_iret F hI hr hlk h (Nat.le_of_ble_eq_true rfl) (Nat.le_of_ble_eq_true rfl) d_M_crash_5
abbrev rm_K_kind : Room := { frames := 0, cells := 0, slots := 0, locals := 0 }
set_option maxHeartbeats 4000000 in
set_option maxRecDepth 100000 in
theorem c_K_kind (l : Launch) (D : va_G) (dA : Nat → ClassId) (A : Nat → Prop) (b0 : Nat) (a1 : Int32) (S : mc_S) (out : (Int32 × mc_S)) (hf : f_K_kind b0 a1 S = some out) : Met l y_K_kind (cd_K_kind :: ALL) rm_K_kind (va_Pc [va_rf (some b0), .int a1] (mw_B D dA CL (TY dA) ZZ A S)) (va_Qi (fun x (_ : Unit) => x = out.1) (fun _ t => mw_R D dA CL A out.2 t) A) 0 0 A := by
  refine mw_ofW (cc := b_K_kind) (maxL := 3) (ret := (some .int)) [(.inr (.inr (some b0))), (.inl a1)] rfl (by decide +kernel) (Nat.le_of_ble_eq_true rfl) (L := [(0, (.inr (.inr (some b0)))), (1, (.inl a1))]) rfl (fun p e s m args below meth c F hr hlk hnm hK ls hl hI => ?_)
  have h := hf
  unfold f_K_kind at h
  refine mt_iload_n F hl 1 rfl rfl d_K_kind_0 ?_
  refine lv_if_lt (tgt := 10) F.1 F.2.1 d_K_kind_1 (by decide) (fun hc => ?_) (fun hc => ?_)
  · rw [if_pos hc] at h
    refine lv_iconst (v := (-1)) F.1 F.2.1 d_K_kind_10 (by decide) ?_
    exact mw_iret F hI hr hlk h (Nat.le_of_ble_eq_true rfl) (Nat.le_of_ble_eq_true rfl) d_K_kind_11
  · rw [if_neg hc] at h
    refine mt_iload_n F hl 1 rfl rfl d_K_kind_4 ?_
    refine lv_bipush (v := 100) F.1 F.2.1 d_K_kind_5 (by decide) ?_
    refine lv_icmp_lt (tgt := 12) F.1 F.2.1 d_K_kind_7 (by decide) (fun hc => ?_) (fun hc => ?_)
    · rw [if_pos hc] at h
      refine mt_aload_n F hl 0 rfl rfl d_K_kind_12 ?_
      obtain ⟨v1, e_v1, h⟩ := mw_bind h
      refine mw_getR F hK hI (in_0 _) (hc_0) 0 (by decide) (mA k_42) rfl e_v1 d_K_kind_13 ?_
      obtain ⟨v2, e_v2, h⟩ := mw_bind h
      refine mw_getR F hK hI (in_2 _) (hc_2) 0 (by decide) (mA k_62) rfl e_v2 d_K_kind_16 ?_
      refine mt_iload_n F hl 1 rfl rfl d_K_kind_19 ?_
      obtain ⟨v3, e_v3, h⟩ := mw_bind h
      refine mw_aald F hK hI (t0 := 3) rfl e_v3 d_K_kind_20 ?_
      refine mt_astore_n F hl rfl (Nat.le_of_ble_eq_true rfl) rfl d_K_kind_21 (fun ls hl => ?_)
      have hl : mt_L ls 3 [(2, (.inr (.inr v3))), (0, (.inr (.inr (some b0)))), (1, (.inl a1))] := hl
      refine mt_aload_n F hl 0 rfl rfl d_K_kind_22 ?_
      refine mw_ifnonnull (tgt := 30) F d_K_kind_23 (by decide) (fun hc => ?_) (fun hc => ?_)
      · rw [if_neg hc] at h
        refine mt_aload_n F hl 0 rfl rfl d_K_kind_30 ?_
        obtain ⟨v4, e_v4, h⟩ := mw_bind h
        refine mw_getI F hK hI (in_1 _) (hc_1) 0 (by decide) (mA k_252) rfl e_v4 d_K_kind_31 ?_
        exact mw_iret F hI hr hlk h (Nat.le_of_ble_eq_true rfl) (Nat.le_of_ble_eq_true rfl) d_K_kind_34
      · rw [if_pos hc] at h
        refine lv_iconst (v := 0) F.1 F.2.1 d_K_kind_26 (by decide) ?_
        refine lv_goto (tgt := 34) F.1 F.2.1 d_K_kind_27 (by decide) ?_
        exact mw_iret F hI hr hlk h (Nat.le_of_ble_eq_true rfl) (Nat.le_of_ble_eq_true rfl) d_K_kind_34
    · rw [if_neg hc] at h
      refine lv_iconst (v := (-1)) F.1 F.2.1 d_K_kind_10 (by decide) ?_
      exact mw_iret F hI hr hlk h (Nat.le_of_ble_eq_true rfl) (Nat.le_of_ble_eq_true rfl) d_K_kind_11
abbrev rm_M_kind : Room := { frames := 1, cells := 0, slots := 0, locals := 25 }
set_option maxHeartbeats 4000000 in
set_option maxRecDepth 100000 in
theorem c_M_kind (l : Launch) (D : va_G) (dA : Nat → ClassId) (A : Nat → Prop) (b0 : Nat) (a1 : Int32) (S : mc_S) (out : (Int32 × mc_S)) (hf : f_M_kind b0 a1 S = some out) : Met l y_M_kind (cd_M_kind :: ALL) rm_M_kind (va_Pc [va_rf (some b0), .int a1] (mw_B D dA CL (TY dA) ZZ A S)) (va_Qi (fun x (_ : Unit) => x = out.1) (fun _ t => mw_R D dA CL A out.2 t) A) 0 0 A := by
  refine mw_ofW (cc := b_M_kind) (maxL := 2) (ret := (some .int)) [(.inr (.inr (some b0))), (.inl a1)] rfl (by decide +kernel) (Nat.le_of_ble_eq_true rfl) (L := [(0, (.inr (.inr (some b0)))), (1, (.inl a1))]) rfl (fun p e s m args below meth c F hr hlk hnm hK ls hl hI => ?_)
  have h := hf
  unfold f_M_kind at h
  refine mt_iload_n F hl 1 rfl rfl d_M_kind_0 ?_
  refine lv_i2l F.1 F.2.1 d_M_kind_1 rfl ?_
  refine lv_lconst (v := 0) F.1 F.2.1 d_M_kind_2 (by decide) ?_
  refine lv_ldc2 (v := 99) F.1 F.2.1 F.2.2.2.1 (F.2.2.2.2 _ (mA k_126)) d_M_kind_3 ?_
  obtain ⟨o1, e_o1, h⟩ := mw_bind h
  refine mw_calli hI (mw_runS F hK hI (c_M_in l D dA A _ _ _ _ _ e_o1) (cwS 3 F.2.2.2.2 (gd_S k_127 k_128 k_129 k_130) rfl rfl rfl hd_M_in ⟨Nat.le_of_ble_eq_true rfl, Nat.le_of_ble_eq_true rfl⟩) rfl hl.1 rfl (Nat.zero_le _) d_M_kind_6 ⟨(Nat.le_of_ble_eq_true rfl), (Nat.le_of_ble_eq_true rfl)⟩) (fun H locs hI => ?_)
  refine lv_if_eq (tgt := 24) F.1 F.2.1 d_M_kind_9 (by decide) (fun hc => ?_) (fun hc => ?_)
  · rw [if_pos hc] at h
    refine lv_iconst (v := (-1)) F.1 F.2.1 d_M_kind_24 (by decide) ?_
    exact mw_iret F hI hr hlk h (Nat.le_of_ble_eq_true rfl) (Nat.le_of_ble_eq_true rfl) d_M_kind_25
  · rw [if_neg hc] at h
    refine mt_aload_n F hl 0 rfl rfl d_M_kind_12 ?_
    obtain ⟨v2, e_v2, h⟩ := mw_bind h
    refine mw_getR F hK hI (in_4 _) (hc_4) 0 (by decide) (mA k_56) rfl e_v2 d_M_kind_13 ?_
    obtain ⟨v3, e_v3, h⟩ := mw_bind h
    refine mw_getR F hK hI (in_5 _) (hc_5) 0 (by decide) (mA k_63) rfl e_v3 d_M_kind_16 ?_
    refine mt_iload_n F hl 1 rfl rfl d_M_kind_19 ?_
    obtain ⟨v4, e_v4, h⟩ := mw_bind h
    refine mw_iald F hK hI (t0 := 0) rfl e_v4 d_M_kind_20 ?_
    refine lv_goto (tgt := 25) F.1 F.2.1 d_M_kind_21 (by decide) ?_
    exact mw_iret F hI hr hlk h (Nat.le_of_ble_eq_true rfl) (Nat.le_of_ble_eq_true rfl) d_M_kind_25
abbrev rm_K_size : Room := { frames := 0, cells := 0, slots := 0, locals := 0 }
set_option maxHeartbeats 4000000 in
set_option maxRecDepth 100000 in
theorem c_K_size (l : Launch) (D : va_G) (dA : Nat → ClassId) (A : Nat → Prop) (b0 : Nat) (a1 : Int32) (S : mc_S) (out : (Int32 × mc_S)) (hf : f_K_size b0 a1 S = some out) : Met l y_K_size (cd_K_size :: ALL) rm_K_size (va_Pc [va_rf (some b0), .int a1] (mw_B D dA CL (TY dA) ZZ A S)) (va_Qi (fun x (_ : Unit) => x = out.1) (fun _ t => mw_R D dA CL A out.2 t) A) 0 0 A := by
  refine mw_ofW (cc := b_K_size) (maxL := 3) (ret := (some .int)) [(.inr (.inr (some b0))), (.inl a1)] rfl (by decide +kernel) (Nat.le_of_ble_eq_true rfl) (L := [(0, (.inr (.inr (some b0)))), (1, (.inl a1))]) rfl (fun p e s m args below meth c F hr hlk hnm hK ls hl hI => ?_)
  have h := hf
  unfold f_K_size at h
  refine mt_iload_n F hl 1 rfl rfl d_K_size_0 ?_
  refine lv_if_lt (tgt := 10) F.1 F.2.1 d_K_size_1 (by decide) (fun hc => ?_) (fun hc => ?_)
  · rw [if_pos hc] at h
    refine lv_iconst (v := (-1)) F.1 F.2.1 d_K_size_10 (by decide) ?_
    exact mw_iret F hI hr hlk h (Nat.le_of_ble_eq_true rfl) (Nat.le_of_ble_eq_true rfl) d_K_size_11
  · rw [if_neg hc] at h
    refine mt_iload_n F hl 1 rfl rfl d_K_size_4 ?_
    refine lv_bipush (v := 100) F.1 F.2.1 d_K_size_5 (by decide) ?_
    refine lv_icmp_lt (tgt := 12) F.1 F.2.1 d_K_size_7 (by decide) (fun hc => ?_) (fun hc => ?_)
    · rw [if_pos hc] at h
      refine mt_aload_n F hl 0 rfl rfl d_K_size_12 ?_
      obtain ⟨v1, e_v1, h⟩ := mw_bind h
      refine mw_getR F hK hI (in_0 _) (hc_0) 0 (by decide) (mA k_42) rfl e_v1 d_K_size_13 ?_
      obtain ⟨v2, e_v2, h⟩ := mw_bind h
      refine mw_getR F hK hI (in_2 _) (hc_2) 0 (by decide) (mA k_62) rfl e_v2 d_K_size_16 ?_
      refine mt_iload_n F hl 1 rfl rfl d_K_size_19 ?_
      obtain ⟨v3, e_v3, h⟩ := mw_bind h
      refine mw_aald F hK hI (t0 := 3) rfl e_v3 d_K_size_20 ?_
      refine mt_astore_n F hl rfl (Nat.le_of_ble_eq_true rfl) rfl d_K_size_21 (fun ls hl => ?_)
      have hl : mt_L ls 3 [(2, (.inr (.inr v3))), (0, (.inr (.inr (some b0)))), (1, (.inl a1))] := hl
      refine mt_aload_n F hl 0 rfl rfl d_K_size_22 ?_
      refine mw_ifnonnull (tgt := 30) F d_K_size_23 (by decide) (fun hc => ?_) (fun hc => ?_)
      · rw [if_neg hc] at h
        refine mt_aload_n F hl 0 rfl rfl d_K_size_30 ?_
        obtain ⟨v4, e_v4, h⟩ := mw_bind h
        refine mw_getI F hK hI (in_1 _) (hc_1) 3 (by decide) (mA k_253) rfl e_v4 d_K_size_31 ?_
        exact mw_iret F hI hr hlk h (Nat.le_of_ble_eq_true rfl) (Nat.le_of_ble_eq_true rfl) d_K_size_34
      · rw [if_pos hc] at h
        refine lv_iconst (v := (-1)) F.1 F.2.1 d_K_size_26 (by decide) ?_
        refine lv_goto (tgt := 34) F.1 F.2.1 d_K_size_27 (by decide) ?_
        exact mw_iret F hI hr hlk h (Nat.le_of_ble_eq_true rfl) (Nat.le_of_ble_eq_true rfl) d_K_size_34
    · rw [if_neg hc] at h
      refine lv_iconst (v := (-1)) F.1 F.2.1 d_K_size_10 (by decide) ?_
      exact mw_iret F hI hr hlk h (Nat.le_of_ble_eq_true rfl) (Nat.le_of_ble_eq_true rfl) d_K_size_11
abbrev rm_M_size : Room := { frames := 2, cells := 0, slots := 0, locals := 46 }
set_option maxHeartbeats 4000000 in
set_option maxRecDepth 100000 in
theorem c_M_size (l : Launch) (D : va_G) (dA : Nat → ClassId) (A : Nat → Prop) (b0 : Nat) (a1 : Int32) (S : mc_S) (out : (Int32 × mc_S)) (hf : f_M_size b0 a1 S = some out) : Met l y_M_size (cd_M_size :: ALL) rm_M_size (va_Pc [va_rf (some b0), .int a1] (mw_B D dA CL (TY dA) ZZ A S)) (va_Qi (fun x (_ : Unit) => x = out.1) (fun _ t => mw_R D dA CL A out.2 t) A) 0 0 A := by
  refine mw_ofW (cc := b_M_size) (maxL := 2) (ret := (some .int)) [(.inr (.inr (some b0))), (.inl a1)] rfl (by decide +kernel) (Nat.le_of_ble_eq_true rfl) (L := [(0, (.inr (.inr (some b0)))), (1, (.inl a1))]) rfl (fun p e s m args below meth c F hr hlk hnm hK ls hl hI => ?_)
  have h := hf
  unfold f_M_size at h
  refine mt_aload_n F hl 0 rfl rfl d_M_size_0 ?_
  refine mt_iload_n F hl 1 rfl rfl d_M_size_1 ?_
  obtain ⟨b1, e_b1, h⟩ := mw_bind h
  obtain ⟨o2, e_o2, h⟩ := mw_bind h
  refine mw_calli hI (mw_runV F hK hI (c_M_isThere l D dA A _ _ _ _ e_o2) (cwV 1 F.2.2.2.2 (gd_V k_131 k_132 k_133 k_134 k_130) rfl rfl rfl hd_M_isThere ⟨Nat.le_of_ble_eq_true rfl, Nat.le_of_ble_eq_true rfl⟩) (hc_4) e_b1 rfl hl.1 rfl (Nat.zero_le _) d_M_size_2 ⟨(Nat.le_of_ble_eq_true rfl), (Nat.le_of_ble_eq_true rfl)⟩) (fun H locs hI => ?_)
  refine lv_if_eq (tgt := 20) F.1 F.2.1 d_M_size_5 (by decide) (fun hc => ?_) (fun hc => ?_)
  · rw [if_pos hc] at h
    refine lv_iconst (v := (-1)) F.1 F.2.1 d_M_size_20 (by decide) ?_
    exact mw_iret F hI hr hlk h (Nat.le_of_ble_eq_true rfl) (Nat.le_of_ble_eq_true rfl) d_M_size_21
  · rw [if_neg hc] at h
    refine mt_aload_n F hl 0 rfl rfl d_M_size_8 ?_
    obtain ⟨v3, e_v3, h⟩ := mw_bind h
    refine mw_getR F hK hI (in_4 _) (hc_4) 0 (by decide) (mA k_56) rfl e_v3 d_M_size_9 ?_
    obtain ⟨v4, e_v4, h⟩ := mw_bind h
    refine mw_getR F hK hI (in_5 _) (hc_5) 1 (by decide) (mA k_64) rfl e_v4 d_M_size_12 ?_
    refine mt_iload_n F hl 1 rfl rfl d_M_size_15 ?_
    obtain ⟨v5, e_v5, h⟩ := mw_bind h
    refine mw_iald F hK hI (t0 := 0) rfl e_v5 d_M_size_16 ?_
    refine lv_goto (tgt := 21) F.1 F.2.1 d_M_size_17 (by decide) ?_
    exact mw_iret F hI hr hlk h (Nat.le_of_ble_eq_true rfl) (Nat.le_of_ble_eq_true rfl) d_M_size_21
abbrev rm_T_objectsThere : Room := { frames := 0, cells := 0, slots := 0, locals := 0 }
set_option maxHeartbeats 4000000 in
set_option maxRecDepth 100000 in
theorem s_T_objectsThere (l : Launch) (D : va_G) (dA : Nat → ClassId) (A : Nat → Prop) (b0 : Nat) {p : Program} {e : Env} {s : State} {m : MethodId} {args : Array Value} {below : List Frame} {meth : Method} {c : Code} (F : CallFix p m c b_T_objectsThere 3 s args (cd_T_objectsThere :: ALL) y_T_objectsThere.cls) (hr : meth.sig.returnType = (some .int)) (hlk : meth.locks = false) (hnm : meth.name = y_T_objectsThere.name) (hK : mw_K D CL (TY dA) ZZ s) (out : (Int32 × mc_S)) : ∀ n : Nat, (∀ (x1 : Int32) (x2 : Int32) (S : mc_S) (H : Heap) (locs : List Loc) (ls : Array Slot), mw_I D dA CL A S s.heap H locs → mt_L ls 3 [(0, (.inr (.inr (some b0)))), (1, (.inl x1)), (2, (.inl x2))] → g_T_objectsThere b0 n x1 x2 S = some out → W p l e rm_T_objectsThere s m args below meth c H locs (0) (0) (MQ below (va_Qi (fun x (_ : Unit) => x = out.1) (fun _ t => mw_R D dA CL A out.2 t) A) args s 0 0 A) (F0 m 4 ls [])) := by
  intro n
  induction n with
  | zero =>
    intro x1 x2 S H locs ls hI hl h; have h : (none : Option (Int32 × mc_S)) = some out := h; cases h
  | succ k0 ih =>
    intro x1 x2 S H locs ls hI hl h
    have h : q_T_objectsThere_0 b0 (g_T_objectsThere b0 k0) x1 x2 S = some out := h
    unfold q_T_objectsThere_0 at h
    refine mt_iload_n F hl 2 rfl rfl d_T_objectsThere_4 ?_
    refine lv_bipush (v := 100) F.1 F.2.1 d_T_objectsThere_5 (by decide) ?_
    refine lv_icmp_ge (tgt := 28) F.1 F.2.1 d_T_objectsThere_7 (by decide) (fun hc => ?_) (fun hc => ?_)
    · rw [if_pos hc] at h
      refine mt_iload_n F hl 1 rfl rfl d_T_objectsThere_28 ?_
      exact mw_iret F hI hr hlk h (Nat.le_of_ble_eq_true rfl) (Nat.le_of_ble_eq_true rfl) d_T_objectsThere_29
    · rw [if_neg hc] at h
      refine mt_aload_n F hl 0 rfl rfl d_T_objectsThere_10 ?_
      obtain ⟨v1, e_v1, h⟩ := mw_bind h
      refine mw_getR F hK hI (in_2 _) (hc_2) 0 (by decide) (mA k_16) rfl e_v1 d_T_objectsThere_11 ?_
      refine mt_iload_n F hl 2 rfl rfl d_T_objectsThere_14 ?_
      obtain ⟨v2, e_v2, h⟩ := mw_bind h
      refine mw_aald F hK hI (t0 := 3) rfl e_v2 d_T_objectsThere_15 ?_
      refine mw_ifnull (tgt := 22) F d_T_objectsThere_16 (by decide) (fun hc => ?_) (fun hc => ?_)
      · rw [if_pos hc] at h
        refine mt_iinc (v := (x2 + 1)) F hl 2 rfl (by rw [show Int32.ofInt 1 = (1 : Int32) from by decide]) (Nat.le_of_ble_eq_true rfl) rfl d_T_objectsThere_22 (fun ls hl => ?_)
        have hl : mt_L ls 3 [(2, (.inl (x2 + 1))), (0, (.inr (.inr (some b0)))), (1, (.inl x1))] := hl
        refine lv_goto (tgt := 4) F.1 F.2.1 d_T_objectsThere_25 (by decide) ?_
        refine W.widen (k := 0) (n := 0) (Nat.le_of_ble_eq_true rfl) (Nat.le_of_ble_eq_true rfl) ?_
        exact ih _ _ _ _ _ _ hI (mt_sub hl [1, 2, 0] rfl) h
      · rw [if_neg hc] at h
        refine mt_iinc (v := (x1 + 1)) F hl 1 rfl (by rw [show Int32.ofInt 1 = (1 : Int32) from by decide]) (Nat.le_of_ble_eq_true rfl) rfl d_T_objectsThere_19 (fun ls hl => ?_)
        have hl : mt_L ls 3 [(1, (.inl (x1 + 1))), (0, (.inr (.inr (some b0)))), (2, (.inl x2))] := hl
        refine mt_iinc (v := (x2 + 1)) F hl 2 rfl (by rw [show Int32.ofInt 1 = (1 : Int32) from by decide]) (Nat.le_of_ble_eq_true rfl) rfl d_T_objectsThere_22 (fun ls hl => ?_)
        have hl : mt_L ls 3 [(2, (.inl (x2 + 1))), (1, (.inl (x1 + 1))), (0, (.inr (.inr (some b0))))] := hl
        refine lv_goto (tgt := 4) F.1 F.2.1 d_T_objectsThere_25 (by decide) ?_
        refine W.widen (k := 0) (n := 0) (Nat.le_of_ble_eq_true rfl) (Nat.le_of_ble_eq_true rfl) ?_
        exact ih _ _ _ _ _ _ hI (mt_sub hl [2, 1, 0] rfl) h
set_option maxHeartbeats 4000000 in
set_option maxRecDepth 100000 in
theorem c_T_objectsThere (l : Launch) (D : va_G) (dA : Nat → ClassId) (A : Nat → Prop) (b0 : Nat) (S : mc_S) (out : (Int32 × mc_S)) (hf : f_T_objectsThere b0 S = some out) : Met l y_T_objectsThere (cd_T_objectsThere :: ALL) rm_T_objectsThere (va_Pc [va_rf (some b0)] (mw_B D dA CL (TY dA) ZZ A S)) (va_Qi (fun x (_ : Unit) => x = out.1) (fun _ t => mw_R D dA CL A out.2 t) A) 0 0 A := by
  refine mw_ofW (cc := b_T_objectsThere) (maxL := 3) (ret := (some .int)) [(.inr (.inr (some b0)))] rfl (by decide +kernel) (Nat.le_of_ble_eq_true rfl) (L := [(0, (.inr (.inr (some b0))))]) rfl (fun p e s m args below meth c F hr hlk hnm hK ls hl hI => ?_)
  have h := hf
  unfold f_T_objectsThere at h
  refine lv_iconst (v := 0) F.1 F.2.1 d_T_objectsThere_0 (by decide) ?_
  refine mt_istore_n F hl rfl (Nat.le_of_ble_eq_true rfl) rfl d_T_objectsThere_1 (fun ls hl => ?_)
  have hl : mt_L ls 3 [(1, (.inl 0)), (0, (.inr (.inr (some b0))))] := hl
  refine lv_iconst (v := 0) F.1 F.2.1 d_T_objectsThere_2 (by decide) ?_
  refine mt_istore_n F hl rfl (Nat.le_of_ble_eq_true rfl) rfl d_T_objectsThere_3 (fun ls hl => ?_)
  have hl : mt_L ls 3 [(2, (.inl 0)), (1, (.inl 0)), (0, (.inr (.inr (some b0))))] := hl
  refine W.widen (k := 0) (n := 0) (Nat.le_of_ble_eq_true rfl) (Nat.le_of_ble_eq_true rfl) ?_
  exact (s_T_objectsThere l D dA A b0 F hr hlk hnm hK out 5000) _ _ _ _ _ _ hI (mt_sub hl [2, 1, 0] rfl) h
abbrev rm_K_count : Room := { frames := 1, cells := 0, slots := 0, locals := 22 }
set_option maxHeartbeats 4000000 in
set_option maxRecDepth 100000 in
theorem c_K_count (l : Launch) (D : va_G) (dA : Nat → ClassId) (A : Nat → Prop) (b0 : Nat) (a1 : Int32) (S : mc_S) (out : (Int32 × mc_S)) (hf : f_K_count b0 a1 S = some out) : Met l y_K_count (cd_K_count :: ALL) rm_K_count (va_Pc [va_rf (some b0), .int a1] (mw_B D dA CL (TY dA) ZZ A S)) (va_Qi (fun x (_ : Unit) => x = out.1) (fun _ t => mw_R D dA CL A out.2 t) A) 0 0 A := by
  refine mw_ofW (cc := b_K_count) (maxL := 2) (ret := (some .int)) [(.inr (.inr (some b0))), (.inl a1)] rfl (by decide +kernel) (Nat.le_of_ble_eq_true rfl) (L := [(0, (.inr (.inr (some b0)))), (1, (.inl a1))]) rfl (fun p e s m args below meth c F hr hlk hnm hK ls hl hI => ?_)
  have h := hf
  unfold f_K_count at h
  refine mt_iload_n F hl 1 rfl rfl d_K_count_0 ?_
  by_cases hk0 : a1 = (0 : Int32)
  · rw [if_pos hk0] at h
    refine mw_tabIn (tgt := 32) (off := 31) F hk0 d_K_count_1 (by decide) (by decide) (by rfl) (by decide) ?_
    refine mt_aload_n F hl 0 rfl rfl d_K_count_32 ?_
    obtain ⟨v1, e_v1, h⟩ := mw_bind h
    refine mw_getR F hK hI (in_0 _) (hc_0) 0 (by decide) (mA k_42) rfl e_v1 d_K_count_33 ?_
    obtain ⟨b2, e_b2, h⟩ := mw_bind h
    obtain ⟨o3, e_o3, h⟩ := mw_bind h
    refine mw_calli hI (mw_runV F hK hI (c_T_objectsThere l D dA A _ _ _ e_o3) (cwV 0 F.2.2.2.2 (gd_V k_254 k_255 k_256 k_257 k_38) rfl rfl rfl hd_T_objectsThere ⟨Nat.le_of_ble_eq_true rfl, Nat.le_of_ble_eq_true rfl⟩) (hc_2) e_b2 rfl hl.1 rfl (Nat.zero_le _) d_K_count_36 ⟨(Nat.le_of_ble_eq_true rfl), (Nat.le_of_ble_eq_true rfl)⟩) (fun H locs hI => ?_)
    exact mw_iret F hI hr hlk h (Nat.le_of_ble_eq_true rfl) (Nat.le_of_ble_eq_true rfl) d_K_count_39
  · rw [if_neg hk0] at h
    by_cases hk1 : a1 = (1 : Int32)
    · rw [if_pos hk1] at h
      refine mw_tabIn (tgt := 40) (off := 39) F hk1 d_K_count_1 (by decide) (by decide) (by rfl) (by decide) ?_
      refine mt_aload_n F hl 0 rfl rfl d_K_count_40 ?_
      obtain ⟨v4, e_v4, h⟩ := mw_bind h
      refine mw_getR F hK hI (in_0 _) (hc_0) 0 (by decide) (mA k_42) rfl e_v4 d_K_count_41 ?_
      obtain ⟨v5, e_v5, h⟩ := mw_bind h
      refine mw_getR F hK hI (in_2 _) (hc_2) 1 (by decide) (mA k_167) rfl e_v5 d_K_count_44 ?_
      obtain ⟨v6, e_v6, h⟩ := mw_bind h
      refine mw_getI F hK hI (in_1 _) (hc_1) 3 (by decide) (mA k_253) rfl e_v6 d_K_count_47 ?_
      exact mw_iret F hI hr hlk h (Nat.le_of_ble_eq_true rfl) (Nat.le_of_ble_eq_true rfl) d_K_count_50
    · rw [if_neg hk1] at h
      by_cases hk2 : a1 = (2 : Int32)
      · rw [if_pos hk2] at h
        refine mw_tabIn (tgt := 51) (off := 50) F hk2 d_K_count_1 (by decide) (by decide) (by rfl) (by decide) ?_
        refine mt_aload_n F hl 0 rfl rfl d_K_count_51 ?_
        obtain ⟨v7, e_v7, h⟩ := mw_bind h
        refine mw_getI F hK hI (in_0 _) (hc_0) 5 (by decide) (mA k_29) rfl e_v7 d_K_count_52 ?_
        exact mw_iret F hI hr hlk h (Nat.le_of_ble_eq_true rfl) (Nat.le_of_ble_eq_true rfl) d_K_count_55
      · rw [if_neg hk2] at h
        by_cases hk3 : a1 = (3 : Int32)
        · rw [if_pos hk3] at h
          refine mw_tabIn (tgt := 56) (off := 55) F hk3 d_K_count_1 (by decide) (by decide) (by rfl) (by decide) ?_
          refine mt_aload_n F hl 0 rfl rfl d_K_count_56 ?_
          obtain ⟨v8, e_v8, h⟩ := mw_bind h
          refine mw_getI F hK hI (in_0 _) (hc_0) 6 (by decide) (mA k_30) rfl e_v8 d_K_count_57 ?_
          exact mw_iret F hI hr hlk h (Nat.le_of_ble_eq_true rfl) (Nat.le_of_ble_eq_true rfl) d_K_count_60
        · rw [if_neg hk3] at h
          refine lv_tableOut (tgt := 61) F.1 F.2.1 d_K_count_1 (by have z0 := lv_neT hk0 (show (0 : Int32).toInt = 0 by decide); have z1 := lv_neT hk1 (show (1 : Int32).toInt = 1 by decide); have z2 := lv_neT hk2 (show (2 : Int32).toInt = 2 by decide); have z3 := lv_neT hk3 (show (3 : Int32).toInt = 3 by decide); omega) (by decide) ?_
          refine lv_iconst (v := (-1)) F.1 F.2.1 d_K_count_61 (by decide) ?_
          exact mw_iret F hI hr hlk h (Nat.le_of_ble_eq_true rfl) (Nat.le_of_ble_eq_true rfl) d_K_count_62
abbrev rm_M_count : Room := { frames := 0, cells := 0, slots := 0, locals := 0 }
set_option maxHeartbeats 4000000 in
set_option maxRecDepth 100000 in
theorem s_M_count (l : Launch) (D : va_G) (dA : Nat → ClassId) (A : Nat → Prop) (b0 : Nat) {p : Program} {e : Env} {s : State} {m : MethodId} {args : Array Value} {below : List Frame} {meth : Method} {c : Code} (F : CallFix p m c b_M_count 7 s args (cd_M_count :: ALL) y_M_count.cls) (hr : meth.sig.returnType = (some .int)) (hlk : meth.locks = false) (hnm : meth.name = y_M_count.name) (hK : mw_K D CL (TY dA) ZZ s) (out : (Int32 × mc_S)) : ∀ n : Nat, (∀ (x1 : Int32) (x2 : Int32) (r3 : Option Nat) (x4 : Int32) (x5 : Int32) (S : mc_S) (H : Heap) (locs : List Loc) (ls : Array Slot), mw_I D dA CL A S s.heap H locs → mt_L ls 7 [(0, (.inr (.inr (some b0)))), (1, (.inl x1)), (2, (.inl x2)), (3, (.inr (.inr r3))), (4, (.inl x4)), (5, (.inl x5))] → g_M_count b0 n x1 x2 r3 x4 x5 S = some out → W p l e rm_M_count s m args below meth c H locs (0) (0) (MQ below (va_Qi (fun x (_ : Unit) => x = out.1) (fun _ t => mw_R D dA CL A out.2 t) A) args s 0 0 A) (F0 m 47 ls [])) := by
  intro n
  induction n with
  | zero =>
    intro x1 x2 r3 x4 x5 S H locs ls hI hl h; have h : (none : Option (Int32 × mc_S)) = some out := h; cases h
  | succ k0 ih =>
    intro x1 x2 r3 x4 x5 S H locs ls hI hl h
    have h : q_M_count_0 b0 (g_M_count b0 k0) x1 x2 r3 x4 x5 S = some out := h
    unfold q_M_count_0 at h
    refine mt_iload F hl 5 rfl d_M_count_47 ?_
    refine mt_iload F hl 4 rfl d_M_count_49 ?_
    refine lv_icmp_ge (tgt := 74) F.1 F.2.1 d_M_count_51 (by decide) (fun hc => ?_) (fun hc => ?_)
    · rw [if_pos hc] at h
      refine mt_iload_n F hl 2 rfl rfl d_M_count_74 ?_
      exact mw_iret F hI hr hlk h (Nat.le_of_ble_eq_true rfl) (Nat.le_of_ble_eq_true rfl) d_M_count_75
    · rw [if_neg hc] at h
      refine mt_aload_n F hl 3 rfl rfl d_M_count_54 ?_
      refine mt_iload F hl 5 rfl d_M_count_55 ?_
      obtain ⟨v1, e_v1, h⟩ := mw_bind h
      refine mw_iald F hK hI (t0 := 0) rfl e_v1 d_M_count_57 ?_
      refine mt_istore F hl (Nat.le_of_ble_eq_true rfl) rfl d_M_count_58 (fun ls hl => ?_)
      have hl : mt_L ls 7 [(6, (.inl v1)), (0, (.inr (.inr (some b0)))), (1, (.inl x1)), (2, (.inl x2)), (3, (.inr (.inr r3))), (4, (.inl x4)), (5, (.inl x5))] := hl
      refine mt_iload F hl 0 rfl d_M_count_60 ?_
      refine lv_if_eq (tgt := 68) F.1 F.2.1 d_M_count_62 (by decide) (fun hc => ?_) (fun hc => ?_)
      · rw [if_pos hc] at h
        refine mt_iinc (v := (x5 + 1)) F hl 6 rfl (by rw [show Int32.ofInt 1 = (1 : Int32) from by decide]) (Nat.le_of_ble_eq_true rfl) rfl d_M_count_68 (fun ls hl => ?_)
        have hl : mt_L ls 7 [(5, (.inl (x5 + 1))), (6, (.inl v1)), (0, (.inr (.inr (some b0)))), (1, (.inl x1)), (2, (.inl x2)), (3, (.inr (.inr r3))), (4, (.inl x4))] := hl
        refine lv_goto (tgt := 47) F.1 F.2.1 d_M_count_71 (by decide) ?_
        refine W.widen (k := 0) (n := 0) (Nat.le_of_ble_eq_true rfl) (Nat.le_of_ble_eq_true rfl) ?_
        exact ih _ _ _ _ _ _ _ _ _ hI (mt_sub hl [2, 3, 4, 5, 6, 0] rfl) h
      · rw [if_neg hc] at h
        refine mt_iinc (v := (x2 + 1)) F hl 3 rfl (by rw [show Int32.ofInt 1 = (1 : Int32) from by decide]) (Nat.le_of_ble_eq_true rfl) rfl d_M_count_65 (fun ls hl => ?_)
        have hl : mt_L ls 7 [(2, (.inl (x2 + 1))), (6, (.inl v1)), (0, (.inr (.inr (some b0)))), (1, (.inl x1)), (3, (.inr (.inr r3))), (4, (.inl x4)), (5, (.inl x5))] := hl
        refine mt_iinc (v := (x5 + 1)) F hl 6 rfl (by rw [show Int32.ofInt 1 = (1 : Int32) from by decide]) (Nat.le_of_ble_eq_true rfl) rfl d_M_count_68 (fun ls hl => ?_)
        have hl : mt_L ls 7 [(5, (.inl (x5 + 1))), (2, (.inl (x2 + 1))), (6, (.inl v1)), (0, (.inr (.inr (some b0)))), (1, (.inl x1)), (3, (.inr (.inr r3))), (4, (.inl x4))] := hl
        refine lv_goto (tgt := 47) F.1 F.2.1 d_M_count_71 (by decide) ?_
        refine W.widen (k := 0) (n := 0) (Nat.le_of_ble_eq_true rfl) (Nat.le_of_ble_eq_true rfl) ?_
        exact ih _ _ _ _ _ _ _ _ _ hI (mt_sub hl [3, 4, 1, 5, 6, 0] rfl) h
set_option maxHeartbeats 4000000 in
set_option maxRecDepth 100000 in
theorem c_M_count (l : Launch) (D : va_G) (dA : Nat → ClassId) (A : Nat → Prop) (b0 : Nat) (a1 : Int32) (S : mc_S) (out : (Int32 × mc_S)) (hf : f_M_count b0 a1 S = some out) : Met l y_M_count (cd_M_count :: ALL) rm_M_count (va_Pc [va_rf (some b0), .int a1] (mw_B D dA CL (TY dA) ZZ A S)) (va_Qi (fun x (_ : Unit) => x = out.1) (fun _ t => mw_R D dA CL A out.2 t) A) 0 0 A := by
  refine mw_ofW (cc := b_M_count) (maxL := 7) (ret := (some .int)) [(.inr (.inr (some b0))), (.inl a1)] rfl (by decide +kernel) (Nat.le_of_ble_eq_true rfl) (L := [(0, (.inr (.inr (some b0)))), (1, (.inl a1))]) rfl (fun p e s m args below meth c F hr hlk hnm hK ls hl hI => ?_)
  have h := hf
  unfold f_M_count at h
  refine lv_iconst (v := 0) F.1 F.2.1 d_M_count_0 (by decide) ?_
  refine mt_istore_n F hl rfl (Nat.le_of_ble_eq_true rfl) rfl d_M_count_1 (fun ls hl => ?_)
  have hl : mt_L ls 7 [(2, (.inl 0)), (0, (.inr (.inr (some b0)))), (1, (.inl a1))] := hl
  refine mt_iload_n F hl 2 rfl rfl d_M_count_2 ?_
  by_cases hk0 : a1 = (0 : Int32)
  · rw [if_pos hk0] at h
    refine mw_tabIn (tgt := 32) (off := 29) F hk0 d_M_count_3 (by decide) (by decide) (by rfl) (by decide) ?_
    refine mt_aload_n F hl 1 rfl rfl d_M_count_32 ?_
    obtain ⟨v1, e_v1, h⟩ := mw_bind h
    refine mw_getR F hK hI (in_4 _) (hc_4) 0 (by decide) (mA k_56) rfl e_v1 d_M_count_33 ?_
    obtain ⟨v2, e_v2, h⟩ := mw_bind h
    refine mw_getR F hK hI (in_5 _) (hc_5) 0 (by decide) (mA k_63) rfl e_v2 d_M_count_36 ?_
    refine mt_astore_n F hl rfl (Nat.le_of_ble_eq_true rfl) rfl d_M_count_39 (fun ls hl => ?_)
    have hl : mt_L ls 7 [(3, (.inr (.inr v2))), (2, (.inl 0)), (0, (.inr (.inr (some b0)))), (1, (.inl a1))] := hl
    refine mt_aload_n F hl 0 rfl rfl d_M_count_40 ?_
    obtain ⟨v3, e_v3, h⟩ := mw_bind h
    refine mw_alen F hK hI (t0 := 0) rfl e_v3 d_M_count_41 ?_
    refine mt_istore F hl (Nat.le_of_ble_eq_true rfl) rfl d_M_count_42 (fun ls hl => ?_)
    have hl : mt_L ls 7 [(4, (.inl v3)), (3, (.inr (.inr v2))), (2, (.inl 0)), (0, (.inr (.inr (some b0)))), (1, (.inl a1))] := hl
    refine lv_iconst (v := 0) F.1 F.2.1 d_M_count_44 (by decide) ?_
    refine mt_istore F hl (Nat.le_of_ble_eq_true rfl) rfl d_M_count_45 (fun ls hl => ?_)
    have hl : mt_L ls 7 [(5, (.inl 0)), (4, (.inl v3)), (3, (.inr (.inr v2))), (2, (.inl 0)), (0, (.inr (.inr (some b0)))), (1, (.inl a1))] := hl
    refine W.widen (k := 0) (n := 0) (Nat.le_of_ble_eq_true rfl) (Nat.le_of_ble_eq_true rfl) ?_
    exact (s_M_count l D dA A b0 F hr hlk hnm hK out 5000) _ _ _ _ _ _ _ _ _ hI (mt_sub hl [4, 5, 3, 2, 1, 0] rfl) h
  · rw [if_neg hk0] at h
    by_cases hk1 : a1 = (1 : Int32)
    · rw [if_pos hk1] at h
      refine mw_tabIn (tgt := 76) (off := 73) F hk1 d_M_count_3 (by decide) (by decide) (by rfl) (by decide) ?_
      refine mt_aload_n F hl 1 rfl rfl d_M_count_76 ?_
      obtain ⟨v4, e_v4, h⟩ := mw_bind h
      refine mw_getR F hK hI (in_4 _) (hc_4) 0 (by decide) (mA k_56) rfl e_v4 d_M_count_77 ?_
      obtain ⟨v5, e_v5, h⟩ := mw_bind h
      refine mw_getI F hK hI (in_5 _) (hc_5) 6 (by decide) (mA k_178) rfl e_v5 d_M_count_80 ?_
      exact mw_iret F hI hr hlk h (Nat.le_of_ble_eq_true rfl) (Nat.le_of_ble_eq_true rfl) d_M_count_83
    · rw [if_neg hk1] at h
      by_cases hk2 : a1 = (2 : Int32)
      · rw [if_pos hk2] at h
        refine mw_tabIn (tgt := 84) (off := 81) F hk2 d_M_count_3 (by decide) (by decide) (by rfl) (by decide) ?_
        refine mt_aload_n F hl 1 rfl rfl d_M_count_84 ?_
        obtain ⟨v6, e_v6, h⟩ := mw_bind h
        refine mw_getI F hK hI (in_4 _) (hc_4) 4 (by decide) (mA k_212) rfl e_v6 d_M_count_85 ?_
        exact mw_iret F hI hr hlk h (Nat.le_of_ble_eq_true rfl) (Nat.le_of_ble_eq_true rfl) d_M_count_88
      · rw [if_neg hk2] at h
        by_cases hk3 : a1 = (3 : Int32)
        · rw [if_pos hk3] at h
          refine mw_tabIn (tgt := 89) (off := 86) F hk3 d_M_count_3 (by decide) (by decide) (by rfl) (by decide) ?_
          refine mt_aload_n F hl 1 rfl rfl d_M_count_89 ?_
          obtain ⟨v7, e_v7, h⟩ := mw_bind h
          refine mw_getI F hK hI (in_4 _) (hc_4) 5 (by decide) (mA k_211) rfl e_v7 d_M_count_90 ?_
          exact mw_iret F hI hr hlk h (Nat.le_of_ble_eq_true rfl) (Nat.le_of_ble_eq_true rfl) d_M_count_93
        · rw [if_neg hk3] at h
          refine lv_tableOut (tgt := 94) F.1 F.2.1 d_M_count_3 (by have z0 := lv_neT hk0 (show (0 : Int32).toInt = 0 by decide); have z1 := lv_neT hk1 (show (1 : Int32).toInt = 1 by decide); have z2 := lv_neT hk2 (show (2 : Int32).toInt = 2 by decide); have z3 := lv_neT hk3 (show (3 : Int32).toInt = 3 by decide); omega) (by decide) ?_
          refine lv_iconst (v := (-1)) F.1 F.2.1 d_M_count_94 (by decide) ?_
          exact mw_iret F hI hr hlk h (Nat.le_of_ble_eq_true rfl) (Nat.le_of_ble_eq_true rfl) d_M_count_95
