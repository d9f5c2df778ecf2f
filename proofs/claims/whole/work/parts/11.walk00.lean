abbrev rm_R_init : Room := { frames := 1, cells := 2, slots := 200, locals := 12 }
set_option maxHeartbeats 4000000 in
set_option maxRecDepth 100000 in
theorem c_R_init (l : Launch) (D : va_G) (dA : Nat → ClassId) (A : Nat → Prop) (b0 : Nat) (S : mc_S) (out : mc_S) (hf : f_R_init b0 S = some out) : Met l y_R_init (cd_R_init :: ALL) rm_R_init (va_Pc [va_rf (some b0)] (mw_B D dA CL (TY dA) ZZ A S)) (va_Qv (fun (_ : Unit) => True) (fun _ t => mw_R D dA CL A out t) A) 2 200 A := by
  refine mw_ofW (cc := b_R_init) (maxL := 1) (ret := none) [(.inr (.inr (some b0)))] rfl (by decide +kernel) (Nat.le_of_ble_eq_true rfl) (L := [(0, (.inr (.inr (some b0))))]) rfl (fun p e s m args below meth c F hr hlk hnm hK ls hl hI => ?_)
  have h := hf
  unfold f_R_init at h
  refine mt_aload_n F hl 0 rfl rfl d_R_init_0 ?_
  refine mw_objInit F (mA k_0) (mA k_1) (mA k_2) hl.1 d_R_init_1 (Nat.le_of_ble_eq_true rfl) (Nat.le_of_ble_eq_true rfl) ?_
  refine mt_aload_n F hl 0 rfl rfl d_R_init_4 ?_
  refine lv_bipush (v := 100) F.1 F.2.1 d_R_init_5 (by decide) ?_
  obtain ⟨S1, e_S1, h⟩ := mw_bind h
  refine mw_newa F hK hI (t0 := 2) (mA k_3) rfl rfl (fun _ => rfl) e_S1 (fun _ => rfl) (by decide) (Nat.le_of_ble_eq_true rfl) (Nat.le_of_ble_eq_true rfl) d_R_init_7 (fun H hI => ?_)
  obtain ⟨S2, e_S2, h⟩ := mw_bind h
  refine mw_putF F hK hI (in_3 _) ty_3 ok_3 nm_3 (hc_3) 0 (by decide) (mA k_4) rfl rfl hnm (mw_narA _ _) (mw_fitA _ _) e_S2 d_R_init_9 (fun H locs hI => ?_)
  refine mt_aload_n F hl 0 rfl rfl d_R_init_12 ?_
  refine lv_bipush (v := 100) F.1 F.2.1 d_R_init_13 (by decide) ?_
  obtain ⟨S3, e_S3, h⟩ := mw_bind h
  refine mw_newa F hK hI (t0 := 0) (mA k_5) rfl rfl (fun _ => rfl) e_S3 (fun _ => rfl) (by decide) (Nat.le_of_ble_eq_true rfl) (Nat.le_of_ble_eq_true rfl) d_R_init_15 (fun H hI => ?_)
  obtain ⟨S4, e_S4, h⟩ := mw_bind h
  refine mw_putF F hK hI (in_3 _) ty_3 ok_3 nm_3 (hc_3) 1 (by decide) (mA k_6) rfl rfl hnm (mw_narA _ _) (mw_fitA _ _) e_S4 d_R_init_17 (fun H locs hI => ?_)
  refine mt_aload_n F hl 0 rfl rfl d_R_init_20 ?_
  refine lv_iconst (v := 0) F.1 F.2.1 d_R_init_21 (by decide) ?_
  obtain ⟨S5, e_S5, h⟩ := mw_bind h
  refine mw_put F hK hI (in_3 _) ty_3 ok_3 nm_3 (hc_3) 2 (by decide) (mA k_7) rfl rfl rfl rfl e_S5 d_R_init_22 (fun H locs hI => ?_)
  exact mw_vret F hI hr hlk h (Nat.le_of_ble_eq_true rfl) (Nat.le_of_ble_eq_true rfl) d_R_init_25
abbrev rm_S_init : Room := { frames := 1, cells := 2, slots := 40, locals := 12 }
set_option maxHeartbeats 4000000 in
set_option maxRecDepth 100000 in
theorem c_S_init (l : Launch) (D : va_G) (dA : Nat → ClassId) (A : Nat → Prop) (b0 : Nat) (a1 : Int32) (a2 : Int32) (S : mc_S) (out : mc_S) (hf : f_S_init b0 a1 a2 S = some out) : Met l y_S_init (cd_S_init :: ALL) rm_S_init (va_Pc [va_rf (some b0), .int a1, .int a2] (mw_B D dA CL (TY dA) ZZ A S)) (va_Qv (fun (_ : Unit) => True) (fun _ t => mw_R D dA CL A out t) A) 2 40 A := by
  refine mw_ofW (cc := b_S_init) (maxL := 3) (ret := none) [(.inr (.inr (some b0))), (.inl a1), (.inl a2)] rfl (by decide +kernel) (Nat.le_of_ble_eq_true rfl) (L := [(0, (.inr (.inr (some b0)))), (1, (.inl a1)), (2, (.inl a2))]) rfl (fun p e s m args below meth c F hr hlk hnm hK ls hl hI => ?_)
  have h := hf
  unfold f_S_init at h
  refine mt_aload_n F hl 0 rfl rfl d_S_init_0 ?_
  refine mw_objInit F (mA k_8) (mA k_1) (mA k_2) hl.1 d_S_init_1 (Nat.le_of_ble_eq_true rfl) (Nat.le_of_ble_eq_true rfl) ?_
  refine mt_aload_n F hl 0 rfl rfl d_S_init_4 ?_
  refine lv_iconst (v := 0) F.1 F.2.1 d_S_init_5 (by decide) ?_
  obtain ⟨S1, e_S1, h⟩ := mw_bind h
  refine mw_put F hK hI (in_1 _) ty_1 ok_1 nm_1 (hc_1) 3 (by decide) (mA k_9) rfl rfl rfl rfl e_S1 d_S_init_6 (fun H locs hI => ?_)
  refine mt_aload_n F hl 0 rfl rfl d_S_init_9 ?_
  refine mt_iload_n F hl 1 rfl rfl d_S_init_10 ?_
  obtain ⟨S2, e_S2, h⟩ := mw_bind h
  refine mw_putF F hK hI (in_1 _) ty_1 ok_1 nm_1 (hc_1) 0 (by decide) (mA k_10) rfl rfl hnm rfl rfl e_S2 d_S_init_11 (fun H locs hI => ?_)
  refine mt_aload_n F hl 0 rfl rfl d_S_init_14 ?_
  refine mt_iload_n F hl 2 rfl rfl d_S_init_15 ?_
  obtain ⟨S3, e_S3, h⟩ := mw_bind h
  refine mw_newa F hK hI (t0 := 0) (mA k_5) rfl rfl (fun _ => rfl) e_S3 (fun _ => rfl) (by decide) (Nat.le_of_ble_eq_true rfl) (Nat.le_of_ble_eq_true rfl) d_S_init_16 (fun H hI => ?_)
  obtain ⟨S4, e_S4, h⟩ := mw_bind h
  refine mw_putF F hK hI (in_1 _) ty_1 ok_1 nm_1 (hc_1) 1 (by decide) (mA k_11) rfl rfl hnm (mw_narA _ _) (mw_fitA _ _) e_S4 d_S_init_18 (fun H locs hI => ?_)
  refine mt_aload_n F hl 0 rfl rfl d_S_init_21 ?_
  refine mt_iload_n F hl 2 rfl rfl d_S_init_22 ?_
  obtain ⟨S5, e_S5, h⟩ := mw_bind h
  refine mw_newa F hK hI (t0 := 1) (mA k_12) rfl rfl (fun _ => rfl) e_S5 (fun _ => rfl) (by decide) (Nat.le_of_ble_eq_true rfl) (Nat.le_of_ble_eq_true rfl) d_S_init_23 (fun H hI => ?_)
  obtain ⟨S6, e_S6, h⟩ := mw_bind h
  refine mw_putF F hK hI (in_1 _) ty_1 ok_1 nm_1 (hc_1) 2 (by decide) (mA k_13) rfl rfl hnm (mw_narA _ _) (mw_fitA _ _) e_S6 d_S_init_25 (fun H locs hI => ?_)
  exact mw_vret F hI hr hlk h (Nat.le_of_ble_eq_true rfl) (Nat.le_of_ble_eq_true rfl) d_S_init_28
abbrev rm_T_init : Room := { frames := 1, cells := 1, slots := 100, locals := 12 }
set_option maxHeartbeats 4000000 in
set_option maxRecDepth 100000 in
theorem c_T_init (l : Launch) (D : va_G) (dA : Nat → ClassId) (A : Nat → Prop) (b0 : Nat) (a1 : Option Nat) (S : mc_S) (out : mc_S) (hf : f_T_init b0 a1 S = some out) : Met l y_T_init (cd_T_init :: ALL) rm_T_init (va_Pc [va_rf (some b0), va_rf a1] (mw_B D dA CL (TY dA) ZZ A S)) (va_Qv (fun (_ : Unit) => True) (fun _ t => mw_R D dA CL A out t) A) 1 100 A := by
  refine mw_ofW (cc := b_T_init) (maxL := 2) (ret := none) [(.inr (.inr (some b0))), (.inr (.inr a1))] rfl (by decide +kernel) (Nat.le_of_ble_eq_true rfl) (L := [(0, (.inr (.inr (some b0)))), (1, (.inr (.inr a1)))]) rfl (fun p e s m args below meth c F hr hlk hnm hK ls hl hI => ?_)
  have h := hf
  unfold f_T_init at h
  refine mt_aload_n F hl 0 rfl rfl d_T_init_0 ?_
  refine mw_objInit F (mA k_14) (mA k_1) (mA k_2) hl.1 d_T_init_1 (Nat.le_of_ble_eq_true rfl) (Nat.le_of_ble_eq_true rfl) ?_
  refine mt_aload_n F hl 0 rfl rfl d_T_init_4 ?_
  refine lv_bipush (v := 100) F.1 F.2.1 d_T_init_5 (by decide) ?_
  obtain ⟨S1, e_S1, h⟩ := mw_bind h
  refine mw_anew F hK hI (t0 := 3) (mA k_15) (List.mem_of_getElem? (i := 0) rfl) rfl e_S1 (by decide) (Nat.le_of_ble_eq_true rfl) (Nat.le_of_ble_eq_true rfl) d_T_init_7 (fun H hI => ?_)
  obtain ⟨S2, e_S2, h⟩ := mw_bind h
  refine mw_putF F hK hI (in_2 _) ty_2 ok_2 nm_2 (hc_2) 0 (by decide) (mA k_16) rfl rfl hnm (mw_narA _ _) (mw_fitA _ _) e_S2 d_T_init_10 (fun H locs hI => ?_)
  refine mt_aload_n F hl 0 rfl rfl d_T_init_13 ?_
  refine mt_aload_n F hl 1 rfl rfl d_T_init_14 ?_
  obtain ⟨S3, e_S3, h⟩ := mw_bind h
  refine mw_put F hK hI (in_2 _) ty_2 ok_2 nm_2 (hc_2) 1 (by decide) (mA k_17) rfl rfl (mw_narO _ _) (mw_fitO _ _) e_S3 d_T_init_15 (fun H locs hI => ?_)
  exact mw_vret F hI hr hlk h (Nat.le_of_ble_eq_true rfl) (Nat.le_of_ble_eq_true rfl) d_T_init_18
abbrev rm_K_init : Room := { frames := 2, cells := 34, slots := 1591, locals := 34 }
set_option maxHeartbeats 4000000 in
set_option maxRecDepth 100000 in
theorem s_K_init (l : Launch) (D : va_G) (dA : Nat → ClassId) (A : Nat → Prop) (b0 : Nat) {p : Program} {e : Env} {s : State} {m : MethodId} {args : Array Value} {below : List Frame} {meth : Method} {c : Code} (F : CallFix p m c b_K_init 3 s args (cd_K_init :: ALL) y_K_init.cls) (hr : meth.sig.returnType = none) (hlk : meth.locks = false) (hnm : meth.name = y_K_init.name) (hK : mw_K D CL (TY dA) ZZ s) (out : mc_S) : ∀ n : Nat, n ≤ 12 → (∀ (r1 : Option Nat) (x2 : Int32) (S : mc_S) (H : Heap) (locs : List Loc) (ls : Array Slot), mw_I D dA CL A S s.heap H locs → mt_L ls 3 [(0, (.inr (.inr (some b0)))), (1, (.inr (.inr r1))), (2, (.inl x2))] → g_K_init b0 n r1 x2 S = some out → W p l e rm_K_init s m args below meth c H locs (10 + (12 - n) * 2) (367 + (12 - n) * 102) (MQ below (va_Qv (fun (_ : Unit) => True) (fun _ t => mw_R D dA CL A out t) A) args s 34 1591 A) (F0 m 72 ls [])) := by
  intro n
  induction n with
  | zero =>
    intro _
    intro r1 x2 S H locs ls hI hl h; have h : (none : Option mc_S) = some out := h; cases h
  | succ k0 ih =>
    intro hn0
    intro r1 x2 S H locs ls hI hl h
    have h : q_K_init_0 b0 (g_K_init b0 k0) r1 x2 S = some out := h
    unfold q_K_init_0 at h
    refine mt_iload_n F hl 2 rfl rfl d_K_init_72 ?_
    refine lv_bipush (v := 9) F.1 F.2.1 d_K_init_73 (by decide) ?_
    refine lv_icmp_ge (tgt := 98) F.1 F.2.1 d_K_init_75 (by decide) (fun hc => ?_) (fun hc => ?_)
    · rw [if_pos hc] at h
      exact mw_vret F hI hr hlk h (by show _ ≤ 34; omega) (by show _ ≤ 1591; omega) d_K_init_98
    · rw [if_neg hc] at h
      refine mt_aload_n F hl 0 rfl rfl d_K_init_78 ?_
      obtain ⟨v1, e_v1, h⟩ := mw_bind h
      refine mw_getR F hK hI (in_0 _) (hc_0) 1 (by decide) (mA k_20) rfl e_v1 d_K_init_79 ?_
      refine mt_iload_n F hl 2 rfl rfl d_K_init_82 ?_
      refine mw_new F hK hI (in_2 _) ty_2 ok_2 (mA k_19) (mA k_37) (mA k_38) (hc_2) (fs := [.null, .null]) df_2 (by show _ ≤ 34; omega) (by show _ ≤ 1591; omega) d_K_init_83 (fun H hI => ?_)
      refine lv_dup F.1 F.2.1 d_K_init_86 (mw_cat _) ?_
      refine mt_aload_n F hl 1 rfl rfl d_K_init_87 ?_
      obtain ⟨b2, e_b2, h⟩ := mw_bind h
      obtain ⟨S3, e_S3, h⟩ := mw_bind h
      refine mw_callv hI (mw_runI F hK hI (c_T_init l D dA A _ _ _ _ e_S3) (cwI 1 F.2.2.2.2 (gd_I k_39) rfl rfl rfl (F.2.2.2.2 _ (mA k_38)) (F.2.2.2.2 _ (mA k_40)) (F.2.2.2.2 _ (mA k_41)) rfl hd_T_init ⟨Nat.le_of_ble_eq_true rfl, Nat.le_of_ble_eq_true rfl⟩) e_b2 rfl hl.1 rfl (by simp [mw_cat, mw_cI, mw_cL]) d_K_init_88 ⟨(by show _ ≤ 34; omega), (by show _ ≤ 1591; omega)⟩) (fun H locs hI => ?_)
      obtain ⟨S4, e_S4, h⟩ := mw_bind h
      refine mw_aast F hK hI (t0 := 4) (ci := 2) (q0 := cq_2) rfl rfl e_S4 d_K_init_91 (fun H locs hI => ?_)
      refine mt_iinc (v := (x2 + 1)) F hl 2 rfl (by rw [show Int32.ofInt 1 = (1 : Int32) from by decide]) (Nat.le_of_ble_eq_true rfl) rfl d_K_init_92 (fun ls hl => ?_)
      have hl : mt_L ls 3 [(2, (.inl (x2 + 1))), (0, (.inr (.inr (some b0)))), (1, (.inr (.inr r1)))] := hl
      refine lv_goto (tgt := 72) F.1 F.2.1 d_K_init_95 (by decide) ?_
      refine W.widen (k := 10 + (12 - k0) * 2) (n := 367 + (12 - k0) * 102) (by omega) (by omega) ?_
      exact (ih (by omega)) _ _ _ _ _ _ hI (mt_sub hl [1, 2, 0] rfl) h
set_option maxHeartbeats 4000000 in
set_option maxRecDepth 100000 in
theorem c_K_init (l : Launch) (D : va_G) (dA : Nat → ClassId) (A : Nat → Prop) (b0 : Nat) (S : mc_S) (out : mc_S) (hf : f_K_init b0 S = some out) : Met l y_K_init (cd_K_init :: ALL) rm_K_init (va_Pc [va_rf (some b0)] (mw_B D dA CL (TY dA) ZZ A S)) (va_Qv (fun (_ : Unit) => True) (fun _ t => mw_R D dA CL A out t) A) 34 1591 A := by
  refine mw_ofW (cc := b_K_init) (maxL := 3) (ret := none) [(.inr (.inr (some b0)))] rfl (by decide +kernel) (Nat.le_of_ble_eq_true rfl) (L := [(0, (.inr (.inr (some b0))))]) rfl (fun p e s m args below meth c F hr hlk hnm hK ls hl hI => ?_)
  have h := hf
  unfold f_K_init at h
  refine mt_aload_n F hl 0 rfl rfl d_K_init_0 ?_
  refine mw_objInit F (mA k_18) (mA k_1) (mA k_2) hl.1 d_K_init_1 (Nat.le_of_ble_eq_true rfl) (Nat.le_of_ble_eq_true rfl) ?_
  refine mt_aload_n F hl 0 rfl rfl d_K_init_4 ?_
  refine lv_bipush (v := 9) F.1 F.2.1 d_K_init_5 (by decide) ?_
  obtain ⟨S1, e_S1, h⟩ := mw_bind h
  refine mw_anew F hK hI (t0 := 4) (mA k_19) (List.mem_of_getElem? (i := 1) rfl) rfl e_S1 (by decide) (by show _ ≤ 34; omega) (by show _ ≤ 1591; omega) d_K_init_7 (fun H hI => ?_)
  obtain ⟨S2, e_S2, h⟩ := mw_bind h
  refine mw_putF F hK hI (in_0 _) ty_0 ok_0 nm_0 (hc_0) 1 (by decide) (mA k_20) rfl rfl hnm (mw_narA _ _) (mw_fitA _ _) e_S2 d_K_init_10 (fun H locs hI => ?_)
  refine mt_aload_n F hl 0 rfl rfl d_K_init_13 ?_
  refine lv_bipush (v := 9) F.1 F.2.1 d_K_init_14 (by decide) ?_
  obtain ⟨S3, e_S3, h⟩ := mw_bind h
  refine mw_newa F hK hI (t0 := 0) (mA k_5) rfl rfl (fun _ => rfl) e_S3 (fun _ => rfl) (by decide) (by show _ ≤ 34; omega) (by show _ ≤ 1591; omega) d_K_init_16 (fun H hI => ?_)
  obtain ⟨S4, e_S4, h⟩ := mw_bind h
  refine mw_putF F hK hI (in_0 _) ty_0 ok_0 nm_0 (hc_0) 2 (by decide) (mA k_21) rfl rfl hnm (mw_narA _ _) (mw_fitA _ _) e_S4 d_K_init_18 (fun H locs hI => ?_)
  refine mt_aload_n F hl 0 rfl rfl d_K_init_21 ?_
  refine mw_new F hK hI (in_3 _) ty_3 ok_3 (mA k_22) (mA k_23) (mA k_24) (hc_3) (fs := [.null, .null, .int 0]) df_3 (by show _ ≤ 34; omega) (by show _ ≤ 1591; omega) d_K_init_22 (fun H hI => ?_)
  refine lv_dup F.1 F.2.1 d_K_init_25 (mw_cat _) ?_
  obtain ⟨b5, e_b5, h⟩ := mw_bind h
  obtain ⟨S6, e_S6, h⟩ := mw_bind h
  refine mw_callv hI (mw_runIN F hK hI (c_R_init l D dA A _ _ _ e_S6) ⟨va_cnB 0 F.2.2.2.2 (gd_I k_25) rfl rfl rfl (hK.2.1 _ (List.mem_of_getElem? (i := 0) rfl)) (F.2.2.2.2 _ (mA k_24)) hd_R_init ⟨Nat.le_of_ble_eq_true rfl, Nat.le_of_ble_eq_true rfl⟩, rfl, F.2.2.2.2 _ (mA k_26)⟩ e_b5 rfl hl.1 rfl (by simp [mw_cat, mw_cI, mw_cL]) d_K_init_26 ⟨(by show _ ≤ 34; omega), (by show _ ≤ 1591; omega)⟩) (fun H locs hI => ?_)
  obtain ⟨S7, e_S7, h⟩ := mw_bind h
  refine mw_putF F hK hI (in_0 _) ty_0 ok_0 nm_0 (hc_0) 3 (by decide) (mA k_27) rfl rfl hnm (mw_narO _ _) (mw_fitO _ _) e_S7 d_K_init_29 (fun H locs hI => ?_)
  refine mt_aload_n F hl 0 rfl rfl d_K_init_32 ?_
  refine lv_iconst (v := 0) F.1 F.2.1 d_K_init_33 (by decide) ?_
  obtain ⟨S8, e_S8, h⟩ := mw_bind h
  refine mw_put F hK hI (in_0 _) ty_0 ok_0 nm_0 (hc_0) 4 (by decide) (mA k_28) rfl rfl rfl rfl e_S8 d_K_init_34 (fun H locs hI => ?_)
  refine mt_aload_n F hl 0 rfl rfl d_K_init_37 ?_
  refine lv_iconst (v := 0) F.1 F.2.1 d_K_init_38 (by decide) ?_
  obtain ⟨S9, e_S9, h⟩ := mw_bind h
  refine mw_put F hK hI (in_0 _) ty_0 ok_0 nm_0 (hc_0) 5 (by decide) (mA k_29) rfl rfl rfl rfl e_S9 d_K_init_39 (fun H locs hI => ?_)
  refine mt_aload_n F hl 0 rfl rfl d_K_init_42 ?_
  refine lv_iconst (v := 0) F.1 F.2.1 d_K_init_43 (by decide) ?_
  obtain ⟨S10, e_S10, h⟩ := mw_bind h
  refine mw_put F hK hI (in_0 _) ty_0 ok_0 nm_0 (hc_0) 6 (by decide) (mA k_30) rfl rfl rfl rfl e_S10 d_K_init_44 (fun H locs hI => ?_)
  refine mw_new F hK hI (in_1 _) ty_1 ok_1 (mA k_31) (mA k_32) (mA k_33) (hc_1) (fs := [.int 0, .null, .null, .int 0]) df_1 (by show _ ≤ 34; omega) (by show _ ≤ 1591; omega) d_K_init_47 (fun H hI => ?_)
  refine lv_dup F.1 F.2.1 d_K_init_50 (mw_cat _) ?_
  refine lv_iconst (v := 1) F.1 F.2.1 d_K_init_51 (by decide) ?_
  refine lv_bipush (v := 12) F.1 F.2.1 d_K_init_52 (by decide) ?_
  obtain ⟨b11, e_b11, h⟩ := mw_bind h
  obtain ⟨S12, e_S12, h⟩ := mw_bind h
  refine mw_callv hI (mw_runI F hK hI (c_S_init l D dA A _ _ _ _ _ e_S12) (cwI 2 F.2.2.2.2 (gd_I k_34) rfl rfl rfl (F.2.2.2.2 _ (mA k_33)) (F.2.2.2.2 _ (mA k_35)) (F.2.2.2.2 _ (mA k_36)) rfl hd_S_init ⟨Nat.le_of_ble_eq_true rfl, Nat.le_of_ble_eq_true rfl⟩) e_b11 rfl hl.1 rfl (by simp [mw_cat, mw_cI, mw_cL]) d_K_init_54 ⟨(by show _ ≤ 34; omega), (by show _ ≤ 1591; omega)⟩) (fun H locs hI => ?_)
  refine mt_astore_n F hl rfl (Nat.le_of_ble_eq_true rfl) rfl d_K_init_57 (fun ls hl => ?_)
  have hl : mt_L ls 3 [(1, (.inr (.inr (some S10.2)))), (0, (.inr (.inr (some b0))))] := hl
  refine mt_aload_n F hl 1 rfl rfl d_K_init_58 ?_
  refine mw_new F hK hI (in_2 _) ty_2 ok_2 (mA k_19) (mA k_37) (mA k_38) (hc_2) (fs := [.null, .null]) df_2 (by show _ ≤ 34; omega) (by show _ ≤ 1591; omega) d_K_init_59 (fun H hI => ?_)
  refine lv_dup F.1 F.2.1 d_K_init_62 (mw_cat _) ?_
  refine mt_aload_n F hl 0 rfl rfl d_K_init_63 ?_
  obtain ⟨b13, e_b13, h⟩ := mw_bind h
  obtain ⟨S14, e_S14, h⟩ := mw_bind h
  refine mw_callv hI (mw_runI F hK hI (c_T_init l D dA A _ _ _ _ e_S14) (cwI 1 F.2.2.2.2 (gd_I k_39) rfl rfl rfl (F.2.2.2.2 _ (mA k_38)) (F.2.2.2.2 _ (mA k_40)) (F.2.2.2.2 _ (mA k_41)) rfl hd_T_init ⟨Nat.le_of_ble_eq_true rfl, Nat.le_of_ble_eq_true rfl⟩) e_b13 rfl hl.1 rfl (by simp [mw_cat, mw_cI, mw_cL]) d_K_init_64 ⟨(by show _ ≤ 34; omega), (by show _ ≤ 1591; omega)⟩) (fun H locs hI => ?_)
  obtain ⟨S15, e_S15, h⟩ := mw_bind h
  refine mw_putF F hK hI (in_0 _) ty_0 ok_0 nm_0 (hc_0) 0 (by decide) (mA k_42) rfl rfl hnm (mw_narO _ _) (mw_fitO _ _) e_S15 d_K_init_67 (fun H locs hI => ?_)
  refine lv_iconst (v := 0) F.1 F.2.1 d_K_init_70 (by decide) ?_
  refine mt_istore_n F hl rfl (Nat.le_of_ble_eq_true rfl) rfl d_K_init_71 (fun ls hl => ?_)
  have hl : mt_L ls 3 [(2, (.inl 0)), (1, (.inr (.inr (some S10.2)))), (0, (.inr (.inr (some b0))))] := hl
  refine W.widen (k := 10 + (12 - 12) * 2) (n := 367 + (12 - 12) * 102) (by omega) (by omega) ?_
  exact (s_K_init l D dA A b0 F hr hlk hnm hK out 12 (Nat.le_refl _)) _ _ _ _ _ _ hI (mt_sub hl [2, 1, 0] rfl) h
abbrev rm_N_init : Room := { frames := 1, cells := 6, slots := 3024, locals := 12 }
set_option maxHeartbeats 4000000 in
set_option maxRecDepth 100000 in
theorem c_N_init (l : Launch) (D : va_G) (dA : Nat → ClassId) (A : Nat → Prop) (b0 : Nat) (S : mc_S) (out : mc_S) (hf : f_N_init b0 S = some out) : Met l y_N_init (cd_N_init :: ALL) rm_N_init (va_Pc [va_rf (some b0)] (mw_B D dA CL (TY dA) ZZ A S)) (va_Qv (fun (_ : Unit) => True) (fun _ t => mw_R D dA CL A out t) A) 6 3024 A := by
  refine mw_ofW (cc := b_N_init) (maxL := 1) (ret := none) [(.inr (.inr (some b0)))] rfl (by decide +kernel) (Nat.le_of_ble_eq_true rfl) (L := [(0, (.inr (.inr (some b0))))]) rfl (fun p e s m args below meth c F hr hlk hnm hK ls hl hI => ?_)
  have h := hf
  unfold f_N_init at h
  refine mt_aload_n F hl 0 rfl rfl d_N_init_0 ?_
  refine mw_objInit F (mA k_43) (mA k_1) (mA k_2) hl.1 d_N_init_1 (Nat.le_of_ble_eq_true rfl) (Nat.le_of_ble_eq_true rfl) ?_
  refine mt_aload_n F hl 0 rfl rfl d_N_init_4 ?_
  refine lv_bipush (v := 100) F.1 F.2.1 d_N_init_5 (by decide) ?_
  obtain ⟨S1, e_S1, h⟩ := mw_bind h
  refine mw_newa F hK hI (t0 := 0) (mA k_5) rfl rfl (fun _ => rfl) e_S1 (fun _ => rfl) (by decide) (Nat.le_of_ble_eq_true rfl) (Nat.le_of_ble_eq_true rfl) d_N_init_7 (fun H hI => ?_)
  obtain ⟨S2, e_S2, h⟩ := mw_bind h
  refine mw_putF F hK hI (in_5 _) ty_5 ok_5 nm_5 (hc_5) 0 (by decide) (mA k_44) rfl rfl hnm (mw_narA _ _) (mw_fitA _ _) e_S2 d_N_init_9 (fun H locs hI => ?_)
  refine mt_aload_n F hl 0 rfl rfl d_N_init_12 ?_
  refine lv_bipush (v := 100) F.1 F.2.1 d_N_init_13 (by decide) ?_
  obtain ⟨S3, e_S3, h⟩ := mw_bind h
  refine mw_newa F hK hI (t0 := 0) (mA k_5) rfl rfl (fun _ => rfl) e_S3 (fun _ => rfl) (by decide) (Nat.le_of_ble_eq_true rfl) (Nat.le_of_ble_eq_true rfl) d_N_init_15 (fun H hI => ?_)
  obtain ⟨S4, e_S4, h⟩ := mw_bind h
  refine mw_putF F hK hI (in_5 _) ty_5 ok_5 nm_5 (hc_5) 1 (by decide) (mA k_45) rfl rfl hnm (mw_narA _ _) (mw_fitA _ _) e_S4 d_N_init_17 (fun H locs hI => ?_)
  refine mt_aload_n F hl 0 rfl rfl d_N_init_20 ?_
  refine lv_sipush (v := 800) F.1 F.2.1 d_N_init_21 (by decide) ?_
  obtain ⟨S5, e_S5, h⟩ := mw_bind h
  refine mw_newa F hK hI (t0 := 0) (mA k_5) rfl rfl (fun _ => rfl) e_S5 (fun _ => rfl) (by decide) (Nat.le_of_ble_eq_true rfl) (Nat.le_of_ble_eq_true rfl) d_N_init_24 (fun H hI => ?_)
  obtain ⟨S6, e_S6, h⟩ := mw_bind h
  refine mw_putF F hK hI (in_5 _) ty_5 ok_5 nm_5 (hc_5) 2 (by decide) (mA k_46) rfl rfl hnm (mw_narA _ _) (mw_fitA _ _) e_S6 d_N_init_26 (fun H locs hI => ?_)
  refine mt_aload_n F hl 0 rfl rfl d_N_init_29 ?_
  refine lv_bipush (v := 12) F.1 F.2.1 d_N_init_30 (by decide) ?_
  obtain ⟨S7, e_S7, h⟩ := mw_bind h
  refine mw_newa F hK hI (t0 := 0) (mA k_5) rfl rfl (fun _ => rfl) e_S7 (fun _ => rfl) (by decide) (Nat.le_of_ble_eq_true rfl) (Nat.le_of_ble_eq_true rfl) d_N_init_32 (fun H hI => ?_)
  obtain ⟨S8, e_S8, h⟩ := mw_bind h
  refine mw_putF F hK hI (in_5 _) ty_5 ok_5 nm_5 (hc_5) 3 (by decide) (mA k_47) rfl rfl hnm (mw_narA _ _) (mw_fitA _ _) e_S8 d_N_init_34 (fun H locs hI => ?_)
  refine mt_aload_n F hl 0 rfl rfl d_N_init_37 ?_
  refine lv_sipush (v := 2000) F.1 F.2.1 d_N_init_38 (by decide) ?_
  obtain ⟨S9, e_S9, h⟩ := mw_bind h
  refine mw_newa F hK hI (t0 := 1) (mA k_12) rfl rfl (fun _ => rfl) e_S9 (fun _ => rfl) (by decide) (Nat.le_of_ble_eq_true rfl) (Nat.le_of_ble_eq_true rfl) d_N_init_41 (fun H hI => ?_)
  obtain ⟨S10, e_S10, h⟩ := mw_bind h
  refine mw_putF F hK hI (in_5 _) ty_5 ok_5 nm_5 (hc_5) 4 (by decide) (mA k_48) rfl rfl hnm (mw_narA _ _) (mw_fitA _ _) e_S10 d_N_init_43 (fun H locs hI => ?_)
  refine mt_aload_n F hl 0 rfl rfl d_N_init_46 ?_
  refine lv_bipush (v := 12) F.1 F.2.1 d_N_init_47 (by decide) ?_
  obtain ⟨S11, e_S11, h⟩ := mw_bind h
  refine mw_newa F hK hI (t0 := 1) (mA k_12) rfl rfl (fun _ => rfl) e_S11 (fun _ => rfl) (by decide) (Nat.le_of_ble_eq_true rfl) (Nat.le_of_ble_eq_true rfl) d_N_init_49 (fun H hI => ?_)
  obtain ⟨S12, e_S12, h⟩ := mw_bind h
  refine mw_putF F hK hI (in_5 _) ty_5 ok_5 nm_5 (hc_5) 5 (by decide) (mA k_49) rfl rfl hnm (mw_narA _ _) (mw_fitA _ _) e_S12 d_N_init_51 (fun H locs hI => ?_)
  exact mw_vret F hI hr hlk h (Nat.le_of_ble_eq_true rfl) (Nat.le_of_ble_eq_true rfl) d_N_init_54
abbrev rm_M_init : Room := { frames := 2, cells := 108, slots := 45688, locals := 32 }
set_option maxHeartbeats 4000000 in
set_option maxRecDepth 100000 in
theorem s_M_init (l : Launch) (D : va_G) (dA : Nat → ClassId) (A : Nat → Prop) (b0 : Nat) {p : Program} {e : Env} {s : State} {m : MethodId} {args : Array Value} {below : List Frame} {meth : Method} {c : Code} (F : CallFix p m c b_M_init 2 s args (cd_M_init :: ALL) y_M_init.cls) (hr : meth.sig.returnType = none) (hlk : meth.locks = false) (hnm : meth.name = y_M_init.name) (hK : mw_K D CL (TY dA) ZZ s) (out : mc_S) : ∀ n : Nat, n ≤ 12 → (∀ (x1 : Int32) (S : mc_S) (H : Heap) (locs : List Loc) (ls : Array Slot), mw_I D dA CL A S s.heap H locs → mt_L ls 2 [(0, (.inr (.inr (some b0)))), (1, (.inl x1))] → g_M_init b0 n x1 S = some out → W p l e rm_M_init s m args below meth c H locs (24 + (12 - n) * 7) (9304 + (12 - n) * 3032) (MQ below (va_Qv (fun (_ : Unit) => True) (fun _ t => mw_R D dA CL A out t) A) args s 108 45688 A) (F0 m 64 ls [])) := by
  intro n
  induction n with
  | zero =>
    intro _
    intro x1 S H locs ls hI hl h; have h : (none : Option mc_S) = some out := h; cases h
  | succ k0 ih =>
    intro hn0
    intro x1 S H locs ls hI hl h
    have h : q_M_init_0 b0 (g_M_init b0 k0) x1 S = some out := h
    unfold q_M_init_0 at h
    refine mt_iload_n F hl 1 rfl rfl d_M_init_64 ?_
    refine lv_bipush (v := 8) F.1 F.2.1 d_M_init_65 (by decide) ?_
    refine lv_icmp_ge (tgt := 89) F.1 F.2.1 d_M_init_67 (by decide) (fun hc => ?_) (fun hc => ?_)
    · rw [if_pos hc] at h
      exact mw_vret F hI hr hlk h (by show _ ≤ 108; omega) (by show _ ≤ 45688; omega) d_M_init_89
    · rw [if_neg hc] at h
      refine mt_aload_n F hl 0 rfl rfl d_M_init_70 ?_
      obtain ⟨v1, e_v1, h⟩ := mw_bind h
      refine mw_getR F hK hI (in_4 _) (hc_4) 3 (by decide) (mA k_59) rfl e_v1 d_M_init_71 ?_
      refine mt_iload_n F hl 1 rfl rfl d_M_init_74 ?_
      refine mw_new F hK hI (in_5 _) ty_5 ok_5 (mA k_51) (mA k_52) (mA k_53) (hc_5) (fs := [.null, .null, .null, .null, .null, .null, .int 0, .int 0]) df_5 (by show _ ≤ 108; omega) (by show _ ≤ 45688; omega) d_M_init_75 (fun H hI => ?_)
      refine lv_dup F.1 F.2.1 d_M_init_78 (mw_cat _) ?_
      obtain ⟨b2, e_b2, h⟩ := mw_bind h
      obtain ⟨S3, e_S3, h⟩ := mw_bind h
      refine mw_callv hI (mw_runIN F hK hI (c_N_init l D dA A _ _ _ e_S3) ⟨va_cnB 0 F.2.2.2.2 (gd_I k_54) rfl rfl rfl (hK.2.1 _ (List.mem_of_getElem? (i := 1) rfl)) (F.2.2.2.2 _ (mA k_53)) hd_N_init ⟨Nat.le_of_ble_eq_true rfl, Nat.le_of_ble_eq_true rfl⟩, rfl, F.2.2.2.2 _ (mA k_55)⟩ e_b2 rfl hl.1 rfl (by simp [mw_cat, mw_cI, mw_cL]) d_M_init_79 ⟨(by show _ ≤ 108; omega), (by show _ ≤ 45688; omega)⟩) (fun H locs hI => ?_)
      obtain ⟨S4, e_S4, h⟩ := mw_bind h
      refine mw_aast F hK hI (t0 := 5) (ci := 5) (q0 := cq_5) rfl rfl e_S4 d_M_init_82 (fun H locs hI => ?_)
      refine mt_iinc (v := (x1 + 1)) F hl 1 rfl (by rw [show Int32.ofInt 1 = (1 : Int32) from by decide]) (Nat.le_of_ble_eq_true rfl) rfl d_M_init_83 (fun ls hl => ?_)
      have hl : mt_L ls 2 [(1, (.inl (x1 + 1))), (0, (.inr (.inr (some b0))))] := hl
      refine lv_goto (tgt := 64) F.1 F.2.1 d_M_init_86 (by decide) ?_
      refine W.widen (k := 24 + (12 - k0) * 7) (n := 9304 + (12 - k0) * 3032) (by omega) (by omega) ?_
      exact (ih (by omega)) _ _ _ _ _ hI (mt_sub hl [1, 0] rfl) h
set_option maxHeartbeats 4000000 in
set_option maxRecDepth 100000 in
theorem c_M_init (l : Launch) (D : va_G) (dA : Nat → ClassId) (A : Nat → Prop) (b0 : Nat) (S : mc_S) (out : mc_S) (hf : f_M_init b0 S = some out) : Met l y_M_init (cd_M_init :: ALL) rm_M_init (va_Pc [va_rf (some b0)] (mw_B D dA CL (TY dA) ZZ A S)) (va_Qv (fun (_ : Unit) => True) (fun _ t => mw_R D dA CL A out t) A) 108 45688 A := by
  refine mw_ofW (cc := b_M_init) (maxL := 2) (ret := none) [(.inr (.inr (some b0)))] rfl (by decide +kernel) (Nat.le_of_ble_eq_true rfl) (L := [(0, (.inr (.inr (some b0))))]) rfl (fun p e s m args below meth c F hr hlk hnm hK ls hl hI => ?_)
  have h := hf
  unfold f_M_init at h
  refine mt_aload_n F hl 0 rfl rfl d_M_init_0 ?_
  refine mw_objInit F (mA k_50) (mA k_1) (mA k_2) hl.1 d_M_init_1 (Nat.le_of_ble_eq_true rfl) (Nat.le_of_ble_eq_true rfl) ?_
  refine mt_aload_n F hl 0 rfl rfl d_M_init_4 ?_
  refine mw_new F hK hI (in_5 _) ty_5 ok_5 (mA k_51) (mA k_52) (mA k_53) (hc_5) (fs := [.null, .null, .null, .null, .null, .null, .int 0, .int 0]) df_5 (by show _ ≤ 108; omega) (by show _ ≤ 45688; omega) d_M_init_5 (fun H hI => ?_)
  refine lv_dup F.1 F.2.1 d_M_init_8 (mw_cat _) ?_
  obtain ⟨b1, e_b1, h⟩ := mw_bind h
  obtain ⟨S2, e_S2, h⟩ := mw_bind h
  refine mw_callv hI (mw_runIN F hK hI (c_N_init l D dA A _ _ _ e_S2) ⟨va_cnB 0 F.2.2.2.2 (gd_I k_54) rfl rfl rfl (hK.2.1 _ (List.mem_of_getElem? (i := 1) rfl)) (F.2.2.2.2 _ (mA k_53)) hd_N_init ⟨Nat.le_of_ble_eq_true rfl, Nat.le_of_ble_eq_true rfl⟩, rfl, F.2.2.2.2 _ (mA k_55)⟩ e_b1 rfl hl.1 rfl (by simp [mw_cat, mw_cI, mw_cL]) d_M_init_9 ⟨(by show _ ≤ 108; omega), (by show _ ≤ 45688; omega)⟩) (fun H locs hI => ?_)
  obtain ⟨S3, e_S3, h⟩ := mw_bind h
  refine mw_putF F hK hI (in_4 _) ty_4 ok_4 nm_4 (hc_4) 0 (by decide) (mA k_56) rfl rfl hnm (mw_narO _ _) (mw_fitO _ _) e_S3 d_M_init_12 (fun H locs hI => ?_)
  refine mt_aload_n F hl 0 rfl rfl d_M_init_15 ?_
  refine mw_new F hK hI (in_5 _) ty_5 ok_5 (mA k_51) (mA k_52) (mA k_53) (hc_5) (fs := [.null, .null, .null, .null, .null, .null, .int 0, .int 0]) df_5 (by show _ ≤ 108; omega) (by show _ ≤ 45688; omega) d_M_init_16 (fun H hI => ?_)
  refine lv_dup F.1 F.2.1 d_M_init_19 (mw_cat _) ?_
  obtain ⟨b4, e_b4, h⟩ := mw_bind h
  obtain ⟨S5, e_S5, h⟩ := mw_bind h
  refine mw_callv hI (mw_runIN F hK hI (c_N_init l D dA A _ _ _ e_S5) ⟨va_cnB 0 F.2.2.2.2 (gd_I k_54) rfl rfl rfl (hK.2.1 _ (List.mem_of_getElem? (i := 1) rfl)) (F.2.2.2.2 _ (mA k_53)) hd_N_init ⟨Nat.le_of_ble_eq_true rfl, Nat.le_of_ble_eq_true rfl⟩, rfl, F.2.2.2.2 _ (mA k_55)⟩ e_b4 rfl hl.1 rfl (by simp [mw_cat, mw_cI, mw_cL]) d_M_init_20 ⟨(by show _ ≤ 108; omega), (by show _ ≤ 45688; omega)⟩) (fun H locs hI => ?_)
  obtain ⟨S6, e_S6, h⟩ := mw_bind h
  refine mw_putF F hK hI (in_4 _) ty_4 ok_4 nm_4 (hc_4) 1 (by decide) (mA k_57) rfl rfl hnm (mw_narO _ _) (mw_fitO _ _) e_S6 d_M_init_23 (fun H locs hI => ?_)
  refine mt_aload_n F hl 0 rfl rfl d_M_init_26 ?_
  refine mw_new F hK hI (in_5 _) ty_5 ok_5 (mA k_51) (mA k_52) (mA k_53) (hc_5) (fs := [.null, .null, .null, .null, .null, .null, .int 0, .int 0]) df_5 (by show _ ≤ 108; omega) (by show _ ≤ 45688; omega) d_M_init_27 (fun H hI => ?_)
  refine lv_dup F.1 F.2.1 d_M_init_30 (mw_cat _) ?_
  obtain ⟨b7, e_b7, h⟩ := mw_bind h
  obtain ⟨S8, e_S8, h⟩ := mw_bind h
  refine mw_callv hI (mw_runIN F hK hI (c_N_init l D dA A _ _ _ e_S8) ⟨va_cnB 0 F.2.2.2.2 (gd_I k_54) rfl rfl rfl (hK.2.1 _ (List.mem_of_getElem? (i := 1) rfl)) (F.2.2.2.2 _ (mA k_53)) hd_N_init ⟨Nat.le_of_ble_eq_true rfl, Nat.le_of_ble_eq_true rfl⟩, rfl, F.2.2.2.2 _ (mA k_55)⟩ e_b7 rfl hl.1 rfl (by simp [mw_cat, mw_cI, mw_cL]) d_M_init_31 ⟨(by show _ ≤ 108; omega), (by show _ ≤ 45688; omega)⟩) (fun H locs hI => ?_)
  obtain ⟨S9, e_S9, h⟩ := mw_bind h
  refine mw_putF F hK hI (in_4 _) ty_4 ok_4 nm_4 (hc_4) 2 (by decide) (mA k_58) rfl rfl hnm (mw_narO _ _) (mw_fitO _ _) e_S9 d_M_init_34 (fun H locs hI => ?_)
  refine mt_aload_n F hl 0 rfl rfl d_M_init_37 ?_
  refine lv_bipush (v := 8) F.1 F.2.1 d_M_init_38 (by decide) ?_
  obtain ⟨S10, e_S10, h⟩ := mw_bind h
  refine mw_anew F hK hI (t0 := 5) (mA k_51) (List.mem_of_getElem? (i := 2) rfl) rfl e_S10 (by decide) (by show _ ≤ 108; omega) (by show _ ≤ 45688; omega) d_M_init_40 (fun H hI => ?_)
  obtain ⟨S11, e_S11, h⟩ := mw_bind h
  refine mw_putF F hK hI (in_4 _) ty_4 ok_4 nm_4 (hc_4) 3 (by decide) (mA k_59) rfl rfl hnm (mw_narA _ _) (mw_fitA _ _) e_S11 d_M_init_43 (fun H locs hI => ?_)
  refine mt_aload_n F hl 0 rfl rfl d_M_init_46 ?_
  refine lv_bipush (v := 100) F.1 F.2.1 d_M_init_47 (by decide) ?_
  obtain ⟨S12, e_S12, h⟩ := mw_bind h
  refine mw_newa F hK hI (t0 := 2) (mA k_3) rfl rfl (fun _ => rfl) e_S12 (fun _ => rfl) (by decide) (by show _ ≤ 108; omega) (by show _ ≤ 45688; omega) d_M_init_49 (fun H hI => ?_)
  obtain ⟨S13, e_S13, h⟩ := mw_bind h
  refine mw_putF F hK hI (in_4 _) ty_4 ok_4 nm_4 (hc_4) 6 (by decide) (mA k_60) rfl rfl hnm (mw_narA _ _) (mw_fitA _ _) e_S13 d_M_init_51 (fun H locs hI => ?_)
  refine mt_aload_n F hl 0 rfl rfl d_M_init_54 ?_
  refine lv_bipush (v := 100) F.1 F.2.1 d_M_init_55 (by decide) ?_
  obtain ⟨S14, e_S14, h⟩ := mw_bind h
  refine mw_newa F hK hI (t0 := 0) (mA k_5) rfl rfl (fun _ => rfl) e_S14 (fun _ => rfl) (by decide) (by show _ ≤ 108; omega) (by show _ ≤ 45688; omega) d_M_init_57 (fun H hI => ?_)
  obtain ⟨S15, e_S15, h⟩ := mw_bind h
  refine mw_putF F hK hI (in_4 _) ty_4 ok_4 nm_4 (hc_4) 7 (by decide) (mA k_61) rfl rfl hnm (mw_narA _ _) (mw_fitA _ _) e_S15 d_M_init_59 (fun H locs hI => ?_)
  refine lv_iconst (v := 0) F.1 F.2.1 d_M_init_62 (by decide) ?_
  refine mt_istore_n F hl rfl (Nat.le_of_ble_eq_true rfl) rfl d_M_init_63 (fun ls hl => ?_)
  have hl : mt_L ls 2 [(1, (.inl 0)), (0, (.inr (.inr (some b0))))] := hl
  refine W.widen (k := 24 + (12 - 12) * 7) (n := 9304 + (12 - 12) * 3032) (by omega) (by omega) ?_
  exact (s_M_init l D dA A b0 F hr hlk hnm hK out 12 (Nat.le_refl _)) _ _ _ _ _ hI (mt_sub hl [1, 0] rfl) h
abbrev rm_K_make : Room := { frames := 2, cells := 3, slots := 44, locals := 34 }
set_option maxHeartbeats 4000000 in
set_option maxRecDepth 100000 in
theorem s_K_make (l : Launch) (D : va_G) (dA : Nat → ClassId) (A : Nat → Prop) (b0 : Nat) {p : Program} {e : Env} {s : State} {m : MethodId} {args : Array Value} {below : List Frame} {meth : Method} {c : Code} (F : CallFix p m c b_K_make 3 s args (cd_K_make :: ALL) y_K_make.cls) (hr : meth.sig.returnType = (some .int)) (hlk : meth.locks = false) (hnm : meth.name = y_K_make.name) (hK : mw_K D CL (TY dA) ZZ s) (out : (Int32 × mc_S)) : ∀ n : Nat, (∀ (x1 : Int32) (x2 : Int32) (S : mc_S) (H : Heap) (locs : List Loc) (ls : Array Slot), mw_I D dA CL A S s.heap H locs → mt_L ls 3 [(0, (.inr (.inr (some b0)))), (1, (.inl x1)), (2, (.inl x2))] → g_K_make b0 n x1 x2 S = some out → W p l e rm_K_make s m args below meth c H locs (0) (0) (MQ below (va_Qi (fun x (_ : Unit) => x = out.1) (fun _ t => mw_R D dA CL A out.2 t) A) args s 3 44 A) (F0 m 2 ls [])) := by
  intro n
  induction n with
  | zero =>
    intro x1 x2 S H locs ls hI hl h; have h : (none : Option (Int32 × mc_S)) = some out := h; cases h
  | succ k0 ih =>
    intro x1 x2 S H locs ls hI hl h
    have h : q_K_make_0 b0 (g_K_make b0 k0) x1 x2 S = some out := h
    unfold q_K_make_0 at h
    refine mt_iload_n F hl 2 rfl rfl d_K_make_2 ?_
    refine lv_bipush (v := 100) F.1 F.2.1 d_K_make_3 (by decide) ?_
    refine lv_icmp_ge (tgt := 64) F.1 F.2.1 d_K_make_5 (by decide) (fun hc => ?_) (fun hc => ?_)
    · rw [if_pos hc] at h
      refine lv_bipush (v := (-3)) F.1 F.2.1 d_K_make_64 (by decide) ?_
      exact mw_iret F hI hr hlk h (Nat.le_of_ble_eq_true rfl) (Nat.le_of_ble_eq_true rfl) d_K_make_66
    · rw [if_neg hc] at h
      refine mt_aload_n F hl 0 rfl rfl d_K_make_8 ?_
      obtain ⟨v1, e_v1, h⟩ := mw_bind h
      refine mw_getR F hK hI (in_0 _) (hc_0) 0 (by decide) (mA k_42) rfl e_v1 d_K_make_9 ?_
      obtain ⟨v2, e_v2, h⟩ := mw_bind h
      refine mw_getR F hK hI (in_2 _) (hc_2) 0 (by decide) (mA k_62) rfl e_v2 d_K_make_12 ?_
      refine mt_iload_n F hl 2 rfl rfl d_K_make_15 ?_
      obtain ⟨v3, e_v3, h⟩ := mw_bind h
      refine mw_aald F hK hI (t0 := 3) rfl e_v3 d_K_make_16 ?_
      refine mw_ifnonnull (tgt := 58) F d_K_make_17 (by decide) (fun hc => ?_) (fun hc => ?_)
      · rw [if_neg hc] at h
        refine mt_iinc (v := (x2 + 1)) F hl 2 rfl (by rw [show Int32.ofInt 1 = (1 : Int32) from by decide]) (Nat.le_of_ble_eq_true rfl) rfl d_K_make_58 (fun ls hl => ?_)
        have hl : mt_L ls 3 [(2, (.inl (x2 + 1))), (0, (.inr (.inr (some b0)))), (1, (.inl x1))] := hl
        refine lv_goto (tgt := 2) F.1 F.2.1 d_K_make_61 (by decide) ?_
        refine W.widen (k := 0) (n := 0) (Nat.le_of_ble_eq_true rfl) (Nat.le_of_ble_eq_true rfl) ?_
        exact ih _ _ _ _ _ _ hI (mt_sub hl [1, 2, 0] rfl) h
      · rw [if_pos hc] at h
        refine mt_aload_n F hl 0 rfl rfl d_K_make_20 ?_
        obtain ⟨v4, e_v4, h⟩ := mw_bind h
        refine mw_getR F hK hI (in_0 _) (hc_0) 0 (by decide) (mA k_42) rfl e_v4 d_K_make_21 ?_
        obtain ⟨v5, e_v5, h⟩ := mw_bind h
        refine mw_getR F hK hI (in_2 _) (hc_2) 0 (by decide) (mA k_62) rfl e_v5 d_K_make_24 ?_
        refine mt_iload_n F hl 2 rfl rfl d_K_make_27 ?_
        refine mt_iload_n F hl 1 rfl rfl d_K_make_28 ?_
        refine lv_if_eq (tgt := 45) F.1 F.2.1 d_K_make_29 (by decide) (fun hc => ?_) (fun hc => ?_)
        · rw [if_pos hc] at h
          refine mw_new F hK hI (in_1 _) ty_1 ok_1 (mA k_31) (mA k_32) (mA k_33) (hc_1) (fs := [.int 0, .null, .null, .int 0]) df_1 (Nat.le_of_ble_eq_true rfl) (Nat.le_of_ble_eq_true rfl) d_K_make_45 (fun H hI => ?_)
          refine lv_dup F.1 F.2.1 d_K_make_48 (mw_cat _) ?_
          refine lv_iconst (v := 1) F.1 F.2.1 d_K_make_49 (by decide) ?_
          refine lv_bipush (v := 8) F.1 F.2.1 d_K_make_50 (by decide) ?_
          obtain ⟨b6, e_b6, h⟩ := mw_bind h
          obtain ⟨S7, e_S7, h⟩ := mw_bind h
          refine mw_callv hI (mw_runI F hK hI (c_S_init l D dA A _ _ _ _ _ e_S7) (cwI 2 F.2.2.2.2 (gd_I k_34) rfl rfl rfl (F.2.2.2.2 _ (mA k_33)) (F.2.2.2.2 _ (mA k_35)) (F.2.2.2.2 _ (mA k_36)) rfl hd_S_init ⟨Nat.le_of_ble_eq_true rfl, Nat.le_of_ble_eq_true rfl⟩) e_b6 rfl hl.1 rfl (by simp [mw_cat, mw_cI, mw_cL]) d_K_make_52 ⟨(Nat.le_of_ble_eq_true rfl), (Nat.le_of_ble_eq_true rfl)⟩) (fun H locs hI => ?_)
          obtain ⟨S8, e_S8, h⟩ := mw_bind h
          refine mw_aast F hK hI (t0 := 3) (ci := 1) (q0 := cq_1) rfl rfl e_S8 d_K_make_55 (fun H locs hI => ?_)
          refine mt_iload_n F hl 2 rfl rfl d_K_make_56 ?_
          exact mw_iret F hI hr hlk h (Nat.le_of_ble_eq_true rfl) (Nat.le_of_ble_eq_true rfl) d_K_make_57
        · rw [if_neg hc] at h
          refine mw_new F hK hI (in_1 _) ty_1 ok_1 (mA k_31) (mA k_32) (mA k_33) (hc_1) (fs := [.int 0, .null, .null, .int 0]) df_1 (Nat.le_of_ble_eq_true rfl) (Nat.le_of_ble_eq_true rfl) d_K_make_32 (fun H hI => ?_)
          refine lv_dup F.1 F.2.1 d_K_make_35 (mw_cat _) ?_
          refine lv_iconst (v := 2) F.1 F.2.1 d_K_make_36 (by decide) ?_
          refine lv_bipush (v := 20) F.1 F.2.1 d_K_make_37 (by decide) ?_
          obtain ⟨b9, e_b9, h⟩ := mw_bind h
          obtain ⟨S10, e_S10, h⟩ := mw_bind h
          refine mw_callv hI (mw_runI F hK hI (c_S_init l D dA A _ _ _ _ _ e_S10) (cwI 2 F.2.2.2.2 (gd_I k_34) rfl rfl rfl (F.2.2.2.2 _ (mA k_33)) (F.2.2.2.2 _ (mA k_35)) (F.2.2.2.2 _ (mA k_36)) rfl hd_S_init ⟨Nat.le_of_ble_eq_true rfl, Nat.le_of_ble_eq_true rfl⟩) e_b9 rfl hl.1 rfl (by simp [mw_cat, mw_cI, mw_cL]) d_K_make_39 ⟨(Nat.le_of_ble_eq_true rfl), (Nat.le_of_ble_eq_true rfl)⟩) (fun H locs hI => ?_)
          refine lv_goto (tgt := 55) F.1 F.2.1 d_K_make_42 (by decide) ?_
          obtain ⟨S11, e_S11, h⟩ := mw_bind h
          refine mw_aast F hK hI (t0 := 3) (ci := 1) (q0 := cq_1) rfl rfl e_S11 d_K_make_55 (fun H locs hI => ?_)
          refine mt_iload_n F hl 2 rfl rfl d_K_make_56 ?_
          exact mw_iret F hI hr hlk h (Nat.le_of_ble_eq_true rfl) (Nat.le_of_ble_eq_true rfl) d_K_make_57
set_option maxHeartbeats 4000000 in
set_option maxRecDepth 100000 in
theorem c_K_make (l : Launch) (D : va_G) (dA : Nat → ClassId) (A : Nat → Prop) (b0 : Nat) (a1 : Int32) (S : mc_S) (out : (Int32 × mc_S)) (hf : f_K_make b0 a1 S = some out) : Met l y_K_make (cd_K_make :: ALL) rm_K_make (va_Pc [va_rf (some b0), .int a1] (mw_B D dA CL (TY dA) ZZ A S)) (va_Qi (fun x (_ : Unit) => x = out.1) (fun _ t => mw_R D dA CL A out.2 t) A) 3 44 A := by
  refine mw_ofW (cc := b_K_make) (maxL := 3) (ret := (some .int)) [(.inr (.inr (some b0))), (.inl a1)] rfl (by decide +kernel) (Nat.le_of_ble_eq_true rfl) (L := [(0, (.inr (.inr (some b0)))), (1, (.inl a1))]) rfl (fun p e s m args below meth c F hr hlk hnm hK ls hl hI => ?_)
  have h := hf
  unfold f_K_make at h
  refine lv_iconst (v := 0) F.1 F.2.1 d_K_make_0 (by decide) ?_
  refine mt_istore_n F hl rfl (Nat.le_of_ble_eq_true rfl) rfl d_K_make_1 (fun ls hl => ?_)
  have hl : mt_L ls 3 [(2, (.inl 0)), (0, (.inr (.inr (some b0)))), (1, (.inl a1))] := hl
  refine W.widen (k := 0) (n := 0) (Nat.le_of_ble_eq_true rfl) (Nat.le_of_ble_eq_true rfl) ?_
  exact (s_K_make l D dA A b0 F hr hlk hnm hK out 5000) _ _ _ _ _ _ hI (mt_sub hl [1, 2, 0] rfl) h
abbrev rm_M_make : Room := { frames := 0, cells := 0, slots := 0, locals := 0 }
set_option maxHeartbeats 4000000 in
set_option maxRecDepth 100000 in
theorem s_M_make (l : Launch) (D : va_G) (dA : Nat → ClassId) (A : Nat → Prop) (b0 : Nat) {p : Program} {e : Env} {s : State} {m : MethodId} {args : Array Value} {below : List Frame} {meth : Method} {c : Code} (F : CallFix p m c b_M_make 3 s args (cd_M_make :: ALL) y_M_make.cls) (hr : meth.sig.returnType = (some .int)) (hlk : meth.locks = false) (hnm : meth.name = y_M_make.name) (hK : mw_K D CL (TY dA) ZZ s) (out : (Int32 × mc_S)) : ∀ n : Nat, (∀ (x1 : Int32) (x2 : Int32) (S : mc_S) (H : Heap) (locs : List Loc) (ls : Array Slot), mw_I D dA CL A S s.heap H locs → mt_L ls 3 [(0, (.inr (.inr (some b0)))), (1, (.inl x1)), (2, (.inl x2))] → g_M_make b0 n x1 x2 S = some out → W p l e rm_M_make s m args below meth c H locs (0) (0) (MQ below (va_Qi (fun x (_ : Unit) => x = out.1) (fun _ t => mw_R D dA CL A out.2 t) A) args s 0 0 A) (F0 m 2 ls [])) := by
  intro n
  induction n with
  | zero =>
    intro x1 x2 S H locs ls hI hl h; have h : (none : Option (Int32 × mc_S)) = some out := h; cases h
  | succ k0 ih =>
    intro x1 x2 S H locs ls hI hl h
    have h : q_M_make_0 b0 (g_M_make b0 k0) x1 x2 S = some out := h
    unfold q_M_make_0 at h
    refine mt_iload_n F hl 2 rfl rfl d_M_make_2 ?_
    refine lv_bipush (v := 100) F.1 F.2.1 d_M_make_3 (by decide) ?_
    refine lv_icmp_ge (tgt := 59) F.1 F.2.1 d_M_make_5 (by decide) (fun hc => ?_) (fun hc => ?_)
    · rw [if_pos hc] at h
      refine lv_bipush (v := (-3)) F.1 F.2.1 d_M_make_59 (by decide) ?_
      exact mw_iret F hI hr hlk h (Nat.le_of_ble_eq_true rfl) (Nat.le_of_ble_eq_true rfl) d_M_make_61
    · rw [if_neg hc] at h
      refine mt_aload_n F hl 0 rfl rfl d_M_make_8 ?_
      obtain ⟨v1, e_v1, h⟩ := mw_bind h
      refine mw_getR F hK hI (in_4 _) (hc_4) 0 (by decide) (mA k_56) rfl e_v1 d_M_make_9 ?_
      obtain ⟨v2, e_v2, h⟩ := mw_bind h
      refine mw_getR F hK hI (in_5 _) (hc_5) 0 (by decide) (mA k_63) rfl e_v2 d_M_make_12 ?_
      refine mt_iload_n F hl 2 rfl rfl d_M_make_15 ?_
      obtain ⟨v3, e_v3, h⟩ := mw_bind h
      refine mw_iald F hK hI (t0 := 0) rfl e_v3 d_M_make_16 ?_
      refine lv_if_eq (tgt := 23) F.1 F.2.1 d_M_make_17 (by decide) (fun hc => ?_) (fun hc => ?_)
      · rw [if_pos hc] at h
        refine mt_aload_n F hl 0 rfl rfl d_M_make_23 ?_
        obtain ⟨v4, e_v4, h⟩ := mw_bind h
        refine mw_getR F hK hI (in_4 _) (hc_4) 0 (by decide) (mA k_56) rfl e_v4 d_M_make_24 ?_
        obtain ⟨v5, e_v5, h⟩ := mw_bind h
        refine mw_getR F hK hI (in_5 _) (hc_5) 0 (by decide) (mA k_63) rfl e_v5 d_M_make_27 ?_
        refine mt_iload_n F hl 2 rfl rfl d_M_make_30 ?_
        refine mt_iload_n F hl 1 rfl rfl d_M_make_31 ?_
        refine lv_if_eq (tgt := 39) F.1 F.2.1 d_M_make_32 (by decide) (fun hc => ?_) (fun hc => ?_)
        · rw [if_pos hc] at h
          refine lv_iconst (v := 1) F.1 F.2.1 d_M_make_39 (by decide) ?_
          obtain ⟨S6, e_S6, h⟩ := mw_bind h
          refine mw_iast F hK hI (t0 := 0) rfl e_S6 d_M_make_40 (fun H locs hI => ?_)
          refine mt_aload_n F hl 0 rfl rfl d_M_make_41 ?_
          obtain ⟨v7, e_v7, h⟩ := mw_bind h
          refine mw_getR F hK hI (in_4 _) (hc_4) 0 (by decide) (mA k_56) rfl e_v7 d_M_make_42 ?_
          obtain ⟨v8, e_v8, h⟩ := mw_bind h
          refine mw_getR F hK hI (in_5 _) (hc_5) 1 (by decide) (mA k_64) rfl e_v8 d_M_make_45 ?_
          refine mt_iload_n F hl 2 rfl rfl d_M_make_48 ?_
          refine lv_iconst (v := 0) F.1 F.2.1 d_M_make_49 (by decide) ?_
          obtain ⟨S9, e_S9, h⟩ := mw_bind h
          refine mw_iast F hK hI (t0 := 0) rfl e_S9 d_M_make_50 (fun H locs hI => ?_)
          refine mt_iload_n F hl 2 rfl rfl d_M_make_51 ?_
          exact mw_iret F hI hr hlk h (Nat.le_of_ble_eq_true rfl) (Nat.le_of_ble_eq_true rfl) d_M_make_52
        · rw [if_neg hc] at h
          refine lv_iconst (v := 2) F.1 F.2.1 d_M_make_35 (by decide) ?_
          refine lv_goto (tgt := 40) F.1 F.2.1 d_M_make_36 (by decide) ?_
          obtain ⟨S10, e_S10, h⟩ := mw_bind h
          refine mw_iast F hK hI (t0 := 0) rfl e_S10 d_M_make_40 (fun H locs hI => ?_)
          refine mt_aload_n F hl 0 rfl rfl d_M_make_41 ?_
          obtain ⟨v11, e_v11, h⟩ := mw_bind h
          refine mw_getR F hK hI (in_4 _) (hc_4) 0 (by decide) (mA k_56) rfl e_v11 d_M_make_42 ?_
          obtain ⟨v12, e_v12, h⟩ := mw_bind h
          refine mw_getR F hK hI (in_5 _) (hc_5) 1 (by decide) (mA k_64) rfl e_v12 d_M_make_45 ?_
          refine mt_iload_n F hl 2 rfl rfl d_M_make_48 ?_
          refine lv_iconst (v := 0) F.1 F.2.1 d_M_make_49 (by decide) ?_
          obtain ⟨S13, e_S13, h⟩ := mw_bind h
          refine mw_iast F hK hI (t0 := 0) rfl e_S13 d_M_make_50 (fun H locs hI => ?_)
          refine mt_iload_n F hl 2 rfl rfl d_M_make_51 ?_
          exact mw_iret F hI hr hlk h (Nat.le_of_ble_eq_true rfl) (Nat.le_of_ble_eq_true rfl) d_M_make_52
      · rw [if_neg hc] at h
        refine lv_goto (tgt := 53) F.1 F.2.1 d_M_make_20 (by decide) ?_
        refine mt_iinc (v := (x2 + 1)) F hl 2 rfl (by rw [show Int32.ofInt 1 = (1 : Int32) from by decide]) (Nat.le_of_ble_eq_true rfl) rfl d_M_make_53 (fun ls hl => ?_)
        have hl : mt_L ls 3 [(2, (.inl (x2 + 1))), (0, (.inr (.inr (some b0)))), (1, (.inl x1))] := hl
        refine lv_goto (tgt := 2) F.1 F.2.1 d_M_make_56 (by decide) ?_
        refine W.widen (k := 0) (n := 0) (Nat.le_of_ble_eq_true rfl) (Nat.le_of_ble_eq_true rfl) ?_
        exact ih _ _ _ _ _ _ hI (mt_sub hl [1, 2, 0] rfl) h
set_option maxHeartbeats 4000000 in
set_option maxRecDepth 100000 in
theorem c_M_make (l : Launch) (D : va_G) (dA : Nat → ClassId) (A : Nat → Prop) (b0 : Nat) (a1 : Int32) (S : mc_S) (out : (Int32 × mc_S)) (hf : f_M_make b0 a1 S = some out) : Met l y_M_make (cd_M_make :: ALL) rm_M_make (va_Pc [va_rf (some b0), .int a1] (mw_B D dA CL (TY dA) ZZ A S)) (va_Qi (fun x (_ : Unit) => x = out.1) (fun _ t => mw_R D dA CL A out.2 t) A) 0 0 A := by
  refine mw_ofW (cc := b_M_make) (maxL := 3) (ret := (some .int)) [(.inr (.inr (some b0))), (.inl a1)] rfl (by decide +kernel) (Nat.le_of_ble_eq_true rfl) (L := [(0, (.inr (.inr (some b0)))), (1, (.inl a1))]) rfl (fun p e s m args below meth c F hr hlk hnm hK ls hl hI => ?_)
  have h := hf
  unfold f_M_make at h
  refine lv_iconst (v := 0) F.1 F.2.1 d_M_make_0 (by decide) ?_
  refine mt_istore_n F hl rfl (Nat.le_of_ble_eq_true rfl) rfl d_M_make_1 (fun ls hl => ?_)
  have hl : mt_L ls 3 [(2, (.inl 0)), (0, (.inr (.inr (some b0)))), (1, (.inl a1))] := hl
  refine W.widen (k := 0) (n := 0) (Nat.le_of_ble_eq_true rfl) (Nat.le_of_ble_eq_true rfl) ?_
  exact (s_M_make l D dA A b0 F hr hlk hnm hK out 5000) _ _ _ _ _ _ hI (mt_sub hl [1, 2, 0] rfl) h
abbrev rm_T_has : Room := { frames := 0, cells := 0, slots := 0, locals := 0 }
set_option maxHeartbeats 4000000 in
set_option maxRecDepth 100000 in
theorem c_T_has (l : Launch) (D : va_G) (dA : Nat → ClassId) (A : Nat → Prop) (b0 : Nat) (a1 : Int32) (S : mc_S) (out : (Int32 × mc_S)) (hf : f_T_has b0 a1 S = some out) : Met l y_T_has (cd_T_has :: ALL) rm_T_has (va_Pc [va_rf (some b0), .int a1] (mw_B D dA CL (TY dA) ZZ A S)) (va_Qi (fun x (_ : Unit) => x = out.1) (fun _ t => mw_R D dA CL A out.2 t) A) 0 0 A := by
  refine mw_ofW (cc := b_T_has) (maxL := 2) (ret := (some .boolean)) [(.inr (.inr (some b0))), (.inl a1)] rfl (by decide +kernel) (Nat.le_of_ble_eq_true rfl) (L := [(0, (.inr (.inr (some b0)))), (1, (.inl a1))]) rfl (fun p e s m args below meth c F hr hlk hnm hK ls hl hI => ?_)
  have h := hf
  unfold f_T_has at h
  refine mt_iload_n F hl 1 rfl rfl d_T_has_0 ?_
  refine lv_if_lt (tgt := 23) F.1 F.2.1 d_T_has_1 (by decide) (fun hc => ?_) (fun hc => ?_)
  · rw [if_pos hc] at h
    refine lv_iconst (v := 0) F.1 F.2.1 d_T_has_23 (by decide) ?_
    exact mw_zret F hI hr hlk rfl h (Nat.le_of_ble_eq_true rfl) (Nat.le_of_ble_eq_true rfl) d_T_has_24
  · rw [if_neg hc] at h
    refine mt_iload_n F hl 1 rfl rfl d_T_has_4 ?_
    refine lv_bipush (v := 100) F.1 F.2.1 d_T_has_5 (by decide) ?_
    refine lv_icmp_ge (tgt := 23) F.1 F.2.1 d_T_has_7 (by decide) (fun hc => ?_) (fun hc => ?_)
    · rw [if_pos hc] at h
      refine lv_iconst (v := 0) F.1 F.2.1 d_T_has_23 (by decide) ?_
      exact mw_zret F hI hr hlk rfl h (Nat.le_of_ble_eq_true rfl) (Nat.le_of_ble_eq_true rfl) d_T_has_24
    · rw [if_neg hc] at h
      refine mt_aload_n F hl 0 rfl rfl d_T_has_10 ?_
      obtain ⟨v1, e_v1, h⟩ := mw_bind h
      refine mw_getR F hK hI (in_2 _) (hc_2) 0 (by decide) (mA k_16) rfl e_v1 d_T_has_11 ?_
      refine mt_iload_n F hl 1 rfl rfl d_T_has_14 ?_
      obtain ⟨v2, e_v2, h⟩ := mw_bind h
      refine mw_aald F hK hI (t0 := 3) rfl e_v2 d_T_has_15 ?_
      refine mw_ifnull (tgt := 23) F d_T_has_16 (by decide) (fun hc => ?_) (fun hc => ?_)
      · rw [if_pos hc] at h
        refine lv_iconst (v := 0) F.1 F.2.1 d_T_has_23 (by decide) ?_
        exact mw_zret F hI hr hlk rfl h (Nat.le_of_ble_eq_true rfl) (Nat.le_of_ble_eq_true rfl) d_T_has_24
      · rw [if_neg hc] at h
        refine lv_iconst (v := 1) F.1 F.2.1 d_T_has_19 (by decide) ?_
        refine lv_goto (tgt := 24) F.1 F.2.1 d_T_has_20 (by decide) ?_
        exact mw_zret F hI hr hlk rfl h (Nat.le_of_ble_eq_true rfl) (Nat.le_of_ble_eq_true rfl) d_T_has_24
abbrev rm_K_valueOf : Room := { frames := 1, cells := 0, slots := 0, locals := 21 }
set_option maxHeartbeats 4000000 in
set_option maxRecDepth 100000 in
theorem c_K_valueOf (l : Launch) (D : va_G) (dA : Nat → ClassId) (A : Nat → Prop) (b0 : Nat) (a1 : Int32) (a2 : Int32) (S : mc_S) (out : (Int64 × mc_S)) (hf : f_K_valueOf b0 a1 a2 S = some out) : Met l y_K_valueOf (cd_K_valueOf :: ALL) rm_K_valueOf (va_Pc [va_rf (some b0), .int a1, .int a2] (mw_B D dA CL (TY dA) ZZ A S)) (va_Ql (fun x (_ : Unit) => x = out.1) (fun _ t => mw_R D dA CL A out.2 t) A) 0 0 A := by
  refine mw_ofW (cc := b_K_valueOf) (maxL := 3) (ret := (some .long)) [(.inr (.inr (some b0))), (.inl a1), (.inl a2)] rfl (by decide +kernel) (Nat.le_of_ble_eq_true rfl) (L := [(0, (.inr (.inr (some b0)))), (1, (.inl a1)), (2, (.inl a2))]) rfl (fun p e s m args below meth c F hr hlk hnm hK ls hl hI => ?_)
  have h := hf
  unfold f_K_valueOf at h
  refine mt_iload_n F hl 1 rfl rfl d_K_valueOf_0 ?_
  by_cases hk0 : a1 = (0 : Int32)
  · rw [if_pos hk0] at h
    refine mw_tabIn (tgt := 28) (off := 27) F hk0 d_K_valueOf_1 (by decide) (by decide) (by rfl) (by decide) ?_
    refine lv_ldc2 (v := 1099511627776) F.1 F.2.1 F.2.2.2.1 (F.2.2.2.2 _ (mA k_65)) d_K_valueOf_28 ?_
    exact mw_lret F hI hr hlk h (Nat.le_of_ble_eq_true rfl) (Nat.le_of_ble_eq_true rfl) d_K_valueOf_31
  · rw [if_neg hk0] at h
    by_cases hk1 : a1 = (1 : Int32)
    · rw [if_pos hk1] at h
      refine mw_tabIn (tgt := 32) (off := 31) F hk1 d_K_valueOf_1 (by decide) (by decide) (by rfl) (by decide) ?_
      refine mt_iload_n F hl 2 rfl rfl d_K_valueOf_32 ?_
      refine lv_i2l F.1 F.2.1 d_K_valueOf_33 rfl ?_
      exact mw_lret F hI hr hlk h (Nat.le_of_ble_eq_true rfl) (Nat.le_of_ble_eq_true rfl) d_K_valueOf_34
    · rw [if_neg hk1] at h
      by_cases hk2 : a1 = (2 : Int32)
      · rw [if_pos hk2] at h
        refine mw_tabIn (tgt := 35) (off := 34) F hk2 d_K_valueOf_1 (by decide) (by decide) (by rfl) (by decide) ?_
        refine mt_aload_n F hl 0 rfl rfl d_K_valueOf_35 ?_
        obtain ⟨v1, e_v1, h⟩ := mw_bind h
        refine mw_getR F hK hI (in_0 _) (hc_0) 0 (by decide) (mA k_42) rfl e_v1 d_K_valueOf_36 ?_
        refine mt_iload_n F hl 2 rfl rfl d_K_valueOf_39 ?_
        obtain ⟨b2, e_b2, h⟩ := mw_bind h
        obtain ⟨o3, e_o3, h⟩ := mw_bind h
        refine mw_calli hI (mw_runV F hK hI (c_T_has l D dA A _ _ _ _ e_o3) (cwV 1 F.2.2.2.2 (gd_V k_66 k_67 k_68 k_69 k_38) rfl rfl rfl hd_T_has ⟨Nat.le_of_ble_eq_true rfl, Nat.le_of_ble_eq_true rfl⟩) (hc_2) e_b2 rfl hl.1 rfl (Nat.zero_le _) d_K_valueOf_40 ⟨(Nat.le_of_ble_eq_true rfl), (Nat.le_of_ble_eq_true rfl)⟩) (fun H locs hI => ?_)
        refine lv_if_eq (tgt := 55) F.1 F.2.1 d_K_valueOf_43 (by decide) (fun hc => ?_) (fun hc => ?_)
        · rw [if_pos hc] at h
          refine lv_ldc2 (v := (-1099511627776)) F.1 F.2.1 F.2.2.2.1 (F.2.2.2.2 _ (mA k_70)) d_K_valueOf_55 ?_
          exact mw_lret F hI hr hlk h (Nat.le_of_ble_eq_true rfl) (Nat.le_of_ble_eq_true rfl) d_K_valueOf_58
        · rw [if_neg hc] at h
          refine lv_ldc2 (v := 1099511627777) F.1 F.2.1 F.2.2.2.1 (F.2.2.2.2 _ (mA k_71)) d_K_valueOf_46 ?_
          refine mt_iload_n F hl 2 rfl rfl d_K_valueOf_49 ?_
          refine lv_i2l F.1 F.2.1 d_K_valueOf_50 rfl ?_
          refine lv_ladd F.1 F.2.1 d_K_valueOf_51 ?_
          refine lv_goto (tgt := 58) F.1 F.2.1 d_K_valueOf_52 (by decide) ?_
          exact mw_lret F hI hr hlk h (Nat.le_of_ble_eq_true rfl) (Nat.le_of_ble_eq_true rfl) d_K_valueOf_58
      · rw [if_neg hk2] at h
        refine lv_tableOut (tgt := 59) F.1 F.2.1 d_K_valueOf_1 (by have z0 := lv_neT hk0 (show (0 : Int32).toInt = 0 by decide); have z1 := lv_neT hk1 (show (1 : Int32).toInt = 1 by decide); have z2 := lv_neT hk2 (show (2 : Int32).toInt = 2 by decide); omega) (by decide) ?_
        refine lv_ldc2 (v := (-1099511627776)) F.1 F.2.1 F.2.2.2.1 (F.2.2.2.2 _ (mA k_70)) d_K_valueOf_59 ?_
        exact mw_lret F hI hr hlk h (Nat.le_of_ble_eq_true rfl) (Nat.le_of_ble_eq_true rfl) d_K_valueOf_62
abbrev rm_T_find : Room := { frames := 1, cells := 0, slots := 0, locals := 21 }
set_option maxHeartbeats 4000000 in
set_option maxRecDepth 100000 in
theorem c_T_find (l : Launch) (D : va_G) (dA : Nat → ClassId) (A : Nat → Prop) (b0 : Nat) (a1 : Int32) (a2 : Int32) (S : mc_S) (out : (Option Nat × mc_S)) (hf : f_T_find b0 a1 a2 S = some out) : Met l y_T_find (cd_T_find :: ALL) rm_T_find (va_Pc [va_rf (some b0), .int a1, .int a2] (mw_B D dA CL (TY dA) ZZ A S)) (va_Qq (fun x (_ : Unit) => x = out.1) (fun _ t => mw_R D dA CL A out.2 t) A) 0 0 A := by
  refine mw_ofW (cc := b_T_find) (maxL := 3) (ret := (some (.object "KeepHeap$Slots"))) [(.inr (.inr (some b0))), (.inl a1), (.inl a2)] rfl (by decide +kernel) (Nat.le_of_ble_eq_true rfl) (L := [(0, (.inr (.inr (some b0)))), (1, (.inl a1)), (2, (.inl a2))]) rfl (fun p e s m args below meth c F hr hlk hnm hK ls hl hI => ?_)
  have h := hf
  unfold f_T_find at h
  refine mt_aload_n F hl 0 rfl rfl d_T_find_0 ?_
  refine mt_iload_n F hl 1 rfl rfl d_T_find_1 ?_
  obtain ⟨b1, e_b1, h⟩ := mw_bind h
  obtain ⟨o2, e_o2, h⟩ := mw_bind h
  refine mw_calli hI (mw_runV F hK hI (c_T_has l D dA A _ _ _ _ e_o2) (cwV 1 F.2.2.2.2 (gd_V k_66 k_72 k_68 k_69 k_38) rfl rfl rfl hd_T_has ⟨Nat.le_of_ble_eq_true rfl, Nat.le_of_ble_eq_true rfl⟩) (hc_2) e_b1 rfl hl.1 rfl (Nat.zero_le _) d_T_find_2 ⟨(Nat.le_of_ble_eq_true rfl), (Nat.le_of_ble_eq_true rfl)⟩) (fun H locs hI => ?_)
  refine lv_if_eq (tgt := 30) F.1 F.2.1 d_T_find_5 (by decide) (fun hc => ?_) (fun hc => ?_)
  · rw [if_pos hc] at h
    refine mw_null F d_T_find_30 ?_
    exact mw_qret F hI hr hlk h (Nat.le_of_ble_eq_true rfl) (Nat.le_of_ble_eq_true rfl) d_T_find_31
  · rw [if_neg hc] at h
    refine mt_aload_n F hl 0 rfl rfl d_T_find_8 ?_
    obtain ⟨v3, e_v3, h⟩ := mw_bind h
    refine mw_getR F hK hI (in_2 _) (hc_2) 0 (by decide) (mA k_16) rfl e_v3 d_T_find_9 ?_
    refine mt_iload_n F hl 1 rfl rfl d_T_find_12 ?_
    obtain ⟨v4, e_v4, h⟩ := mw_bind h
    refine mw_aald F hK hI (t0 := 3) rfl e_v4 d_T_find_13 ?_
    obtain ⟨v5, e_v5, h⟩ := mw_bind h
    refine mw_getI F hK hI (in_1 _) (hc_1) 0 (by decide) (mA k_73) rfl e_v5 d_T_find_14 ?_
    refine mt_iload_n F hl 2 rfl rfl d_T_find_17 ?_
    refine lv_icmp_ne (tgt := 30) F.1 F.2.1 d_T_find_18 (by decide) (fun hc => ?_) (fun hc => ?_)
    · rw [if_neg hc] at h
      refine mw_null F d_T_find_30 ?_
      exact mw_qret F hI hr hlk h (Nat.le_of_ble_eq_true rfl) (Nat.le_of_ble_eq_true rfl) d_T_find_31
    · rw [if_pos hc] at h
      refine mt_aload_n F hl 0 rfl rfl d_T_find_21 ?_
      obtain ⟨v6, e_v6, h⟩ := mw_bind h
      refine mw_getR F hK hI (in_2 _) (hc_2) 0 (by decide) (mA k_16) rfl e_v6 d_T_find_22 ?_
      refine mt_iload_n F hl 1 rfl rfl d_T_find_25 ?_
      obtain ⟨v7, e_v7, h⟩ := mw_bind h
      refine mw_aald F hK hI (t0 := 3) rfl e_v7 d_T_find_26 ?_
      refine lv_goto (tgt := 31) F.1 F.2.1 d_T_find_27 (by decide) ?_
      exact mw_qret F hI hr hlk h (Nat.le_of_ble_eq_true rfl) (Nat.le_of_ble_eq_true rfl) d_T_find_31
abbrev rm_K_ringIndex : Room := { frames := 0, cells := 0, slots := 0, locals := 0 }
set_option maxHeartbeats 4000000 in
set_option maxRecDepth 100000 in
theorem c_K_ringIndex (l : Launch) (D : va_G) (dA : Nat → ClassId) (A : Nat → Prop) (b0 : Nat) (a1 : Int32) (S : mc_S) (out : (Int32 × mc_S)) (hf : f_K_ringIndex b0 a1 S = some out) : Met l y_K_ringIndex (cd_K_ringIndex :: ALL) rm_K_ringIndex (va_Pc [va_rf (some b0), .int a1] (mw_B D dA CL (TY dA) ZZ A S)) (va_Qi (fun x (_ : Unit) => x = out.1) (fun _ t => mw_R D dA CL A out.2 t) A) 0 0 A := by
  refine mw_ofW (cc := b_K_ringIndex) (maxL := 2) (ret := (some .int)) [(.inr (.inr (some b0))), (.inl a1)] rfl (by decide +kernel) (Nat.le_of_ble_eq_true rfl) (L := [(0, (.inr (.inr (some b0)))), (1, (.inl a1))]) rfl (fun p e s m args below meth c F hr hlk hnm hK ls hl hI => ?_)
  have h := hf
  unfold f_K_ringIndex at h
  refine mt_aload_n F hl 0 rfl rfl d_K_ringIndex_0 ?_
  obtain ⟨v1, e_v1, h⟩ := mw_bind h
  refine mw_getI F hK hI (in_0 _) (hc_0) 4 (by decide) (mA k_28) rfl e_v1 d_K_ringIndex_1 ?_
  refine mt_iload_n F hl 1 rfl rfl d_K_ringIndex_4 ?_
  refine lv_iadd F.1 F.2.1 d_K_ringIndex_5 ?_
  refine lv_bipush (v := 9) F.1 F.2.1 d_K_ringIndex_6 (by decide) ?_
  refine lv_irem F.1 F.2.1 d_K_ringIndex_8 (by decide) ?_
  exact mw_iret F hI hr hlk h (Nat.le_of_ble_eq_true rfl) (Nat.le_of_ble_eq_true rfl) d_K_ringIndex_9
abbrev rm_K_kept : Room := { frames := 1, cells := 0, slots := 0, locals := 21 }
set_option maxHeartbeats 4000000 in
set_option maxRecDepth 100000 in
theorem c_K_kept (l : Launch) (D : va_G) (dA : Nat → ClassId) (A : Nat → Prop) (b0 : Nat) (S : mc_S) (out : (Option Nat × mc_S)) (hf : f_K_kept b0 S = some out) : Met l y_K_kept (cd_K_kept :: ALL) rm_K_kept (va_Pc [va_rf (some b0)] (mw_B D dA CL (TY dA) ZZ A S)) (va_Qq (fun x (_ : Unit) => x = out.1) (fun _ t => mw_R D dA CL A out.2 t) A) 0 0 A := by
  refine mw_ofW (cc := b_K_kept) (maxL := 1) (ret := (some (.object "KeepHeap$State"))) [(.inr (.inr (some b0)))] rfl (by decide +kernel) (Nat.le_of_ble_eq_true rfl) (L := [(0, (.inr (.inr (some b0))))]) rfl (fun p e s m args below meth c F hr hlk hnm hK ls hl hI => ?_)
  have h := hf
  unfold f_K_kept at h
  refine mt_aload_n F hl 0 rfl rfl d_K_kept_0 ?_
  obtain ⟨v1, e_v1, h⟩ := mw_bind h
  refine mw_getR F hK hI (in_0 _) (hc_0) 1 (by decide) (mA k_20) rfl e_v1 d_K_kept_1 ?_
  refine mt_aload_n F hl 0 rfl rfl d_K_kept_4 ?_
  refine mt_aload_n F hl 0 rfl rfl d_K_kept_5 ?_
  obtain ⟨v2, e_v2, h⟩ := mw_bind h
  refine mw_getI F hK hI (in_0 _) (hc_0) 5 (by decide) (mA k_29) rfl e_v2 d_K_kept_6 ?_
  obtain ⟨b3, e_b3, h⟩ := mw_bind h
  obtain ⟨o4, e_o4, h⟩ := mw_bind h
  refine mw_calli hI (mw_runV F hK hI (c_K_ringIndex l D dA A _ _ _ _ e_o4) (cwV 1 F.2.2.2.2 (gd_V k_74 k_75 k_76 k_77 k_78) rfl rfl rfl hd_K_ringIndex ⟨Nat.le_of_ble_eq_true rfl, Nat.le_of_ble_eq_true rfl⟩) (hc_0) e_b3 rfl hl.1 rfl (by simp [mw_cat, mw_cI, mw_cL]) d_K_kept_9 ⟨(Nat.le_of_ble_eq_true rfl), (Nat.le_of_ble_eq_true rfl)⟩) (fun H locs hI => ?_)
  obtain ⟨v5, e_v5, h⟩ := mw_bind h
  refine mw_aald F hK hI (t0 := 4) rfl e_v5 d_K_kept_12 ?_
  exact mw_qret F hI hr hlk h (Nat.le_of_ble_eq_true rfl) (Nat.le_of_ble_eq_true rfl) d_K_kept_13
abbrev rm_S_twin : Room := { frames := 2, cells := 3, slots := 44, locals := 34 }
set_option maxHeartbeats 4000000 in
set_option maxRecDepth 100000 in
theorem c_S_twin (l : Launch) (D : va_G) (dA : Nat → ClassId) (A : Nat → Prop) (b0 : Nat) (S : mc_S) (out : (Option Nat × mc_S)) (hf : f_S_twin b0 S = some out) : Met l y_S_twin (cd_S_twin :: ALL) rm_S_twin (va_Pc [va_rf (some b0)] (mw_B D dA CL (TY dA) ZZ A S)) (va_Qq (fun x (_ : Unit) => x = out.1) (fun _ t => mw_R D dA CL A out.2 t) A) 3 44 A := by
  refine mw_ofW (cc := b_S_twin) (maxL := 2) (ret := (some (.object "KeepHeap$Slots"))) [(.inr (.inr (some b0)))] rfl (by decide +kernel) (Nat.le_of_ble_eq_true rfl) (L := [(0, (.inr (.inr (some b0))))]) rfl (fun p e s m args below meth c F hr hlk hnm hK ls hl hI => ?_)
  have h := hf
  unfold f_S_twin at h
  refine mw_new F hK hI (in_1 _) ty_1 ok_1 (mA k_79) (mA k_32) (mA k_33) (hc_1) (fs := [.int 0, .null, .null, .int 0]) df_1 (Nat.le_of_ble_eq_true rfl) (Nat.le_of_ble_eq_true rfl) d_S_twin_0 (fun H hI => ?_)
  refine lv_dup F.1 F.2.1 d_S_twin_3 (mw_cat _) ?_
  refine mt_aload_n F hl 0 rfl rfl d_S_twin_4 ?_
  obtain ⟨v1, e_v1, h⟩ := mw_bind h
  refine mw_getI F hK hI (in_1 _) (hc_1) 0 (by decide) (mA k_10) rfl e_v1 d_S_twin_5 ?_
  refine mt_aload_n F hl 0 rfl rfl d_S_twin_8 ?_
  obtain ⟨v2, e_v2, h⟩ := mw_bind h
  refine mw_getR F hK hI (in_1 _) (hc_1) 2 (by decide) (mA k_13) rfl e_v2 d_S_twin_9 ?_
  obtain ⟨v3, e_v3, h⟩ := mw_bind h
  refine mw_alen F hK hI (t0 := 1) rfl e_v3 d_S_twin_12 ?_
  obtain ⟨b4, e_b4, h⟩ := mw_bind h
  obtain ⟨S5, e_S5, h⟩ := mw_bind h
  refine mw_callv hI (mw_runI F hK hI (c_S_init l D dA A _ _ _ _ _ e_S5) (cwI 2 F.2.2.2.2 (gd_I k_34) rfl rfl rfl (F.2.2.2.2 _ (mA k_33)) (F.2.2.2.2 _ (mA k_80)) (F.2.2.2.2 _ (mA k_36)) rfl hd_S_init ⟨Nat.le_of_ble_eq_true rfl, Nat.le_of_ble_eq_true rfl⟩) e_b4 rfl hl.1 rfl (by simp [mw_cat, mw_cI, mw_cL]) d_S_twin_13 ⟨(Nat.le_of_ble_eq_true rfl), (Nat.le_of_ble_eq_true rfl)⟩) (fun H locs hI => ?_)
  refine mt_astore_n F hl rfl (Nat.le_of_ble_eq_true rfl) rfl d_S_twin_16 (fun ls hl => ?_)
  have hl : mt_L ls 2 [(1, (.inr (.inr (some S.2)))), (0, (.inr (.inr (some b0))))] := hl
  refine mt_aload_n F hl 1 rfl rfl d_S_twin_17 ?_
  obtain ⟨v6, e_v6, h⟩ := mw_bind h
  refine mw_getR F hK hI (in_1 _) (hc_1) 1 (by decide) (mA k_11) rfl e_v6 d_S_twin_18 ?_
  refine lv_iconst (v := 0) F.1 F.2.1 d_S_twin_21 (by decide) ?_
  refine mt_aload_n F hl 0 rfl rfl d_S_twin_22 ?_
  obtain ⟨v7, e_v7, h⟩ := mw_bind h
  refine mw_getR F hK hI (in_1 _) (hc_1) 1 (by decide) (mA k_11) rfl e_v7 d_S_twin_23 ?_
  refine lv_iconst (v := 0) F.1 F.2.1 d_S_twin_26 (by decide) ?_
  refine mt_aload_n F hl 1 rfl rfl d_S_twin_27 ?_
  obtain ⟨v8, e_v8, h⟩ := mw_bind h
  refine mw_getI F hK hI (in_1 _) (hc_1) 3 (by decide) (mA k_9) rfl e_v8 d_S_twin_28 ?_
  obtain ⟨S9, e_S9, h⟩ := mw_bind h
  refine mw_copyi F hK hI (t0 := 0) (mA k_81) (mA k_82) (mA k_83) (mA k_84) rfl e_S9 hl.1 (Nat.le_of_ble_eq_true rfl) (by simp [mw_cat, mw_cI, mw_cL, nativeFrameWords, rm_S_twin]) d_S_twin_31 (fun H locs hI => ?_)
  refine mt_aload_n F hl 1 rfl rfl d_S_twin_34 ?_
  obtain ⟨v10, e_v10, h⟩ := mw_bind h
  refine mw_getR F hK hI (in_1 _) (hc_1) 2 (by decide) (mA k_13) rfl e_v10 d_S_twin_35 ?_
  refine lv_iconst (v := 0) F.1 F.2.1 d_S_twin_38 (by decide) ?_
  refine mt_aload_n F hl 0 rfl rfl d_S_twin_39 ?_
  obtain ⟨v11, e_v11, h⟩ := mw_bind h
  refine mw_getR F hK hI (in_1 _) (hc_1) 2 (by decide) (mA k_13) rfl e_v11 d_S_twin_40 ?_
  refine lv_iconst (v := 0) F.1 F.2.1 d_S_twin_43 (by decide) ?_
  refine mt_aload_n F hl 1 rfl rfl d_S_twin_44 ?_
  obtain ⟨v12, e_v12, h⟩ := mw_bind h
  refine mw_getI F hK hI (in_1 _) (hc_1) 3 (by decide) (mA k_9) rfl e_v12 d_S_twin_45 ?_
  obtain ⟨S13, e_S13, h⟩ := mw_bind h
  refine mw_copyl F hK hI (t0 := 1) (mA k_81) (mA k_82) (mA k_83) (mA k_84) rfl e_S13 hl.1 (Nat.le_of_ble_eq_true rfl) (by simp [mw_cat, mw_cI, mw_cL, nativeFrameWords, rm_S_twin]) d_S_twin_48 (fun H locs hI => ?_)
  refine mt_aload_n F hl 0 rfl rfl d_S_twin_51 ?_
  refine mt_aload_n F hl 1 rfl rfl d_S_twin_52 ?_
  obtain ⟨v14, e_v14, h⟩ := mw_bind h
  refine mw_getI F hK hI (in_1 _) (hc_1) 3 (by decide) (mA k_9) rfl e_v14 d_S_twin_53 ?_
  obtain ⟨S15, e_S15, h⟩ := mw_bind h
  refine mw_put F hK hI (in_1 _) ty_1 ok_1 nm_1 (hc_1) 3 (by decide) (mA k_9) rfl rfl rfl rfl e_S15 d_S_twin_56 (fun H locs hI => ?_)
  refine mt_aload_n F hl 0 rfl rfl d_S_twin_59 ?_
  exact mw_qret F hI hr hlk h (Nat.le_of_ble_eq_true rfl) (Nat.le_of_ble_eq_true rfl) d_S_twin_60
abbrev rm_K_own : Room := { frames := 3, cells := 3, slots := 44, locals := 55 }
set_option maxHeartbeats 4000000 in
set_option maxRecDepth 100000 in
theorem c_K_own (l : Launch) (D : va_G) (dA : Nat → ClassId) (A : Nat → Prop) (b0 : Nat) (a1 : Int32) (a2 : Int32) (S : mc_S) (out : (Option Nat × mc_S)) (hf : f_K_own b0 a1 a2 S = some out) : Met l y_K_own (cd_K_own :: ALL) rm_K_own (va_Pc [va_rf (some b0), .int a1, .int a2] (mw_B D dA CL (TY dA) ZZ A S)) (va_Qq (fun x (_ : Unit) => x = out.1) (fun _ t => mw_R D dA CL A out.2 t) A) 3 44 A := by
  refine mw_ofW (cc := b_K_own) (maxL := 4) (ret := (some (.object "KeepHeap$Slots"))) [(.inr (.inr (some b0))), (.inl a1), (.inl a2)] rfl (by decide +kernel) (Nat.le_of_ble_eq_true rfl) (L := [(0, (.inr (.inr (some b0)))), (1, (.inl a1)), (2, (.inl a2))]) rfl (fun p e s m args below meth c F hr hlk hnm hK ls hl hI => ?_)
  have h := hf
  unfold f_K_own at h
  refine mt_aload_n F hl 0 rfl rfl d_K_own_0 ?_
  obtain ⟨v1, e_v1, h⟩ := mw_bind h
  refine mw_getR F hK hI (in_0 _) (hc_0) 0 (by decide) (mA k_42) rfl e_v1 d_K_own_1 ?_
  refine mt_iload_n F hl 1 rfl rfl d_K_own_4 ?_
  refine mt_iload_n F hl 2 rfl rfl d_K_own_5 ?_
  obtain ⟨b2, e_b2, h⟩ := mw_bind h
  obtain ⟨o3, e_o3, h⟩ := mw_bind h
  refine mw_callq hI (mw_runV F hK hI (c_T_find l D dA A _ _ _ _ _ e_o3) (cwV 2 F.2.2.2.2 (gd_V k_85 k_86 k_87 k_88 k_38) rfl rfl rfl hd_T_find ⟨Nat.le_of_ble_eq_true rfl, Nat.le_of_ble_eq_true rfl⟩) (hc_2) e_b2 rfl hl.1 rfl (Nat.zero_le _) d_K_own_6 ⟨(Nat.le_of_ble_eq_true rfl), (Nat.le_of_ble_eq_true rfl)⟩) (fun H locs hI => ?_)
  refine mt_astore_n F hl rfl (Nat.le_of_ble_eq_true rfl) rfl d_K_own_9 (fun ls hl => ?_)
  have hl : mt_L ls 4 [(3, (.inr (.inr o3.1))), (0, (.inr (.inr (some b0)))), (1, (.inl a1)), (2, (.inl a2))] := hl
  refine mt_aload_n F hl 0 rfl rfl d_K_own_10 ?_
  refine mw_ifnull (tgt := 42) F d_K_own_11 (by decide) (fun hc => ?_) (fun hc => ?_)
  · rw [if_pos hc] at h
    refine mt_aload_n F hl 0 rfl rfl d_K_own_42 ?_
    exact mw_qret F hI hr hlk h (Nat.le_of_ble_eq_true rfl) (Nat.le_of_ble_eq_true rfl) d_K_own_43
  · rw [if_neg hc] at h
    refine mt_aload_n F hl 0 rfl rfl d_K_own_14 ?_
    refine mt_aload_n F hl 1 rfl rfl d_K_own_15 ?_
    obtain ⟨b4, e_b4, h⟩ := mw_bind h
    obtain ⟨o5, e_o5, h⟩ := mw_bind h
    refine mw_callq hI (mw_runV F hK hI (c_K_kept l D dA A _ _ _ e_o5) (cwV 0 F.2.2.2.2 (gd_V k_89 k_90 k_91 k_92 k_78) rfl rfl rfl hd_K_kept ⟨Nat.le_of_ble_eq_true rfl, Nat.le_of_ble_eq_true rfl⟩) (hc_0) e_b4 rfl hl.1 rfl (by simp [mw_cat, mw_cI, mw_cL]) d_K_own_16 ⟨(Nat.le_of_ble_eq_true rfl), (Nat.le_of_ble_eq_true rfl)⟩) (fun H locs hI => ?_)
    obtain ⟨v6, e_v6, h⟩ := mw_bind h
    refine mw_getR F hK hI (in_2 _) (hc_2) 0 (by decide) (mA k_62) rfl e_v6 d_K_own_19 ?_
    refine mt_iload_n F hl 2 rfl rfl d_K_own_22 ?_
    obtain ⟨v7, e_v7, h⟩ := mw_bind h
    refine mw_aald F hK hI (t0 := 3) rfl e_v7 d_K_own_23 ?_
    refine lv_acmp_ne (tgt := 42) F.1 F.2.1 d_K_own_24 (by decide) (fun hc => ?_) (fun hc => ?_)
    · rw [if_neg hc] at h
      refine mt_aload_n F hl 0 rfl rfl d_K_own_42 ?_
      exact mw_qret F hI hr hlk h (Nat.le_of_ble_eq_true rfl) (Nat.le_of_ble_eq_true rfl) d_K_own_43
    · rw [if_pos hc] at h
      refine mt_aload_n F hl 0 rfl rfl d_K_own_27 ?_
      obtain ⟨b8, e_b8, h⟩ := mw_bind h
      obtain ⟨o9, e_o9, h⟩ := mw_bind h
      refine mw_callq hI (mw_runV F hK hI (c_S_twin l D dA A _ _ _ e_o9) (cwV 0 F.2.2.2.2 (gd_V k_93 k_94 k_95 k_96 k_33) rfl rfl rfl hd_S_twin ⟨Nat.le_of_ble_eq_true rfl, Nat.le_of_ble_eq_true rfl⟩) (hc_1) e_b8 rfl hl.1 rfl (Nat.zero_le _) d_K_own_28 ⟨(Nat.le_of_ble_eq_true rfl), (Nat.le_of_ble_eq_true rfl)⟩) (fun H locs hI => ?_)
      refine mt_astore_n F hl rfl (Nat.le_of_ble_eq_true rfl) rfl d_K_own_31 (fun ls hl => ?_)
      have hl : mt_L ls 4 [(3, (.inr (.inr o9.1))), (0, (.inr (.inr (some b0)))), (1, (.inl a1)), (2, (.inl a2))] := hl
      refine mt_aload_n F hl 1 rfl rfl d_K_own_32 ?_
      obtain ⟨v10, e_v10, h⟩ := mw_bind h
      refine mw_getR F hK hI (in_0 _) (hc_0) 0 (by decide) (mA k_42) rfl e_v10 d_K_own_33 ?_
      obtain ⟨v11, e_v11, h⟩ := mw_bind h
      refine mw_getR F hK hI (in_2 _) (hc_2) 0 (by decide) (mA k_62) rfl e_v11 d_K_own_36 ?_
      refine mt_iload_n F hl 2 rfl rfl d_K_own_39 ?_
      refine mt_aload_n F hl 0 rfl rfl d_K_own_40 ?_
      obtain ⟨S12, e_S12, h⟩ := mw_bind h
      refine mw_aast F hK hI (t0 := 3) (ci := 1) (q0 := cq_1) rfl rfl e_S12 d_K_own_41 (fun H locs hI => ?_)
      refine mt_aload_n F hl 0 rfl rfl d_K_own_42 ?_
      exact mw_qret F hI hr hlk h (Nat.le_of_ble_eq_true rfl) (Nat.le_of_ble_eq_true rfl) d_K_own_43
abbrev rm_S_placeOf : Room := { frames := 0, cells := 0, slots := 0, locals := 0 }
set_option maxHeartbeats 4000000 in
set_option maxRecDepth 100000 in
theorem s_S_placeOf (l : Launch) (D : va_G) (dA : Nat → ClassId) (A : Nat → Prop) (b0 : Nat) {p : Program} {e : Env} {s : State} {m : MethodId} {args : Array Value} {below : List Frame} {meth : Method} {c : Code} (F : CallFix p m c b_S_placeOf 3 s args (cd_S_placeOf :: ALL) y_S_placeOf.cls) (hr : meth.sig.returnType = (some .int)) (hlk : meth.locks = false) (hnm : meth.name = y_S_placeOf.name) (hK : mw_K D CL (TY dA) ZZ s) (out : (Int32 × mc_S)) : ∀ n : Nat, (∀ (x1 : Int32) (x2 : Int32) (S : mc_S) (H : Heap) (locs : List Loc) (ls : Array Slot), mw_I D dA CL A S s.heap H locs → mt_L ls 3 [(0, (.inr (.inr (some b0)))), (1, (.inl x1)), (2, (.inl x2))] → g_S_placeOf b0 n x1 x2 S = some out → W p l e rm_S_placeOf s m args below meth c H locs (0) (0) (MQ below (va_Qi (fun x (_ : Unit) => x = out.1) (fun _ t => mw_R D dA CL A out.2 t) A) args s 0 0 A) (F0 m 2 ls [])) := by
  intro n
  induction n with
  | zero =>
    intro x1 x2 S H locs ls hI hl h; have h : (none : Option (Int32 × mc_S)) = some out := h; cases h
  | succ k0 ih =>
    intro x1 x2 S H locs ls hI hl h
    have h : q_S_placeOf_0 b0 (g_S_placeOf b0 k0) x1 x2 S = some out := h
    unfold q_S_placeOf_0 at h
    refine mt_iload_n F hl 2 rfl rfl d_S_placeOf_2 ?_
    refine mt_aload_n F hl 0 rfl rfl d_S_placeOf_3 ?_
    obtain ⟨v1, e_v1, h⟩ := mw_bind h
    refine mw_getI F hK hI (in_1 _) (hc_1) 3 (by decide) (mA k_9) rfl e_v1 d_S_placeOf_4 ?_
    refine lv_icmp_ge (tgt := 26) F.1 F.2.1 d_S_placeOf_7 (by decide) (fun hc => ?_) (fun hc => ?_)
    · rw [if_pos hc] at h
      refine mt_iload_n F hl 2 rfl rfl d_S_placeOf_26 ?_
      exact mw_iret F hI hr hlk h (Nat.le_of_ble_eq_true rfl) (Nat.le_of_ble_eq_true rfl) d_S_placeOf_27
    · rw [if_neg hc] at h
      refine mt_aload_n F hl 0 rfl rfl d_S_placeOf_10 ?_
      obtain ⟨v2, e_v2, h⟩ := mw_bind h
      refine mw_getR F hK hI (in_1 _) (hc_1) 1 (by decide) (mA k_11) rfl e_v2 d_S_placeOf_11 ?_
      refine mt_iload_n F hl 2 rfl rfl d_S_placeOf_14 ?_
      obtain ⟨v3, e_v3, h⟩ := mw_bind h
      refine mw_iald F hK hI (t0 := 0) rfl e_v3 d_S_placeOf_15 ?_
      refine mt_iload_n F hl 1 rfl rfl d_S_placeOf_16 ?_
      refine lv_icmp_eq (tgt := 26) F.1 F.2.1 d_S_placeOf_17 (by decide) (fun hc => ?_) (fun hc => ?_)
      · rw [if_pos hc] at h
        refine mt_iload_n F hl 2 rfl rfl d_S_placeOf_26 ?_
        exact mw_iret F hI hr hlk h (Nat.le_of_ble_eq_true rfl) (Nat.le_of_ble_eq_true rfl) d_S_placeOf_27
      · rw [if_neg hc] at h
        refine mt_iinc (v := (x2 + 1)) F hl 2 rfl (by rw [show Int32.ofInt 1 = (1 : Int32) from by decide]) (Nat.le_of_ble_eq_true rfl) rfl d_S_placeOf_20 (fun ls hl => ?_)
        have hl : mt_L ls 3 [(2, (.inl (x2 + 1))), (0, (.inr (.inr (some b0)))), (1, (.inl x1))] := hl
        refine lv_goto (tgt := 2) F.1 F.2.1 d_S_placeOf_23 (by decide) ?_
        refine W.widen (k := 0) (n := 0) (Nat.le_of_ble_eq_true rfl) (Nat.le_of_ble_eq_true rfl) ?_
        exact ih _ _ _ _ _ _ hI (mt_sub hl [1, 2, 0] rfl) h
set_option maxHeartbeats 4000000 in
set_option maxRecDepth 100000 in
theorem c_S_placeOf (l : Launch) (D : va_G) (dA : Nat → ClassId) (A : Nat → Prop) (b0 : Nat) (a1 : Int32) (S : mc_S) (out : (Int32 × mc_S)) (hf : f_S_placeOf b0 a1 S = some out) : Met l y_S_placeOf (cd_S_placeOf :: ALL) rm_S_placeOf (va_Pc [va_rf (some b0), .int a1] (mw_B D dA CL (TY dA) ZZ A S)) (va_Qi (fun x (_ : Unit) => x = out.1) (fun _ t => mw_R D dA CL A out.2 t) A) 0 0 A := by
  refine mw_ofW (cc := b_S_placeOf) (maxL := 3) (ret := (some .int)) [(.inr (.inr (some b0))), (.inl a1)] rfl (by decide +kernel) (Nat.le_of_ble_eq_true rfl) (L := [(0, (.inr (.inr (some b0)))), (1, (.inl a1))]) rfl (fun p e s m args below meth c F hr hlk hnm hK ls hl hI => ?_)
  have h := hf
  unfold f_S_placeOf at h
  refine lv_iconst (v := 0) F.1 F.2.1 d_S_placeOf_0 (by decide) ?_
  refine mt_istore_n F hl rfl (Nat.le_of_ble_eq_true rfl) rfl d_S_placeOf_1 (fun ls hl => ?_)
  have hl : mt_L ls 3 [(2, (.inl 0)), (0, (.inr (.inr (some b0)))), (1, (.inl a1))] := hl
  refine W.widen (k := 0) (n := 0) (Nat.le_of_ble_eq_true rfl) (Nat.le_of_ble_eq_true rfl) ?_
  exact (s_S_placeOf l D dA A b0 F hr hlk hnm hK out 5000) _ _ _ _ _ _ hI (mt_sub hl [1, 2, 0] rfl) h
abbrev rm_S_holds : Room := { frames := 0, cells := 0, slots := 0, locals := 0 }
set_option maxHeartbeats 4000000 in
set_option maxRecDepth 100000 in
theorem c_S_holds (l : Launch) (D : va_G) (dA : Nat → ClassId) (A : Nat → Prop) (b0 : Nat) (a1 : Int32) (S : mc_S) (out : (Int32 × mc_S)) (hf : f_S_holds b0 a1 S = some out) : Met l y_S_holds (cd_S_holds :: ALL) rm_S_holds (va_Pc [va_rf (some b0), .int a1] (mw_B D dA CL (TY dA) ZZ A S)) (va_Qi (fun x (_ : Unit) => x = out.1) (fun _ t => mw_R D dA CL A out.2 t) A) 0 0 A := by
  refine mw_ofW (cc := b_S_holds) (maxL := 2) (ret := (some .boolean)) [(.inr (.inr (some b0))), (.inl a1)] rfl (by decide +kernel) (Nat.le_of_ble_eq_true rfl) (L := [(0, (.inr (.inr (some b0)))), (1, (.inl a1))]) rfl (fun p e s m args below meth c F hr hlk hnm hK ls hl hI => ?_)
  have h := hf
  unfold f_S_holds at h
  refine mt_iload_n F hl 1 rfl rfl d_S_holds_0 ?_
  refine lv_if_lt (tgt := 16) F.1 F.2.1 d_S_holds_1 (by decide) (fun hc => ?_) (fun hc => ?_)
  · rw [if_pos hc] at h
    refine lv_iconst (v := 0) F.1 F.2.1 d_S_holds_16 (by decide) ?_
    exact mw_zret F hI hr hlk rfl h (Nat.le_of_ble_eq_true rfl) (Nat.le_of_ble_eq_true rfl) d_S_holds_17
  · rw [if_neg hc] at h
    refine mt_iload_n F hl 1 rfl rfl d_S_holds_4 ?_
    refine mt_aload_n F hl 0 rfl rfl d_S_holds_5 ?_
    obtain ⟨v1, e_v1, h⟩ := mw_bind h
    refine mw_getI F hK hI (in_1 _) (hc_1) 3 (by decide) (mA k_9) rfl e_v1 d_S_holds_6 ?_
    refine lv_icmp_ge (tgt := 16) F.1 F.2.1 d_S_holds_9 (by decide) (fun hc => ?_) (fun hc => ?_)
    · rw [if_pos hc] at h
      refine lv_iconst (v := 0) F.1 F.2.1 d_S_holds_16 (by decide) ?_
      exact mw_zret F hI hr hlk rfl h (Nat.le_of_ble_eq_true rfl) (Nat.le_of_ble_eq_true rfl) d_S_holds_17
    · rw [if_neg hc] at h
      refine lv_iconst (v := 1) F.1 F.2.1 d_S_holds_12 (by decide) ?_
      refine lv_goto (tgt := 17) F.1 F.2.1 d_S_holds_13 (by decide) ?_
      exact mw_zret F hI hr hlk rfl h (Nat.le_of_ble_eq_true rfl) (Nat.le_of_ble_eq_true rfl) d_S_holds_17
abbrev rm_S_removeAt : Room := { frames := 1, cells := 0, slots := 0, locals := 21 }
set_option maxHeartbeats 4000000 in
set_option maxRecDepth 100000 in
theorem s_S_removeAt (l : Launch) (D : va_G) (dA : Nat → ClassId) (A : Nat → Prop) (b0 : Nat) {p : Program} {e : Env} {s : State} {m : MethodId} {args : Array Value} {below : List Frame} {meth : Method} {c : Code} (F : CallFix p m c b_S_removeAt 3 s args (cd_S_removeAt :: ALL) y_S_removeAt.cls) (hr : meth.sig.returnType = none) (hlk : meth.locks = false) (hnm : meth.name = y_S_removeAt.name) (hK : mw_K D CL (TY dA) ZZ s) (out : mc_S) : ∀ n : Nat, (∀ (x1 : Int32) (x2 : Int32) (S : mc_S) (H : Heap) (locs : List Loc) (ls : Array Slot), mw_I D dA CL A S s.heap H locs → mt_L ls 3 [(0, (.inr (.inr (some b0)))), (1, (.inl x1)), (2, (.inl x2))] → g_S_removeAt b0 n x1 x2 S = some out → W p l e rm_S_removeAt s m args below meth c H locs (0) (0) (MQ below (va_Qv (fun (_ : Unit) => True) (fun _ t => mw_R D dA CL A out t) A) args s 0 0 A) (F0 m 21 ls [])) := by
  intro n
  induction n with
  | zero =>
    intro x1 x2 S H locs ls hI hl h; have h : (none : Option mc_S) = some out := h; cases h
  | succ k0 ih =>
    intro x1 x2 S H locs ls hI hl h
    have h : q_S_removeAt_0 b0 (g_S_removeAt b0 k0) x1 x2 S = some out := h
    unfold q_S_removeAt_0 at h
    refine mt_iload_n F hl 2 rfl rfl d_S_removeAt_21 ?_
    refine mt_aload_n F hl 0 rfl rfl d_S_removeAt_22 ?_
    obtain ⟨v1, e_v1, h⟩ := mw_bind h
    refine mw_getI F hK hI (in_1 _) (hc_1) 3 (by decide) (mA k_9) rfl e_v1 d_S_removeAt_23 ?_
    refine lv_icmp_ge (tgt := 63) F.1 F.2.1 d_S_removeAt_26 (by decide) (fun hc => ?_) (fun hc => ?_)
    · rw [if_pos hc] at h
      exact mw_vret F hI hr hlk h (Nat.le_of_ble_eq_true rfl) (Nat.le_of_ble_eq_true rfl) d_S_removeAt_63
    · rw [if_neg hc] at h
      refine mt_aload_n F hl 0 rfl rfl d_S_removeAt_29 ?_
      obtain ⟨v2, e_v2, h⟩ := mw_bind h
      refine mw_getR F hK hI (in_1 _) (hc_1) 1 (by decide) (mA k_11) rfl e_v2 d_S_removeAt_30 ?_
      refine mt_iload_n F hl 2 rfl rfl d_S_removeAt_33 ?_
      refine mt_aload_n F hl 0 rfl rfl d_S_removeAt_34 ?_
      obtain ⟨v3, e_v3, h⟩ := mw_bind h
      refine mw_getR F hK hI (in_1 _) (hc_1) 1 (by decide) (mA k_11) rfl e_v3 d_S_removeAt_35 ?_
      refine mt_iload_n F hl 2 rfl rfl d_S_removeAt_38 ?_
      refine lv_iconst (v := 1) F.1 F.2.1 d_S_removeAt_39 (by decide) ?_
      refine lv_iadd F.1 F.2.1 d_S_removeAt_40 ?_
      obtain ⟨v4, e_v4, h⟩ := mw_bind h
      refine mw_iald F hK hI (t0 := 0) rfl e_v4 d_S_removeAt_41 ?_
      obtain ⟨S5, e_S5, h⟩ := mw_bind h
      refine mw_iast F hK hI (t0 := 0) rfl e_S5 d_S_removeAt_42 (fun H locs hI => ?_)
      refine mt_aload_n F hl 0 rfl rfl d_S_removeAt_43 ?_
      obtain ⟨v6, e_v6, h⟩ := mw_bind h
      refine mw_getR F hK hI (in_1 _) (hc_1) 2 (by decide) (mA k_13) rfl e_v6 d_S_removeAt_44 ?_
      refine mt_iload_n F hl 2 rfl rfl d_S_removeAt_47 ?_
      refine mt_aload_n F hl 0 rfl rfl d_S_removeAt_48 ?_
      obtain ⟨v7, e_v7, h⟩ := mw_bind h
      refine mw_getR F hK hI (in_1 _) (hc_1) 2 (by decide) (mA k_13) rfl e_v7 d_S_removeAt_49 ?_
      refine mt_iload_n F hl 2 rfl rfl d_S_removeAt_52 ?_
      refine lv_iconst (v := 1) F.1 F.2.1 d_S_removeAt_53 (by decide) ?_
      refine lv_iadd F.1 F.2.1 d_S_removeAt_54 ?_
      obtain ⟨v8, e_v8, h⟩ := mw_bind h
      refine mw_lald F hK hI (t0 := 1) rfl e_v8 d_S_removeAt_55 ?_
      obtain ⟨S9, e_S9, h⟩ := mw_bind h
      refine mw_last F hK hI (t0 := 1) rfl e_S9 d_S_removeAt_56 (fun H locs hI => ?_)
      refine mt_iinc (v := (x2 + 1)) F hl 2 rfl (by rw [show Int32.ofInt 1 = (1 : Int32) from by decide]) (Nat.le_of_ble_eq_true rfl) rfl d_S_removeAt_57 (fun ls hl => ?_)
      have hl : mt_L ls 3 [(2, (.inl (x2 + 1))), (0, (.inr (.inr (some b0)))), (1, (.inl x1))] := hl
      refine lv_goto (tgt := 21) F.1 F.2.1 d_S_removeAt_60 (by decide) ?_
      refine W.widen (k := 0) (n := 0) (Nat.le_of_ble_eq_true rfl) (Nat.le_of_ble_eq_true rfl) ?_
      exact ih _ _ _ _ _ _ hI (mt_sub hl [1, 2, 0] rfl) h
set_option maxHeartbeats 4000000 in
set_option maxRecDepth 100000 in
theorem c_S_removeAt (l : Launch) (D : va_G) (dA : Nat → ClassId) (A : Nat → Prop) (b0 : Nat) (a1 : Int32) (S : mc_S) (out : mc_S) (hf : f_S_removeAt b0 a1 S = some out) : Met l y_S_removeAt (cd_S_removeAt :: ALL) rm_S_removeAt (va_Pc [va_rf (some b0), .int a1] (mw_B D dA CL (TY dA) ZZ A S)) (va_Qv (fun (_ : Unit) => True) (fun _ t => mw_R D dA CL A out t) A) 0 0 A := by
  refine mw_ofW (cc := b_S_removeAt) (maxL := 3) (ret := none) [(.inr (.inr (some b0))), (.inl a1)] rfl (by decide +kernel) (Nat.le_of_ble_eq_true rfl) (L := [(0, (.inr (.inr (some b0)))), (1, (.inl a1))]) rfl (fun p e s m args below meth c F hr hlk hnm hK ls hl hI => ?_)
  have h := hf
  unfold f_S_removeAt at h
  refine mt_aload_n F hl 0 rfl rfl d_S_removeAt_0 ?_
  refine mt_iload_n F hl 1 rfl rfl d_S_removeAt_1 ?_
  obtain ⟨b1, e_b1, h⟩ := mw_bind h
  obtain ⟨o2, e_o2, h⟩ := mw_bind h
  refine mw_calli hI (mw_runV F hK hI (c_S_holds l D dA A _ _ _ _ e_o2) (cwV 1 F.2.2.2.2 (gd_V k_97 k_98 k_99 k_100 k_33) rfl rfl rfl hd_S_holds ⟨Nat.le_of_ble_eq_true rfl, Nat.le_of_ble_eq_true rfl⟩) (hc_1) e_b1 rfl hl.1 rfl (Nat.zero_le _) d_S_removeAt_2 ⟨(Nat.le_of_ble_eq_true rfl), (Nat.le_of_ble_eq_true rfl)⟩) (fun H locs hI => ?_)
  refine lv_if_ne (tgt := 9) F.1 F.2.1 d_S_removeAt_5 (by decide) (fun hc => ?_) (fun hc => ?_)
  · rw [if_neg hc] at h
    refine mt_aload_n F hl 0 rfl rfl d_S_removeAt_9 ?_
    refine lv_dup F.1 F.2.1 d_S_removeAt_10 (mw_cat _) ?_
    obtain ⟨v3, e_v3, h⟩ := mw_bind h
    refine mw_getI F hK hI (in_1 _) (hc_1) 3 (by decide) (mA k_9) rfl e_v3 d_S_removeAt_11 ?_
    refine lv_iconst (v := 1) F.1 F.2.1 d_S_removeAt_14 (by decide) ?_
    refine lv_isub F.1 F.2.1 d_S_removeAt_15 ?_
    obtain ⟨S4, e_S4, h⟩ := mw_bind h
    refine mw_put F hK hI (in_1 _) ty_1 ok_1 nm_1 (hc_1) 3 (by decide) (mA k_9) rfl rfl rfl rfl e_S4 d_S_removeAt_16 (fun H locs hI => ?_)
    refine mt_iload_n F hl 1 rfl rfl d_S_removeAt_19 ?_
    refine mt_istore_n F hl rfl (Nat.le_of_ble_eq_true rfl) rfl d_S_removeAt_20 (fun ls hl => ?_)
    have hl : mt_L ls 3 [(2, (.inl a1)), (0, (.inr (.inr (some b0)))), (1, (.inl a1))] := hl
    refine W.widen (k := 0) (n := 0) (Nat.le_of_ble_eq_true rfl) (Nat.le_of_ble_eq_true rfl) ?_
    exact (s_S_removeAt l D dA A b0 F hr hlk hnm hK out 5000) _ _ _ _ _ _ hI (mt_sub hl [1, 2, 0] rfl) h
  · rw [if_pos hc] at h
    exact mw_vret F hI hr hlk h (Nat.le_of_ble_eq_true rfl) (Nat.le_of_ble_eq_true rfl) d_S_removeAt_8
