abbrev rm_S_append : Room := { frames := 0, cells := 0, slots := 0, locals := 0 }
set_option maxHeartbeats 4000000 in
set_option maxRecDepth 100000 in
theorem c_S_append (l : Launch) (D : va_G) (dA : Nat → ClassId) (A : Nat → Prop) (b0 : Nat) (a1 : Int32) (a2 : Int64) (S : mc_S) (out : (Int32 × mc_S)) (hf : f_S_append b0 a1 a2 S = some out) : Met l y_S_append (cd_S_append :: ALL) rm_S_append (va_Pc [va_rf (some b0), .int a1, .long a2] (mw_B D dA CL (TY dA) ZZ A S)) (va_Qi (fun x (_ : Unit) => x = out.1) (fun _ t => mw_R D dA CL A out.2 t) A) 0 0 A := by
  refine mw_ofW (cc := b_S_append) (maxL := 4) (ret := (some .int)) [(.inr (.inr (some b0))), (.inl a1), (.inr (.inl a2))] rfl (by decide +kernel) (Nat.le_of_ble_eq_true rfl) (L := [(0, (.inr (.inr (some b0)))), (1, (.inl a1)), (2, (.inr (.inl a2)))]) rfl (fun p e s m args below meth c F hr hlk hnm hK ls hl hI => ?_)
  have h := hf
  unfold f_S_append at h
  refine mt_aload_n F hl 0 rfl rfl d_S_append_0 ?_
  obtain ⟨v1, e_v1, h⟩ := mw_bind h
  refine mw_getI F hK hI (in_1 _) (hc_1) 3 (by decide) (mA k_9) rfl e_v1 d_S_append_1 ?_
  refine mt_aload_n F hl 0 rfl rfl d_S_append_4 ?_
  obtain ⟨v2, e_v2, h⟩ := mw_bind h
  refine mw_getR F hK hI (in_1 _) (hc_1) 2 (by decide) (mA k_13) rfl e_v2 d_S_append_5 ?_
  obtain ⟨v3, e_v3, h⟩ := mw_bind h
  refine mw_alen F hK hI (t0 := 1) rfl e_v3 d_S_append_8 ?_
  refine lv_icmp_lt (tgt := 15) F.1 F.2.1 d_S_append_9 (by decide) (fun hc => ?_) (fun hc => ?_)
  · rw [if_pos hc] at h
    refine mt_aload_n F hl 0 rfl rfl d_S_append_15 ?_
    obtain ⟨v4, e_v4, h⟩ := mw_bind h
    refine mw_getR F hK hI (in_1 _) (hc_1) 1 (by decide) (mA k_11) rfl e_v4 d_S_append_16 ?_
    refine mt_aload_n F hl 0 rfl rfl d_S_append_19 ?_
    obtain ⟨v5, e_v5, h⟩ := mw_bind h
    refine mw_getI F hK hI (in_1 _) (hc_1) 3 (by decide) (mA k_9) rfl e_v5 d_S_append_20 ?_
    refine mt_iload_n F hl 1 rfl rfl d_S_append_23 ?_
    obtain ⟨S6, e_S6, h⟩ := mw_bind h
    refine mw_iast F hK hI (t0 := 0) rfl e_S6 d_S_append_24 (fun H locs hI => ?_)
    refine mt_aload_n F hl 0 rfl rfl d_S_append_25 ?_
    obtain ⟨v7, e_v7, h⟩ := mw_bind h
    refine mw_getR F hK hI (in_1 _) (hc_1) 2 (by decide) (mA k_13) rfl e_v7 d_S_append_26 ?_
    refine mt_aload_n F hl 0 rfl rfl d_S_append_29 ?_
    obtain ⟨v8, e_v8, h⟩ := mw_bind h
    refine mw_getI F hK hI (in_1 _) (hc_1) 3 (by decide) (mA k_9) rfl e_v8 d_S_append_30 ?_
    refine mt_lload_n F hl 2 rfl rfl d_S_append_33 ?_
    obtain ⟨S9, e_S9, h⟩ := mw_bind h
    refine mw_last F hK hI (t0 := 1) rfl e_S9 d_S_append_34 (fun H locs hI => ?_)
    refine mt_aload_n F hl 0 rfl rfl d_S_append_35 ?_
    refine lv_dup F.1 F.2.1 d_S_append_36 (mw_cat _) ?_
    obtain ⟨v10, e_v10, h⟩ := mw_bind h
    refine mw_getI F hK hI (in_1 _) (hc_1) 3 (by decide) (mA k_9) rfl e_v10 d_S_append_37 ?_
    refine lv_iconst (v := 1) F.1 F.2.1 d_S_append_40 (by decide) ?_
    refine lv_iadd F.1 F.2.1 d_S_append_41 ?_
    obtain ⟨S11, e_S11, h⟩ := mw_bind h
    refine mw_put F hK hI (in_1 _) ty_1 ok_1 nm_1 (hc_1) 3 (by decide) (mA k_9) rfl rfl rfl rfl e_S11 d_S_append_42 (fun H locs hI => ?_)
    refine mt_aload_n F hl 0 rfl rfl d_S_append_45 ?_
    obtain ⟨v12, e_v12, h⟩ := mw_bind h
    refine mw_getI F hK hI (in_1 _) (hc_1) 3 (by decide) (mA k_9) rfl e_v12 d_S_append_46 ?_
    exact mw_iret F hI hr hlk h (Nat.le_of_ble_eq_true rfl) (Nat.le_of_ble_eq_true rfl) d_S_append_49
  · rw [if_neg hc] at h
    refine lv_bipush (v := (-3)) F.1 F.2.1 d_S_append_12 (by decide) ?_
    exact mw_iret F hI hr hlk h (Nat.le_of_ble_eq_true rfl) (Nat.le_of_ble_eq_true rfl) d_S_append_14
abbrev rm_S_assign : Room := { frames := 2, cells := 0, slots := 0, locals := 43 }
set_option maxHeartbeats 4000000 in
set_option maxRecDepth 100000 in
theorem c_S_assign (l : Launch) (D : va_G) (dA : Nat → ClassId) (A : Nat → Prop) (b0 : Nat) (a1 : Int32) (a2 : Int64) (S : mc_S) (out : (Int32 × mc_S)) (hf : f_S_assign b0 a1 a2 S = some out) : Met l y_S_assign (cd_S_assign :: ALL) rm_S_assign (va_Pc [va_rf (some b0), .int a1, .long a2] (mw_B D dA CL (TY dA) ZZ A S)) (va_Qi (fun x (_ : Unit) => x = out.1) (fun _ t => mw_R D dA CL A out.2 t) A) 0 0 A := by
  refine mw_ofW (cc := b_S_assign) (maxL := 5) (ret := (some .int)) [(.inr (.inr (some b0))), (.inl a1), (.inr (.inl a2))] rfl (by decide +kernel) (Nat.le_of_ble_eq_true rfl) (L := [(0, (.inr (.inr (some b0)))), (1, (.inl a1)), (2, (.inr (.inl a2)))]) rfl (fun p e s m args below meth c F hr hlk hnm hK ls hl hI => ?_)
  have h := hf
  unfold f_S_assign at h
  refine mt_aload_n F hl 0 rfl rfl d_S_assign_0 ?_
  refine mt_iload_n F hl 1 rfl rfl d_S_assign_1 ?_
  obtain ⟨b1, e_b1, h⟩ := mw_bind h
  obtain ⟨o2, e_o2, h⟩ := mw_bind h
  refine mw_calli hI (mw_runV F hK hI (c_S_placeOf l D dA A _ _ _ _ e_o2) (cwV 1 F.2.2.2.2 (gd_V k_101 k_102 k_103 k_104 k_33) rfl rfl rfl hd_S_placeOf ⟨Nat.le_of_ble_eq_true rfl, Nat.le_of_ble_eq_true rfl⟩) (hc_1) e_b1 rfl hl.1 rfl (Nat.zero_le _) d_S_assign_2 ⟨(Nat.le_of_ble_eq_true rfl), (Nat.le_of_ble_eq_true rfl)⟩) (fun H locs hI => ?_)
  refine mt_istore F hl (Nat.le_of_ble_eq_true rfl) rfl d_S_assign_5 (fun ls hl => ?_)
  have hl : mt_L ls 5 [(4, (.inl o2.1)), (0, (.inr (.inr (some b0)))), (1, (.inl a1)), (2, (.inr (.inl a2)))] := hl
  refine mt_lload_n F hl 3 rfl rfl d_S_assign_7 ?_
  refine lv_ldc2 (v := 1099511627776) F.1 F.2.1 F.2.2.2.1 (F.2.2.2.2 _ (mA k_105)) d_S_assign_8 ?_
  refine W.lcmp F.1 F.2.1 d_S_assign_11 ?_
  refine lv_if_ne (tgt := 26) F.1 F.2.1 d_S_assign_12 (by decide) (fun hc => ?_) (fun hc => ?_)
  · rw [if_neg hc] at h
    refine mt_iload F hl 0 rfl d_S_assign_26 ?_
    refine mt_aload_n F hl 1 rfl rfl d_S_assign_28 ?_
    obtain ⟨v3, e_v3, h⟩ := mw_bind h
    refine mw_getI F hK hI (in_1 _) (hc_1) 3 (by decide) (mA k_9) rfl e_v3 d_S_assign_29 ?_
    refine lv_icmp_ne (tgt := 42) F.1 F.2.1 d_S_assign_32 (by decide) (fun hc => ?_) (fun hc => ?_)
    · rw [if_neg hc] at h
      refine mt_aload_n F hl 1 rfl rfl d_S_assign_42 ?_
      obtain ⟨v4, e_v4, h⟩ := mw_bind h
      refine mw_getR F hK hI (in_1 _) (hc_1) 2 (by decide) (mA k_13) rfl e_v4 d_S_assign_43 ?_
      refine mt_iload F hl 0 rfl d_S_assign_46 ?_
      refine mt_lload_n F hl 3 rfl rfl d_S_assign_48 ?_
      obtain ⟨S5, e_S5, h⟩ := mw_bind h
      refine mw_last F hK hI (t0 := 1) rfl e_S5 d_S_assign_49 (fun H locs hI => ?_)
      refine mt_aload_n F hl 1 rfl rfl d_S_assign_50 ?_
      obtain ⟨v6, e_v6, h⟩ := mw_bind h
      refine mw_getI F hK hI (in_1 _) (hc_1) 3 (by decide) (mA k_9) rfl e_v6 d_S_assign_51 ?_
      exact mw_iret F hI hr hlk h (Nat.le_of_ble_eq_true rfl) (Nat.le_of_ble_eq_true rfl) d_S_assign_54
    · rw [if_pos hc] at h
      refine mt_aload_n F hl 1 rfl rfl d_S_assign_35 ?_
      refine mt_iload_n F hl 2 rfl rfl d_S_assign_36 ?_
      refine mt_lload_n F hl 3 rfl rfl d_S_assign_37 ?_
      obtain ⟨b7, e_b7, h⟩ := mw_bind h
      obtain ⟨o8, e_o8, h⟩ := mw_bind h
      refine mw_calli hI (mw_runV F hK hI (c_S_append l D dA A _ _ _ _ _ e_o8) (cwV 2 F.2.2.2.2 (gd_V k_106 k_107 k_108 k_109 k_33) rfl rfl rfl hd_S_append ⟨Nat.le_of_ble_eq_true rfl, Nat.le_of_ble_eq_true rfl⟩) (hc_1) e_b7 rfl hl.1 rfl (Nat.zero_le _) d_S_assign_38 ⟨(Nat.le_of_ble_eq_true rfl), (Nat.le_of_ble_eq_true rfl)⟩) (fun H locs hI => ?_)
      exact mw_iret F hI hr hlk h (Nat.le_of_ble_eq_true rfl) (Nat.le_of_ble_eq_true rfl) d_S_assign_41
  · rw [if_pos hc] at h
    refine mt_aload_n F hl 1 rfl rfl d_S_assign_15 ?_
    refine mt_iload F hl 0 rfl d_S_assign_16 ?_
    obtain ⟨b9, e_b9, h⟩ := mw_bind h
    obtain ⟨S10, e_S10, h⟩ := mw_bind h
    refine mw_callv hI (mw_runV F hK hI (c_S_removeAt l D dA A _ _ _ _ e_S10) (cwV 1 F.2.2.2.2 (gd_V k_110 k_111 k_112 k_113 k_33) rfl rfl rfl hd_S_removeAt ⟨Nat.le_of_ble_eq_true rfl, Nat.le_of_ble_eq_true rfl⟩) (hc_1) e_b9 rfl hl.1 rfl (Nat.zero_le _) d_S_assign_18 ⟨(Nat.le_of_ble_eq_true rfl), (Nat.le_of_ble_eq_true rfl)⟩) (fun H locs hI => ?_)
    refine mt_aload_n F hl 1 rfl rfl d_S_assign_21 ?_
    obtain ⟨v11, e_v11, h⟩ := mw_bind h
    refine mw_getI F hK hI (in_1 _) (hc_1) 3 (by decide) (mA k_9) rfl e_v11 d_S_assign_22 ?_
    exact mw_iret F hI hr hlk h (Nat.le_of_ble_eq_true rfl) (Nat.le_of_ble_eq_true rfl) d_S_assign_25
abbrev rm_K_set : Room := { frames := 4, cells := 3, slots := 44, locals := 78 }
set_option maxHeartbeats 4000000 in
set_option maxRecDepth 100000 in
theorem c_K_set (l : Launch) (D : va_G) (dA : Nat → ClassId) (A : Nat → Prop) (b0 : Nat) (a1 : Int32) (a2 : Int32) (a3 : Int32) (a4 : Int32) (S : mc_S) (out : (Int32 × mc_S)) (hf : f_K_set b0 a1 a2 a3 a4 S = some out) : Met l y_K_set (cd_K_set :: ALL) rm_K_set (va_Pc [va_rf (some b0), .int a1, .int a2, .int a3, .int a4] (mw_B D dA CL (TY dA) ZZ A S)) (va_Qi (fun x (_ : Unit) => x = out.1) (fun _ t => mw_R D dA CL A out.2 t) A) 3 44 A := by
  refine mw_ofW (cc := b_K_set) (maxL := 8) (ret := (some .int)) [(.inr (.inr (some b0))), (.inl a1), (.inl a2), (.inl a3), (.inl a4)] rfl (by decide +kernel) (Nat.le_of_ble_eq_true rfl) (L := [(0, (.inr (.inr (some b0)))), (1, (.inl a1)), (2, (.inl a2)), (3, (.inl a3)), (4, (.inl a4))]) rfl (fun p e s m args below meth c F hr hlk hnm hK ls hl hI => ?_)
  have h := hf
  unfold f_K_set at h
  refine mt_aload_n F hl 0 rfl rfl d_K_set_0 ?_
  refine mt_iload_n F hl 3 rfl rfl d_K_set_1 ?_
  refine mt_iload F hl 4 rfl d_K_set_2 ?_
  obtain ⟨b1, e_b1, h⟩ := mw_bind h
  obtain ⟨o2, e_o2, h⟩ := mw_bind h
  refine mw_calll hI (mw_runV F hK hI (c_K_valueOf l D dA A _ _ _ _ _ e_o2) (cwV 2 F.2.2.2.2 (gd_V k_114 k_115 k_116 k_117 k_78) rfl rfl rfl hd_K_valueOf ⟨Nat.le_of_ble_eq_true rfl, Nat.le_of_ble_eq_true rfl⟩) (hc_0) e_b1 rfl hl.1 rfl (Nat.zero_le _) d_K_set_4 ⟨(Nat.le_of_ble_eq_true rfl), (Nat.le_of_ble_eq_true rfl)⟩) (fun H locs hI => ?_)
  refine mt_lstore F hl (Nat.le_of_ble_eq_true rfl) rfl d_K_set_7 (fun ls hl => ?_)
  have hl : mt_L ls 8 [(5, (.inr (.inl o2.1))), (0, (.inr (.inr (some b0)))), (1, (.inl a1)), (2, (.inl a2)), (3, (.inl a3)), (4, (.inl a4))] := hl
  refine mt_aload_n F hl 1 rfl rfl d_K_set_9 ?_
  refine mt_iload_n F hl 2 rfl rfl d_K_set_10 ?_
  refine lv_iconst (v := 1) F.1 F.2.1 d_K_set_11 (by decide) ?_
  obtain ⟨b3, e_b3, h⟩ := mw_bind h
  obtain ⟨o4, e_o4, h⟩ := mw_bind h
  refine mw_callq hI (mw_runV F hK hI (c_K_own l D dA A _ _ _ _ _ e_o4) (cwV 2 F.2.2.2.2 (gd_V k_118 k_119 k_120 k_121 k_78) rfl rfl rfl hd_K_own ⟨Nat.le_of_ble_eq_true rfl, Nat.le_of_ble_eq_true rfl⟩) (hc_0) e_b3 rfl hl.1 rfl (Nat.zero_le _) d_K_set_12 ⟨(Nat.le_of_ble_eq_true rfl), (Nat.le_of_ble_eq_true rfl)⟩) (fun H locs hI => ?_)
  refine mt_astore F hl (Nat.le_of_ble_eq_true rfl) rfl d_K_set_15 (fun ls hl => ?_)
  have hl : mt_L ls 8 [(7, (.inr (.inr o4.1))), (5, (.inr (.inl o2.1))), (0, (.inr (.inr (some b0)))), (1, (.inl a1)), (2, (.inl a2)), (3, (.inl a3)), (4, (.inl a4))] := hl
  refine mt_lload F hl 1 rfl d_K_set_17 ?_
  refine lv_ldc2 (v := (-1099511627776)) F.1 F.2.1 F.2.2.2.1 (F.2.2.2.2 _ (mA k_70)) d_K_set_19 ?_
  refine W.lcmp F.1 F.2.1 d_K_set_22 ?_
  refine lv_if_eq (tgt := 31) F.1 F.2.1 d_K_set_23 (by decide) (fun hc => ?_) (fun hc => ?_)
  · rw [if_pos hc] at h
    refine lv_iconst (v := (-1)) F.1 F.2.1 d_K_set_31 (by decide) ?_
    refine lv_goto (tgt := 43) F.1 F.2.1 d_K_set_32 (by decide) ?_
    exact mw_iret F hI hr hlk h (Nat.le_of_ble_eq_true rfl) (Nat.le_of_ble_eq_true rfl) d_K_set_43
  · rw [if_neg hc] at h
    refine mt_aload F hl 0 rfl d_K_set_26 ?_
    refine mw_ifnonnull (tgt := 35) F d_K_set_28 (by decide) (fun hc => ?_) (fun hc => ?_)
    · rw [if_neg hc] at h
      refine mt_aload F hl 0 rfl d_K_set_35 ?_
      refine mt_iload_n F hl 4 rfl rfl d_K_set_37 ?_
      refine mt_lload F hl 1 rfl d_K_set_38 ?_
      obtain ⟨b5, e_b5, h⟩ := mw_bind h
      obtain ⟨o6, e_o6, h⟩ := mw_bind h
      refine mw_calli hI (mw_runV F hK hI (c_S_assign l D dA A _ _ _ _ _ e_o6) (cwV 2 F.2.2.2.2 (gd_V k_122 k_123 k_124 k_125 k_33) rfl rfl rfl hd_S_assign ⟨Nat.le_of_ble_eq_true rfl, Nat.le_of_ble_eq_true rfl⟩) (hc_1) e_b5 rfl hl.1 rfl (Nat.zero_le _) d_K_set_40 ⟨(Nat.le_of_ble_eq_true rfl), (Nat.le_of_ble_eq_true rfl)⟩) (fun H locs hI => ?_)
      exact mw_iret F hI hr hlk h (Nat.le_of_ble_eq_true rfl) (Nat.le_of_ble_eq_true rfl) d_K_set_43
    · rw [if_pos hc] at h
      refine lv_iconst (v := (-1)) F.1 F.2.1 d_K_set_31 (by decide) ?_
      refine lv_goto (tgt := 43) F.1 F.2.1 d_K_set_32 (by decide) ?_
      exact mw_iret F hI hr hlk h (Nat.le_of_ble_eq_true rfl) (Nat.le_of_ble_eq_true rfl) d_K_set_43
abbrev rm_M_in : Room := { frames := 0, cells := 0, slots := 0, locals := 0 }
set_option maxHeartbeats 4000000 in
set_option maxRecDepth 100000 in
theorem c_M_in (l : Launch) (D : va_G) (dA : Nat → ClassId) (A : Nat → Prop) (a1 : Int64) (a2 : Int64) (a3 : Int64) (S : mc_S) (out : (Int32 × mc_S)) (hf : f_M_in a1 a2 a3 S = some out) : Met l y_M_in (cd_M_in :: ALL) rm_M_in (va_Pc [.long a1, .long a2, .long a3] (mw_B D dA CL (TY dA) ZZ A S)) (va_Qi (fun x (_ : Unit) => x = out.1) (fun _ t => mw_R D dA CL A out.2 t) A) 0 0 A := by
  refine mw_ofW (cc := b_M_in) (maxL := 6) (ret := (some .boolean)) [(.inr (.inl a1)), (.inr (.inl a2)), (.inr (.inl a3))] rfl (by decide +kernel) (Nat.le_of_ble_eq_true rfl) (L := [(0, (.inr (.inl a1))), (2, (.inr (.inl a2))), (4, (.inr (.inl a3)))]) rfl (fun p e s m args below meth c F hr hlk hnm hK ls hl hI => ?_)
  have h := hf
  unfold f_M_in at h
  refine mt_lload_n F hl 0 rfl rfl d_M_in_0 ?_
  refine mt_lload_n F hl 1 rfl rfl d_M_in_1 ?_
  refine W.lcmp F.1 F.2.1 d_M_in_2 ?_
  refine lv_if_lt (tgt := 17) F.1 F.2.1 d_M_in_3 (by decide) (fun hc => ?_) (fun hc => ?_)
  · rw [if_pos hc] at h
    refine lv_iconst (v := 0) F.1 F.2.1 d_M_in_17 (by decide) ?_
    exact mw_zret F hI hr hlk rfl h (Nat.le_of_ble_eq_true rfl) (Nat.le_of_ble_eq_true rfl) d_M_in_18
  · rw [if_neg hc] at h
    refine mt_lload_n F hl 0 rfl rfl d_M_in_6 ?_
    refine mt_lload F hl 2 rfl d_M_in_7 ?_
    refine W.lcmp F.1 F.2.1 d_M_in_9 ?_
    refine lv_if_gt (tgt := 17) F.1 F.2.1 d_M_in_10 (by decide) (fun hc => ?_) (fun hc => ?_)
    · rw [if_pos hc] at h
      refine lv_iconst (v := 0) F.1 F.2.1 d_M_in_17 (by decide) ?_
      exact mw_zret F hI hr hlk rfl h (Nat.le_of_ble_eq_true rfl) (Nat.le_of_ble_eq_true rfl) d_M_in_18
    · rw [if_neg hc] at h
      refine lv_iconst (v := 1) F.1 F.2.1 d_M_in_13 (by decide) ?_
      refine lv_goto (tgt := 18) F.1 F.2.1 d_M_in_14 (by decide) ?_
      exact mw_zret F hI hr hlk rfl h (Nat.le_of_ble_eq_true rfl) (Nat.le_of_ble_eq_true rfl) d_M_in_18
abbrev rm_M_is : Room := { frames := 1, cells := 0, slots := 0, locals := 25 }
set_option maxHeartbeats 4000000 in
set_option maxRecDepth 100000 in
theorem c_M_is (l : Launch) (D : va_G) (dA : Nat → ClassId) (A : Nat → Prop) (b0 : Nat) (a1 : Int32) (a2 : Int32) (S : mc_S) (out : (Int32 × mc_S)) (hf : f_M_is b0 a1 a2 S = some out) : Met l y_M_is (cd_M_is :: ALL) rm_M_is (va_Pc [va_rf (some b0), .int a1, .int a2] (mw_B D dA CL (TY dA) ZZ A S)) (va_Qi (fun x (_ : Unit) => x = out.1) (fun _ t => mw_R D dA CL A out.2 t) A) 0 0 A := by
  refine mw_ofW (cc := b_M_is) (maxL := 3) (ret := (some .boolean)) [(.inr (.inr (some b0))), (.inl a1), (.inl a2)] rfl (by decide +kernel) (Nat.le_of_ble_eq_true rfl) (L := [(0, (.inr (.inr (some b0)))), (1, (.inl a1)), (2, (.inl a2))]) rfl (fun p e s m args below meth c F hr hlk hnm hK ls hl hI => ?_)
  have h := hf
  unfold f_M_is at h
  refine mt_iload_n F hl 1 rfl rfl d_M_is_0 ?_
  refine lv_i2l F.1 F.2.1 d_M_is_1 rfl ?_
  refine lv_lconst (v := 0) F.1 F.2.1 d_M_is_2 (by decide) ?_
  refine lv_ldc2 (v := 99) F.1 F.2.1 F.2.2.2.1 (F.2.2.2.2 _ (mA k_126)) d_M_is_3 ?_
  obtain ⟨o1, e_o1, h⟩ := mw_bind h
  refine mw_calli hI (mw_runS F hK hI (c_M_in l D dA A _ _ _ _ _ e_o1) (cwS 3 F.2.2.2.2 (gd_S k_127 k_128 k_129 k_130) rfl rfl rfl hd_M_in ⟨Nat.le_of_ble_eq_true rfl, Nat.le_of_ble_eq_true rfl⟩) rfl hl.1 rfl (Nat.zero_le _) d_M_is_6 ⟨(Nat.le_of_ble_eq_true rfl), (Nat.le_of_ble_eq_true rfl)⟩) (fun H locs hI => ?_)
  refine lv_if_eq (tgt := 29) F.1 F.2.1 d_M_is_9 (by decide) (fun hc => ?_) (fun hc => ?_)
  · rw [if_pos hc] at h
    refine lv_iconst (v := 0) F.1 F.2.1 d_M_is_29 (by decide) ?_
    exact mw_zret F hI hr hlk rfl h (Nat.le_of_ble_eq_true rfl) (Nat.le_of_ble_eq_true rfl) d_M_is_30
  · rw [if_neg hc] at h
    refine mt_aload_n F hl 0 rfl rfl d_M_is_12 ?_
    obtain ⟨v2, e_v2, h⟩ := mw_bind h
    refine mw_getR F hK hI (in_4 _) (hc_4) 0 (by decide) (mA k_56) rfl e_v2 d_M_is_13 ?_
    obtain ⟨v3, e_v3, h⟩ := mw_bind h
    refine mw_getR F hK hI (in_5 _) (hc_5) 0 (by decide) (mA k_63) rfl e_v3 d_M_is_16 ?_
    refine mt_iload_n F hl 1 rfl rfl d_M_is_19 ?_
    obtain ⟨v4, e_v4, h⟩ := mw_bind h
    refine mw_iald F hK hI (t0 := 0) rfl e_v4 d_M_is_20 ?_
    refine mt_iload_n F hl 2 rfl rfl d_M_is_21 ?_
    refine lv_icmp_ne (tgt := 29) F.1 F.2.1 d_M_is_22 (by decide) (fun hc => ?_) (fun hc => ?_)
    · rw [if_neg hc] at h
      refine lv_iconst (v := 0) F.1 F.2.1 d_M_is_29 (by decide) ?_
      exact mw_zret F hI hr hlk rfl h (Nat.le_of_ble_eq_true rfl) (Nat.le_of_ble_eq_true rfl) d_M_is_30
    · rw [if_pos hc] at h
      refine lv_iconst (v := 1) F.1 F.2.1 d_M_is_25 (by decide) ?_
      refine lv_goto (tgt := 30) F.1 F.2.1 d_M_is_26 (by decide) ?_
      exact mw_zret F hI hr hlk rfl h (Nat.le_of_ble_eq_true rfl) (Nat.le_of_ble_eq_true rfl) d_M_is_30
abbrev rm_M_isThere : Room := { frames := 1, cells := 0, slots := 0, locals := 25 }
set_option maxHeartbeats 4000000 in
set_option maxRecDepth 100000 in
theorem c_M_isThere (l : Launch) (D : va_G) (dA : Nat → ClassId) (A : Nat → Prop) (b0 : Nat) (a1 : Int32) (S : mc_S) (out : (Int32 × mc_S)) (hf : f_M_isThere b0 a1 S = some out) : Met l y_M_isThere (cd_M_isThere :: ALL) rm_M_isThere (va_Pc [va_rf (some b0), .int a1] (mw_B D dA CL (TY dA) ZZ A S)) (va_Qi (fun x (_ : Unit) => x = out.1) (fun _ t => mw_R D dA CL A out.2 t) A) 0 0 A := by
  refine mw_ofW (cc := b_M_isThere) (maxL := 2) (ret := (some .boolean)) [(.inr (.inr (some b0))), (.inl a1)] rfl (by decide +kernel) (Nat.le_of_ble_eq_true rfl) (L := [(0, (.inr (.inr (some b0)))), (1, (.inl a1))]) rfl (fun p e s m args below meth c F hr hlk hnm hK ls hl hI => ?_)
  have h := hf
  unfold f_M_isThere at h
  refine mt_iload_n F hl 1 rfl rfl d_M_isThere_0 ?_
  refine lv_i2l F.1 F.2.1 d_M_isThere_1 rfl ?_
  refine lv_lconst (v := 0) F.1 F.2.1 d_M_isThere_2 (by decide) ?_
  refine lv_ldc2 (v := 99) F.1 F.2.1 F.2.2.2.1 (F.2.2.2.2 _ (mA k_126)) d_M_isThere_3 ?_
  obtain ⟨o1, e_o1, h⟩ := mw_bind h
  refine mw_calli hI (mw_runS F hK hI (c_M_in l D dA A _ _ _ _ _ e_o1) (cwS 3 F.2.2.2.2 (gd_S k_127 k_128 k_129 k_130) rfl rfl rfl hd_M_in ⟨Nat.le_of_ble_eq_true rfl, Nat.le_of_ble_eq_true rfl⟩) rfl hl.1 rfl (Nat.zero_le _) d_M_isThere_6 ⟨(Nat.le_of_ble_eq_true rfl), (Nat.le_of_ble_eq_true rfl)⟩) (fun H locs hI => ?_)
  refine lv_if_eq (tgt := 28) F.1 F.2.1 d_M_isThere_9 (by decide) (fun hc => ?_) (fun hc => ?_)
  · rw [if_pos hc] at h
    refine lv_iconst (v := 0) F.1 F.2.1 d_M_isThere_28 (by decide) ?_
    exact mw_zret F hI hr hlk rfl h (Nat.le_of_ble_eq_true rfl) (Nat.le_of_ble_eq_true rfl) d_M_isThere_29
  · rw [if_neg hc] at h
    refine mt_aload_n F hl 0 rfl rfl d_M_isThere_12 ?_
    obtain ⟨v2, e_v2, h⟩ := mw_bind h
    refine mw_getR F hK hI (in_4 _) (hc_4) 0 (by decide) (mA k_56) rfl e_v2 d_M_isThere_13 ?_
    obtain ⟨v3, e_v3, h⟩ := mw_bind h
    refine mw_getR F hK hI (in_5 _) (hc_5) 0 (by decide) (mA k_63) rfl e_v3 d_M_isThere_16 ?_
    refine mt_iload_n F hl 1 rfl rfl d_M_isThere_19 ?_
    obtain ⟨v4, e_v4, h⟩ := mw_bind h
    refine mw_iald F hK hI (t0 := 0) rfl e_v4 d_M_isThere_20 ?_
    refine lv_if_eq (tgt := 28) F.1 F.2.1 d_M_isThere_21 (by decide) (fun hc => ?_) (fun hc => ?_)
    · rw [if_pos hc] at h
      refine lv_iconst (v := 0) F.1 F.2.1 d_M_isThere_28 (by decide) ?_
      exact mw_zret F hI hr hlk rfl h (Nat.le_of_ble_eq_true rfl) (Nat.le_of_ble_eq_true rfl) d_M_isThere_29
    · rw [if_neg hc] at h
      refine lv_iconst (v := 1) F.1 F.2.1 d_M_isThere_24 (by decide) ?_
      refine lv_goto (tgt := 29) F.1 F.2.1 d_M_isThere_25 (by decide) ?_
      exact mw_zret F hI hr hlk rfl h (Nat.le_of_ble_eq_true rfl) (Nat.le_of_ble_eq_true rfl) d_M_isThere_29
abbrev rm_M_isValue : Room := { frames := 2, cells := 0, slots := 0, locals := 46 }
set_option maxHeartbeats 4000000 in
set_option maxRecDepth 100000 in
theorem c_M_isValue (l : Launch) (D : va_G) (dA : Nat → ClassId) (A : Nat → Prop) (b0 : Nat) (a1 : Int32) (a2 : Int32) (S : mc_S) (out : (Int32 × mc_S)) (hf : f_M_isValue b0 a1 a2 S = some out) : Met l y_M_isValue (cd_M_isValue :: ALL) rm_M_isValue (va_Pc [va_rf (some b0), .int a1, .int a2] (mw_B D dA CL (TY dA) ZZ A S)) (va_Qi (fun x (_ : Unit) => x = out.1) (fun _ t => mw_R D dA CL A out.2 t) A) 0 0 A := by
  refine mw_ofW (cc := b_M_isValue) (maxL := 3) (ret := (some .boolean)) [(.inr (.inr (some b0))), (.inl a1), (.inl a2)] rfl (by decide +kernel) (Nat.le_of_ble_eq_true rfl) (L := [(0, (.inr (.inr (some b0)))), (1, (.inl a1)), (2, (.inl a2))]) rfl (fun p e s m args below meth c F hr hlk hnm hK ls hl hI => ?_)
  have h := hf
  unfold f_M_isValue at h
  refine mt_iload_n F hl 1 rfl rfl d_M_isValue_0 ?_
  refine lv_if_eq (tgt := 22) F.1 F.2.1 d_M_isValue_1 (by decide) (fun hc => ?_) (fun hc => ?_)
  · rw [if_pos hc] at h
    refine lv_iconst (v := 1) F.1 F.2.1 d_M_isValue_22 (by decide) ?_
    refine lv_goto (tgt := 27) F.1 F.2.1 d_M_isValue_23 (by decide) ?_
    exact mw_zret F hI hr hlk rfl h (Nat.le_of_ble_eq_true rfl) (Nat.le_of_ble_eq_true rfl) d_M_isValue_27
  · rw [if_neg hc] at h
    refine mt_iload_n F hl 1 rfl rfl d_M_isValue_4 ?_
    refine lv_iconst (v := 1) F.1 F.2.1 d_M_isValue_5 (by decide) ?_
    refine lv_icmp_eq (tgt := 22) F.1 F.2.1 d_M_isValue_6 (by decide) (fun hc => ?_) (fun hc => ?_)
    · rw [if_pos hc] at h
      refine lv_iconst (v := 1) F.1 F.2.1 d_M_isValue_22 (by decide) ?_
      refine lv_goto (tgt := 27) F.1 F.2.1 d_M_isValue_23 (by decide) ?_
      exact mw_zret F hI hr hlk rfl h (Nat.le_of_ble_eq_true rfl) (Nat.le_of_ble_eq_true rfl) d_M_isValue_27
    · rw [if_neg hc] at h
      refine mt_iload_n F hl 1 rfl rfl d_M_isValue_9 ?_
      refine lv_iconst (v := 2) F.1 F.2.1 d_M_isValue_10 (by decide) ?_
      refine lv_icmp_ne (tgt := 26) F.1 F.2.1 d_M_isValue_11 (by decide) (fun hc => ?_) (fun hc => ?_)
      · rw [if_neg hc] at h
        refine lv_iconst (v := 0) F.1 F.2.1 d_M_isValue_26 (by decide) ?_
        exact mw_zret F hI hr hlk rfl h (Nat.le_of_ble_eq_true rfl) (Nat.le_of_ble_eq_true rfl) d_M_isValue_27
      · rw [if_pos hc] at h
        refine mt_aload_n F hl 0 rfl rfl d_M_isValue_14 ?_
        refine mt_iload_n F hl 2 rfl rfl d_M_isValue_15 ?_
        obtain ⟨b1, e_b1, h⟩ := mw_bind h
        obtain ⟨o2, e_o2, h⟩ := mw_bind h
        refine mw_calli hI (mw_runV F hK hI (c_M_isThere l D dA A _ _ _ _ e_o2) (cwV 1 F.2.2.2.2 (gd_V k_131 k_132 k_133 k_134 k_130) rfl rfl rfl hd_M_isThere ⟨Nat.le_of_ble_eq_true rfl, Nat.le_of_ble_eq_true rfl⟩) (hc_4) e_b1 rfl hl.1 rfl (Nat.zero_le _) d_M_isValue_16 ⟨(Nat.le_of_ble_eq_true rfl), (Nat.le_of_ble_eq_true rfl)⟩) (fun H locs hI => ?_)
        refine lv_if_eq (tgt := 26) F.1 F.2.1 d_M_isValue_19 (by decide) (fun hc => ?_) (fun hc => ?_)
        · rw [if_pos hc] at h
          refine lv_iconst (v := 0) F.1 F.2.1 d_M_isValue_26 (by decide) ?_
          exact mw_zret F hI hr hlk rfl h (Nat.le_of_ble_eq_true rfl) (Nat.le_of_ble_eq_true rfl) d_M_isValue_27
        · rw [if_neg hc] at h
          refine lv_iconst (v := 1) F.1 F.2.1 d_M_isValue_22 (by decide) ?_
          refine lv_goto (tgt := 27) F.1 F.2.1 d_M_isValue_23 (by decide) ?_
          exact mw_zret F hI hr hlk rfl h (Nat.le_of_ble_eq_true rfl) (Nat.le_of_ble_eq_true rfl) d_M_isValue_27
abbrev rm_N_findField : Room := { frames := 0, cells := 0, slots := 0, locals := 0 }
set_option maxHeartbeats 4000000 in
set_option maxRecDepth 100000 in
theorem s_N_findField (l : Launch) (D : va_G) (dA : Nat → ClassId) (A : Nat → Prop) (b0 : Nat) {p : Program} {e : Env} {s : State} {m : MethodId} {args : Array Value} {below : List Frame} {meth : Method} {c : Code} (F : CallFix p m c b_N_findField 4 s args (cd_N_findField :: ALL) y_N_findField.cls) (hr : meth.sig.returnType = (some .int)) (hlk : meth.locks = false) (hnm : meth.name = y_N_findField.name) (hK : mw_K D CL (TY dA) ZZ s) (out : (Int32 × mc_S)) : ∀ n : Nat, (∀ (x1 : Int32) (x2 : Int32) (x3 : Int32) (S : mc_S) (H : Heap) (locs : List Loc) (ls : Array Slot), mw_I D dA CL A S s.heap H locs → mt_L ls 4 [(0, (.inr (.inr (some b0)))), (1, (.inl x1)), (2, (.inl x2)), (3, (.inl x3))] → g_N_findField b0 n x1 x2 x3 S = some out → W p l e rm_N_findField s m args below meth c H locs (0) (0) (MQ below (va_Qi (fun x (_ : Unit) => x = out.1) (fun _ t => mw_R D dA CL A out.2 t) A) args s 0 0 A) (F0 m 2 ls [])) := by
  intro n
  induction n with
  | zero =>
    intro x1 x2 x3 S H locs ls hI hl h; have h : (none : Option (Int32 × mc_S)) = some out := h; cases h
  | succ k0 ih =>
    intro x1 x2 x3 S H locs ls hI hl h
    have h : q_N_findField_0 b0 (g_N_findField b0 k0) x1 x2 x3 S = some out := h
    unfold q_N_findField_0 at h
    refine mt_iload_n F hl 3 rfl rfl d_N_findField_2 ?_
    refine mt_aload_n F hl 0 rfl rfl d_N_findField_3 ?_
    obtain ⟨v1, e_v1, h⟩ := mw_bind h
    refine mw_getR F hK hI (in_5 _) (hc_5) 1 (by decide) (mA k_45) rfl e_v1 d_N_findField_4 ?_
    refine mt_iload_n F hl 1 rfl rfl d_N_findField_7 ?_
    obtain ⟨v2, e_v2, h⟩ := mw_bind h
    refine mw_iald F hK hI (t0 := 0) rfl e_v2 d_N_findField_8 ?_
    refine lv_icmp_ge (tgt := 35) F.1 F.2.1 d_N_findField_9 (by decide) (fun hc => ?_) (fun hc => ?_)
    · rw [if_pos hc] at h
      refine lv_iconst (v := (-1)) F.1 F.2.1 d_N_findField_35 (by decide) ?_
      exact mw_iret F hI hr hlk h (Nat.le_of_ble_eq_true rfl) (Nat.le_of_ble_eq_true rfl) d_N_findField_36
    · rw [if_neg hc] at h
      refine mt_aload_n F hl 0 rfl rfl d_N_findField_12 ?_
      obtain ⟨v3, e_v3, h⟩ := mw_bind h
      refine mw_getR F hK hI (in_5 _) (hc_5) 2 (by decide) (mA k_46) rfl e_v3 d_N_findField_13 ?_
      refine lv_bipush (v := 8) F.1 F.2.1 d_N_findField_16 (by decide) ?_
      refine mt_iload_n F hl 1 rfl rfl d_N_findField_18 ?_
      refine lv_imul F.1 F.2.1 d_N_findField_19 ?_
      refine mt_iload_n F hl 3 rfl rfl d_N_findField_20 ?_
      refine lv_iadd F.1 F.2.1 d_N_findField_21 ?_
      obtain ⟨v4, e_v4, h⟩ := mw_bind h
      refine mw_iald F hK hI (t0 := 0) rfl e_v4 d_N_findField_22 ?_
      refine mt_iload_n F hl 2 rfl rfl d_N_findField_23 ?_
      refine lv_icmp_ne (tgt := 29) F.1 F.2.1 d_N_findField_24 (by decide) (fun hc => ?_) (fun hc => ?_)
      · rw [if_neg hc] at h
        refine mt_iinc (v := (x3 + 1)) F hl 3 rfl (by rw [show Int32.ofInt 1 = (1 : Int32) from by decide]) (Nat.le_of_ble_eq_true rfl) rfl d_N_findField_29 (fun ls hl => ?_)
        have hl : mt_L ls 4 [(3, (.inl (x3 + 1))), (0, (.inr (.inr (some b0)))), (1, (.inl x1)), (2, (.inl x2))] := hl
        refine lv_goto (tgt := 2) F.1 F.2.1 d_N_findField_32 (by decide) ?_
        refine W.widen (k := 0) (n := 0) (Nat.le_of_ble_eq_true rfl) (Nat.le_of_ble_eq_true rfl) ?_
        exact ih _ _ _ _ _ _ _ hI (mt_sub hl [1, 2, 3, 0] rfl) h
      · rw [if_pos hc] at h
        refine mt_iload_n F hl 3 rfl rfl d_N_findField_27 ?_
        exact mw_iret F hI hr hlk h (Nat.le_of_ble_eq_true rfl) (Nat.le_of_ble_eq_true rfl) d_N_findField_28
set_option maxHeartbeats 4000000 in
set_option maxRecDepth 100000 in
theorem c_N_findField (l : Launch) (D : va_G) (dA : Nat → ClassId) (A : Nat → Prop) (b0 : Nat) (a1 : Int32) (a2 : Int32) (S : mc_S) (out : (Int32 × mc_S)) (hf : f_N_findField b0 a1 a2 S = some out) : Met l y_N_findField (cd_N_findField :: ALL) rm_N_findField (va_Pc [va_rf (some b0), .int a1, .int a2] (mw_B D dA CL (TY dA) ZZ A S)) (va_Qi (fun x (_ : Unit) => x = out.1) (fun _ t => mw_R D dA CL A out.2 t) A) 0 0 A := by
  refine mw_ofW (cc := b_N_findField) (maxL := 4) (ret := (some .int)) [(.inr (.inr (some b0))), (.inl a1), (.inl a2)] rfl (by decide +kernel) (Nat.le_of_ble_eq_true rfl) (L := [(0, (.inr (.inr (some b0)))), (1, (.inl a1)), (2, (.inl a2))]) rfl (fun p e s m args below meth c F hr hlk hnm hK ls hl hI => ?_)
  have h := hf
  unfold f_N_findField at h
  refine lv_iconst (v := 0) F.1 F.2.1 d_N_findField_0 (by decide) ?_
  refine mt_istore_n F hl rfl (Nat.le_of_ble_eq_true rfl) rfl d_N_findField_1 (fun ls hl => ?_)
  have hl : mt_L ls 4 [(3, (.inl 0)), (0, (.inr (.inr (some b0)))), (1, (.inl a1)), (2, (.inl a2))] := hl
  refine W.widen (k := 0) (n := 0) (Nat.le_of_ble_eq_true rfl) (Nat.le_of_ble_eq_true rfl) ?_
  exact (s_N_findField l D dA A b0 F hr hlk hnm hK out 5000) _ _ _ _ _ _ _ hI (mt_sub hl [1, 2, 3, 0] rfl) h
abbrev rm_M_value : Room := { frames := 0, cells := 0, slots := 0, locals := 0 }
set_option maxHeartbeats 4000000 in
set_option maxRecDepth 100000 in
theorem c_M_value (l : Launch) (D : va_G) (dA : Nat → ClassId) (A : Nat → Prop) (a1 : Int32) (a2 : Int32) (S : mc_S) (out : (Int64 × mc_S)) (hf : f_M_value a1 a2 S = some out) : Met l y_M_value (cd_M_value :: ALL) rm_M_value (va_Pc [.int a1, .int a2] (mw_B D dA CL (TY dA) ZZ A S)) (va_Ql (fun x (_ : Unit) => x = out.1) (fun _ t => mw_R D dA CL A out.2 t) A) 0 0 A := by
  refine mw_ofW (cc := b_M_value) (maxL := 2) (ret := (some .long)) [(.inl a1), (.inl a2)] rfl (by decide +kernel) (Nat.le_of_ble_eq_true rfl) (L := [(0, (.inl a1)), (1, (.inl a2))]) rfl (fun p e s m args below meth c F hr hlk hnm hK ls hl hI => ?_)
  have h := hf
  unfold f_M_value at h
  refine mt_iload_n F hl 0 rfl rfl d_M_value_0 ?_
  refine lv_if_ne (tgt := 10) F.1 F.2.1 d_M_value_1 (by decide) (fun hc => ?_) (fun hc => ?_)
  · rw [if_neg hc] at h
    refine mt_iload_n F hl 0 rfl rfl d_M_value_10 ?_
    refine lv_iconst (v := 1) F.1 F.2.1 d_M_value_11 (by decide) ?_
    refine lv_icmp_ne (tgt := 20) F.1 F.2.1 d_M_value_12 (by decide) (fun hc => ?_) (fun hc => ?_)
    · rw [if_neg hc] at h
      refine lv_ldc2 (v := 1099511627777) F.1 F.2.1 F.2.2.2.1 (F.2.2.2.2 _ (mA k_135)) d_M_value_20 ?_
      refine mt_iload_n F hl 1 rfl rfl d_M_value_23 ?_
      refine lv_i2l F.1 F.2.1 d_M_value_24 rfl ?_
      refine lv_ladd F.1 F.2.1 d_M_value_25 ?_
      exact mw_lret F hI hr hlk h (Nat.le_of_ble_eq_true rfl) (Nat.le_of_ble_eq_true rfl) d_M_value_26
    · rw [if_pos hc] at h
      refine mt_iload_n F hl 1 rfl rfl d_M_value_15 ?_
      refine lv_i2l F.1 F.2.1 d_M_value_16 rfl ?_
      refine lv_goto (tgt := 26) F.1 F.2.1 d_M_value_17 (by decide) ?_
      exact mw_lret F hI hr hlk h (Nat.le_of_ble_eq_true rfl) (Nat.le_of_ble_eq_true rfl) d_M_value_26
  · rw [if_pos hc] at h
    refine lv_ldc2 (v := 1099511627776) F.1 F.2.1 F.2.2.2.1 (F.2.2.2.2 _ (mA k_136)) d_M_value_4 ?_
    refine lv_goto (tgt := 26) F.1 F.2.1 d_M_value_7 (by decide) ?_
    exact mw_lret F hI hr hlk h (Nat.le_of_ble_eq_true rfl) (Nat.le_of_ble_eq_true rfl) d_M_value_26
abbrev rm_M_set : Room := { frames := 3, cells := 0, slots := 0, locals := 68 }
set_option maxHeartbeats 4000000 in
set_option maxRecDepth 100000 in
theorem s_M_set (l : Launch) (D : va_G) (dA : Nat → ClassId) (A : Nat → Prop) (b0 : Nat) {p : Program} {e : Env} {s : State} {m : MethodId} {args : Array Value} {below : List Frame} {meth : Method} {c : Code} (F : CallFix p m c b_M_set 9 s args (cd_M_set :: ALL) y_M_set.cls) (hr : meth.sig.returnType = (some .int)) (hlk : meth.locks = false) (hnm : meth.name = y_M_set.name) (hK : mw_K D CL (TY dA) ZZ s) (out : (Int32 × mc_S)) : ∀ n : Nat, (∀ (x1 : Int32) (x2 : Int32) (x3 : Int32) (x4 : Int32) (x5 : Int32) (x6 : Int32) (x7 : Int32) (x8 : Int32) (S : mc_S) (H : Heap) (locs : List Loc) (ls : Array Slot), mw_I D dA CL A S s.heap H locs → mt_L ls 9 [(0, (.inr (.inr (some b0)))), (1, (.inl x1)), (2, (.inl x2)), (3, (.inl x3)), (4, (.inl x4)), (5, (.inl x5)), (6, (.inl x6)), (7, (.inl x7)), (8, (.inl x8))] → g_M_set b0 n x1 x2 x3 x4 x5 x6 x7 x8 S = some out → W p l e rm_M_set s m args below meth c H locs (0) (0) (MQ below (va_Qi (fun x (_ : Unit) => x = out.1) (fun _ t => mw_R D dA CL A out.2 t) A) args s 0 0 A) (F0 m 80 ls [])) := by
  intro n
  induction n with
  | zero =>
    intro x1 x2 x3 x4 x5 x6 x7 x8 S H locs ls hI hl h; have h : (none : Option (Int32 × mc_S)) = some out := h; cases h
  | succ k0 ih =>
    intro x1 x2 x3 x4 x5 x6 x7 x8 S H locs ls hI hl h
    have h : q_M_set_0 b0 (g_M_set b0 k0) x1 x2 x3 x4 x5 x6 x7 x8 S = some out := h
    unfold q_M_set_0 at h
    refine mt_iload F hl 8 rfl d_M_set_80 ?_
    refine mt_aload_n F hl 0 rfl rfl d_M_set_82 ?_
    obtain ⟨v1, e_v1, h⟩ := mw_bind h
    refine mw_getR F hK hI (in_4 _) (hc_4) 0 (by decide) (mA k_56) rfl e_v1 d_M_set_83 ?_
    obtain ⟨v2, e_v2, h⟩ := mw_bind h
    refine mw_getR F hK hI (in_5 _) (hc_5) 1 (by decide) (mA k_64) rfl e_v2 d_M_set_86 ?_
    refine mt_iload_n F hl 1 rfl rfl d_M_set_89 ?_
    obtain ⟨v3, e_v3, h⟩ := mw_bind h
    refine mw_iald F hK hI (t0 := 0) rfl e_v3 d_M_set_90 ?_
    refine lv_icmp_ge (tgt := 156) F.1 F.2.1 d_M_set_91 (by decide) (fun hc => ?_) (fun hc => ?_)
    · rw [if_pos hc] at h
      refine mt_aload_n F hl 0 rfl rfl d_M_set_156 ?_
      obtain ⟨v4, e_v4, h⟩ := mw_bind h
      refine mw_getR F hK hI (in_4 _) (hc_4) 0 (by decide) (mA k_56) rfl e_v4 d_M_set_157 ?_
      obtain ⟨v5, e_v5, h⟩ := mw_bind h
      refine mw_getR F hK hI (in_5 _) (hc_5) 1 (by decide) (mA k_64) rfl e_v5 d_M_set_160 ?_
      refine mt_iload_n F hl 1 rfl rfl d_M_set_163 ?_
      obtain ⟨v6, e_v6, h⟩ := mw_bind h
      refine mw_iald F hK hI (t0 := 0) rfl e_v6 d_M_set_164 ?_
      exact mw_iret F hI hr hlk h (Nat.le_of_ble_eq_true rfl) (Nat.le_of_ble_eq_true rfl) d_M_set_165
    · rw [if_neg hc] at h
      refine mt_aload_n F hl 0 rfl rfl d_M_set_94 ?_
      obtain ⟨v7, e_v7, h⟩ := mw_bind h
      refine mw_getR F hK hI (in_4 _) (hc_4) 0 (by decide) (mA k_56) rfl e_v7 d_M_set_95 ?_
      obtain ⟨v8, e_v8, h⟩ := mw_bind h
      refine mw_getR F hK hI (in_5 _) (hc_5) 2 (by decide) (mA k_153) rfl e_v8 d_M_set_98 ?_
      refine mt_iload F hl 6 rfl d_M_set_101 ?_
      refine mt_iload F hl 8 rfl d_M_set_103 ?_
      refine lv_iadd F.1 F.2.1 d_M_set_105 ?_
      refine mt_aload_n F hl 0 rfl rfl d_M_set_106 ?_
      obtain ⟨v9, e_v9, h⟩ := mw_bind h
      refine mw_getR F hK hI (in_4 _) (hc_4) 0 (by decide) (mA k_56) rfl e_v9 d_M_set_107 ?_
      obtain ⟨v10, e_v10, h⟩ := mw_bind h
      refine mw_getR F hK hI (in_5 _) (hc_5) 2 (by decide) (mA k_153) rfl e_v10 d_M_set_110 ?_
      refine mt_iload F hl 6 rfl d_M_set_113 ?_
      refine mt_iload F hl 8 rfl d_M_set_115 ?_
      refine lv_iadd F.1 F.2.1 d_M_set_117 ?_
      refine lv_iconst (v := 1) F.1 F.2.1 d_M_set_118 (by decide) ?_
      refine lv_iadd F.1 F.2.1 d_M_set_119 ?_
      obtain ⟨v11, e_v11, h⟩ := mw_bind h
      refine mw_iald F hK hI (t0 := 0) rfl e_v11 d_M_set_120 ?_
      obtain ⟨S12, e_S12, h⟩ := mw_bind h
      refine mw_iast F hK hI (t0 := 0) rfl e_S12 d_M_set_121 (fun H locs hI => ?_)
      refine mt_aload_n F hl 0 rfl rfl d_M_set_122 ?_
      obtain ⟨v13, e_v13, h⟩ := mw_bind h
      refine mw_getR F hK hI (in_4 _) (hc_4) 0 (by decide) (mA k_56) rfl e_v13 d_M_set_123 ?_
      obtain ⟨v14, e_v14, h⟩ := mw_bind h
      refine mw_getR F hK hI (in_5 _) (hc_5) 4 (by decide) (mA k_149) rfl e_v14 d_M_set_126 ?_
      refine mt_iload F hl 7 rfl d_M_set_129 ?_
      refine mt_iload F hl 8 rfl d_M_set_131 ?_
      refine lv_iadd F.1 F.2.1 d_M_set_133 ?_
      refine mt_aload_n F hl 0 rfl rfl d_M_set_134 ?_
      obtain ⟨v15, e_v15, h⟩ := mw_bind h
      refine mw_getR F hK hI (in_4 _) (hc_4) 0 (by decide) (mA k_56) rfl e_v15 d_M_set_135 ?_
      obtain ⟨v16, e_v16, h⟩ := mw_bind h
      refine mw_getR F hK hI (in_5 _) (hc_5) 4 (by decide) (mA k_149) rfl e_v16 d_M_set_138 ?_
      refine mt_iload F hl 7 rfl d_M_set_141 ?_
      refine mt_iload F hl 8 rfl d_M_set_143 ?_
      refine lv_iadd F.1 F.2.1 d_M_set_145 ?_
      refine lv_iconst (v := 1) F.1 F.2.1 d_M_set_146 (by decide) ?_
      refine lv_iadd F.1 F.2.1 d_M_set_147 ?_
      obtain ⟨v17, e_v17, h⟩ := mw_bind h
      refine mw_lald F hK hI (t0 := 1) rfl e_v17 d_M_set_148 ?_
      obtain ⟨S18, e_S18, h⟩ := mw_bind h
      refine mw_last F hK hI (t0 := 1) rfl e_S18 d_M_set_149 (fun H locs hI => ?_)
      refine mt_iinc (v := (x8 + 1)) F hl 8 rfl (by rw [show Int32.ofInt 1 = (1 : Int32) from by decide]) (Nat.le_of_ble_eq_true rfl) rfl d_M_set_150 (fun ls hl => ?_)
      have hl : mt_L ls 9 [(8, (.inl (x8 + 1))), (0, (.inr (.inr (some b0)))), (1, (.inl x1)), (2, (.inl x2)), (3, (.inl x3)), (4, (.inl x4)), (5, (.inl x5)), (6, (.inl x6)), (7, (.inl x7))] := hl
      refine lv_goto (tgt := 80) F.1 F.2.1 d_M_set_153 (by decide) ?_
      refine W.widen (k := 0) (n := 0) (Nat.le_of_ble_eq_true rfl) (Nat.le_of_ble_eq_true rfl) ?_
      exact ih _ _ _ _ _ _ _ _ _ _ _ _ hI (mt_sub hl [1, 2, 3, 4, 5, 6, 7, 8, 0] rfl) h
set_option maxHeartbeats 4000000 in
set_option maxRecDepth 100000 in
theorem c_M_set (l : Launch) (D : va_G) (dA : Nat → ClassId) (A : Nat → Prop) (b0 : Nat) (a1 : Int32) (a2 : Int32) (a3 : Int32) (a4 : Int32) (S : mc_S) (out : (Int32 × mc_S)) (hf : f_M_set b0 a1 a2 a3 a4 S = some out) : Met l y_M_set (cd_M_set :: ALL) rm_M_set (va_Pc [va_rf (some b0), .int a1, .int a2, .int a3, .int a4] (mw_B D dA CL (TY dA) ZZ A S)) (va_Qi (fun x (_ : Unit) => x = out.1) (fun _ t => mw_R D dA CL A out.2 t) A) 0 0 A := by
  refine mw_ofW (cc := b_M_set) (maxL := 9) (ret := (some .int)) [(.inr (.inr (some b0))), (.inl a1), (.inl a2), (.inl a3), (.inl a4)] rfl (by decide +kernel) (Nat.le_of_ble_eq_true rfl) (L := [(0, (.inr (.inr (some b0)))), (1, (.inl a1)), (2, (.inl a2)), (3, (.inl a3)), (4, (.inl a4))]) rfl (fun p e s m args below meth c F hr hlk hnm hK ls hl hI => ?_)
  have h := hf
  unfold f_M_set at h
  refine mt_aload_n F hl 0 rfl rfl d_M_set_0 ?_
  refine mt_iload_n F hl 1 rfl rfl d_M_set_1 ?_
  refine lv_iconst (v := 1) F.1 F.2.1 d_M_set_2 (by decide) ?_
  obtain ⟨b1, e_b1, h⟩ := mw_bind h
  obtain ⟨o2, e_o2, h⟩ := mw_bind h
  refine mw_calli hI (mw_runV F hK hI (c_M_is l D dA A _ _ _ _ _ e_o2) (cwV 2 F.2.2.2.2 (gd_V k_137 k_138 k_139 k_140 k_130) rfl rfl rfl hd_M_is ⟨Nat.le_of_ble_eq_true rfl, Nat.le_of_ble_eq_true rfl⟩) (hc_4) e_b1 rfl hl.1 rfl (Nat.zero_le _) d_M_set_3 ⟨(Nat.le_of_ble_eq_true rfl), (Nat.le_of_ble_eq_true rfl)⟩) (fun H locs hI => ?_)
  refine lv_if_eq (tgt := 19) F.1 F.2.1 d_M_set_6 (by decide) (fun hc => ?_) (fun hc => ?_)
  · rw [if_pos hc] at h
    refine lv_iconst (v := (-1)) F.1 F.2.1 d_M_set_19 (by decide) ?_
    exact mw_iret F hI hr hlk h (Nat.le_of_ble_eq_true rfl) (Nat.le_of_ble_eq_true rfl) d_M_set_20
  · rw [if_neg hc] at h
    refine mt_aload_n F hl 0 rfl rfl d_M_set_9 ?_
    refine mt_iload_n F hl 3 rfl rfl d_M_set_10 ?_
    refine mt_iload F hl 4 rfl d_M_set_11 ?_
    obtain ⟨b3, e_b3, h⟩ := mw_bind h
    obtain ⟨o4, e_o4, h⟩ := mw_bind h
    refine mw_calli hI (mw_runV F hK hI (c_M_isValue l D dA A _ _ _ _ _ e_o4) (cwV 2 F.2.2.2.2 (gd_V k_141 k_142 k_143 k_144 k_130) rfl rfl rfl hd_M_isValue ⟨Nat.le_of_ble_eq_true rfl, Nat.le_of_ble_eq_true rfl⟩) (hc_4) e_b3 rfl hl.1 rfl (Nat.zero_le _) d_M_set_13 ⟨(Nat.le_of_ble_eq_true rfl), (Nat.le_of_ble_eq_true rfl)⟩) (fun H locs hI => ?_)
    refine lv_if_ne (tgt := 21) F.1 F.2.1 d_M_set_16 (by decide) (fun hc => ?_) (fun hc => ?_)
    · rw [if_neg hc] at h
      refine mt_aload_n F hl 0 rfl rfl d_M_set_21 ?_
      obtain ⟨v5, e_v5, h⟩ := mw_bind h
      refine mw_getR F hK hI (in_4 _) (hc_4) 0 (by decide) (mA k_56) rfl e_v5 d_M_set_22 ?_
      refine mt_iload_n F hl 1 rfl rfl d_M_set_25 ?_
      refine mt_iload_n F hl 2 rfl rfl d_M_set_26 ?_
      obtain ⟨b6, e_b6, h⟩ := mw_bind h
      obtain ⟨o7, e_o7, h⟩ := mw_bind h
      refine mw_calli hI (mw_runV F hK hI (c_N_findField l D dA A _ _ _ _ _ e_o7) (cwV 2 F.2.2.2.2 (gd_V k_145 k_146 k_147 k_148 k_53) rfl rfl rfl hd_N_findField ⟨Nat.le_of_ble_eq_true rfl, Nat.le_of_ble_eq_true rfl⟩) (hc_5) e_b6 rfl hl.1 rfl (Nat.zero_le _) d_M_set_27 ⟨(Nat.le_of_ble_eq_true rfl), (Nat.le_of_ble_eq_true rfl)⟩) (fun H locs hI => ?_)
      refine mt_istore F hl (Nat.le_of_ble_eq_true rfl) rfl d_M_set_30 (fun ls hl => ?_)
      have hl : mt_L ls 9 [(5, (.inl o7.1)), (0, (.inr (.inr (some b0)))), (1, (.inl a1)), (2, (.inl a2)), (3, (.inl a3)), (4, (.inl a4))] := hl
      refine lv_bipush (v := 8) F.1 F.2.1 d_M_set_32 (by decide) ?_
      refine mt_iload_n F hl 2 rfl rfl d_M_set_34 ?_
      refine lv_imul F.1 F.2.1 d_M_set_35 ?_
      refine mt_istore F hl (Nat.le_of_ble_eq_true rfl) rfl d_M_set_36 (fun ls hl => ?_)
      have hl : mt_L ls 9 [(6, (.inl (8 * a1))), (5, (.inl o7.1)), (0, (.inr (.inr (some b0)))), (1, (.inl a1)), (2, (.inl a2)), (3, (.inl a3)), (4, (.inl a4))] := hl
      refine lv_bipush (v := 20) F.1 F.2.1 d_M_set_38 (by decide) ?_
      refine mt_iload_n F hl 3 rfl rfl d_M_set_40 ?_
      refine lv_imul F.1 F.2.1 d_M_set_41 ?_
      refine mt_istore F hl (Nat.le_of_ble_eq_true rfl) rfl d_M_set_42 (fun ls hl => ?_)
      have hl : mt_L ls 9 [(7, (.inl (20 * a1))), (6, (.inl (8 * a1))), (5, (.inl o7.1)), (0, (.inr (.inr (some b0)))), (1, (.inl a1)), (2, (.inl a2)), (3, (.inl a3)), (4, (.inl a4))] := hl
      refine mt_iload_n F hl 6 rfl rfl d_M_set_44 ?_
      refine lv_if_ne (tgt := 166) F.1 F.2.1 d_M_set_45 (by decide) (fun hc => ?_) (fun hc => ?_)
      · rw [if_neg hc] at h
        refine mt_iload F hl 2 rfl d_M_set_166 ?_
        refine lv_if_ge (tgt := 226) F.1 F.2.1 d_M_set_168 (by decide) (fun hc => ?_) (fun hc => ?_)
        · rw [if_pos hc] at h
          refine mt_aload_n F hl 3 rfl rfl d_M_set_226 ?_
          obtain ⟨v8, e_v8, h⟩ := mw_bind h
          refine mw_getR F hK hI (in_4 _) (hc_4) 0 (by decide) (mA k_56) rfl e_v8 d_M_set_227 ?_
          obtain ⟨v9, e_v9, h⟩ := mw_bind h
          refine mw_getR F hK hI (in_5 _) (hc_5) 4 (by decide) (mA k_149) rfl e_v9 d_M_set_230 ?_
          refine mt_iload F hl 0 rfl d_M_set_233 ?_
          refine mt_iload F hl 2 rfl d_M_set_235 ?_
          refine lv_iadd F.1 F.2.1 d_M_set_237 ?_
          refine mt_iload_n F hl 6 rfl rfl d_M_set_238 ?_
          refine mt_iload F hl 7 rfl d_M_set_239 ?_
          obtain ⟨o10, e_o10, h⟩ := mw_bind h
          refine mw_calll hI (mw_runS F hK hI (c_M_value l D dA A _ _ _ _ e_o10) (cwS 2 F.2.2.2.2 (gd_S k_150 k_151 k_152 k_130) rfl rfl rfl hd_M_value ⟨Nat.le_of_ble_eq_true rfl, Nat.le_of_ble_eq_true rfl⟩) rfl hl.1 rfl (by simp [mw_cat, mw_cI, mw_cL]) d_M_set_241 ⟨(Nat.le_of_ble_eq_true rfl), (Nat.le_of_ble_eq_true rfl)⟩) (fun H locs hI => ?_)
          obtain ⟨S11, e_S11, h⟩ := mw_bind h
          refine mw_last F hK hI (t0 := 1) rfl e_S11 d_M_set_244 (fun H locs hI => ?_)
          refine mt_aload_n F hl 3 rfl rfl d_M_set_245 ?_
          obtain ⟨v12, e_v12, h⟩ := mw_bind h
          refine mw_getR F hK hI (in_4 _) (hc_4) 0 (by decide) (mA k_56) rfl e_v12 d_M_set_246 ?_
          obtain ⟨v13, e_v13, h⟩ := mw_bind h
          refine mw_getR F hK hI (in_5 _) (hc_5) 1 (by decide) (mA k_64) rfl e_v13 d_M_set_249 ?_
          refine mt_iload_n F hl 4 rfl rfl d_M_set_252 ?_
          obtain ⟨v14, e_v14, h⟩ := mw_bind h
          refine mw_iald F hK hI (t0 := 0) rfl e_v14 d_M_set_253 ?_
          exact mw_iret F hI hr hlk h (Nat.le_of_ble_eq_true rfl) (Nat.le_of_ble_eq_true rfl) d_M_set_254
        · rw [if_neg hc] at h
          refine mt_aload_n F hl 3 rfl rfl d_M_set_171 ?_
          obtain ⟨v15, e_v15, h⟩ := mw_bind h
          refine mw_getR F hK hI (in_4 _) (hc_4) 0 (by decide) (mA k_56) rfl e_v15 d_M_set_172 ?_
          obtain ⟨v16, e_v16, h⟩ := mw_bind h
          refine mw_getR F hK hI (in_5 _) (hc_5) 1 (by decide) (mA k_64) rfl e_v16 d_M_set_175 ?_
          refine mt_iload_n F hl 4 rfl rfl d_M_set_178 ?_
          obtain ⟨v17, e_v17, h⟩ := mw_bind h
          refine mw_iald F hK hI (t0 := 0) rfl e_v17 d_M_set_179 ?_
          refine lv_bipush (v := 8) F.1 F.2.1 d_M_set_180 (by decide) ?_
          refine lv_icmp_ne (tgt := 188) F.1 F.2.1 d_M_set_182 (by decide) (fun hc => ?_) (fun hc => ?_)
          · rw [if_neg hc] at h
            refine mt_aload_n F hl 3 rfl rfl d_M_set_188 ?_
            obtain ⟨v18, e_v18, h⟩ := mw_bind h
            refine mw_getR F hK hI (in_4 _) (hc_4) 0 (by decide) (mA k_56) rfl e_v18 d_M_set_189 ?_
            obtain ⟨v19, e_v19, h⟩ := mw_bind h
            refine mw_getR F hK hI (in_5 _) (hc_5) 1 (by decide) (mA k_64) rfl e_v19 d_M_set_192 ?_
            refine mt_iload_n F hl 4 rfl rfl d_M_set_195 ?_
            obtain ⟨v20, e_v20, h⟩ := mw_bind h
            refine mw_iald F hK hI (t0 := 0) rfl e_v20 d_M_set_196 ?_
            refine mt_istore F hl (Nat.le_of_ble_eq_true rfl) rfl d_M_set_197 (fun ls hl => ?_)
            have hl : mt_L ls 9 [(5, (.inl v20)), (7, (.inl (20 * a1))), (6, (.inl (8 * a1))), (0, (.inr (.inr (some b0)))), (1, (.inl a1)), (2, (.inl a2)), (3, (.inl a3)), (4, (.inl a4))] := hl
            refine mt_aload_n F hl 3 rfl rfl d_M_set_199 ?_
            obtain ⟨v21, e_v21, h⟩ := mw_bind h
            refine mw_getR F hK hI (in_4 _) (hc_4) 0 (by decide) (mA k_56) rfl e_v21 d_M_set_200 ?_
            obtain ⟨v22, e_v22, h⟩ := mw_bind h
            refine mw_getR F hK hI (in_5 _) (hc_5) 1 (by decide) (mA k_64) rfl e_v22 d_M_set_203 ?_
            refine mt_iload_n F hl 4 rfl rfl d_M_set_206 ?_
            refine lv_dup2_11 F.1 F.2.1 d_M_set_207 rfl (mw_cat _) ?_
            obtain ⟨v23, e_v23, h⟩ := mw_bind h
            refine mw_iald F hK hI (t0 := 0) rfl e_v23 d_M_set_208 ?_
            refine lv_iconst (v := 1) F.1 F.2.1 d_M_set_209 (by decide) ?_
            refine lv_iadd F.1 F.2.1 d_M_set_210 ?_
            obtain ⟨S24, e_S24, h⟩ := mw_bind h
            refine mw_iast F hK hI (t0 := 0) rfl e_S24 d_M_set_211 (fun H locs hI => ?_)
            refine mt_aload_n F hl 3 rfl rfl d_M_set_212 ?_
            obtain ⟨v25, e_v25, h⟩ := mw_bind h
            refine mw_getR F hK hI (in_4 _) (hc_4) 0 (by decide) (mA k_56) rfl e_v25 d_M_set_213 ?_
            obtain ⟨v26, e_v26, h⟩ := mw_bind h
            refine mw_getR F hK hI (in_5 _) (hc_5) 2 (by decide) (mA k_153) rfl e_v26 d_M_set_216 ?_
            refine mt_iload F hl 2 rfl d_M_set_219 ?_
            refine mt_iload F hl 0 rfl d_M_set_221 ?_
            refine lv_iadd F.1 F.2.1 d_M_set_223 ?_
            refine mt_iload_n F hl 5 rfl rfl d_M_set_224 ?_
            obtain ⟨S27, e_S27, h⟩ := mw_bind h
            refine mw_iast F hK hI (t0 := 0) rfl e_S27 d_M_set_225 (fun H locs hI => ?_)
            refine mt_aload_n F hl 3 rfl rfl d_M_set_226 ?_
            obtain ⟨v28, e_v28, h⟩ := mw_bind h
            refine mw_getR F hK hI (in_4 _) (hc_4) 0 (by decide) (mA k_56) rfl e_v28 d_M_set_227 ?_
            obtain ⟨v29, e_v29, h⟩ := mw_bind h
            refine mw_getR F hK hI (in_5 _) (hc_5) 4 (by decide) (mA k_149) rfl e_v29 d_M_set_230 ?_
            refine mt_iload F hl 1 rfl d_M_set_233 ?_
            refine mt_iload F hl 0 rfl d_M_set_235 ?_
            refine lv_iadd F.1 F.2.1 d_M_set_237 ?_
            refine mt_iload_n F hl 6 rfl rfl d_M_set_238 ?_
            refine mt_iload F hl 7 rfl d_M_set_239 ?_
            obtain ⟨o30, e_o30, h⟩ := mw_bind h
            refine mw_calll hI (mw_runS F hK hI (c_M_value l D dA A _ _ _ _ e_o30) (cwS 2 F.2.2.2.2 (gd_S k_150 k_151 k_152 k_130) rfl rfl rfl hd_M_value ⟨Nat.le_of_ble_eq_true rfl, Nat.le_of_ble_eq_true rfl⟩) rfl hl.1 rfl (by simp [mw_cat, mw_cI, mw_cL]) d_M_set_241 ⟨(Nat.le_of_ble_eq_true rfl), (Nat.le_of_ble_eq_true rfl)⟩) (fun H locs hI => ?_)
            obtain ⟨S31, e_S31, h⟩ := mw_bind h
            refine mw_last F hK hI (t0 := 1) rfl e_S31 d_M_set_244 (fun H locs hI => ?_)
            refine mt_aload_n F hl 3 rfl rfl d_M_set_245 ?_
            obtain ⟨v32, e_v32, h⟩ := mw_bind h
            refine mw_getR F hK hI (in_4 _) (hc_4) 0 (by decide) (mA k_56) rfl e_v32 d_M_set_246 ?_
            obtain ⟨v33, e_v33, h⟩ := mw_bind h
            refine mw_getR F hK hI (in_5 _) (hc_5) 1 (by decide) (mA k_64) rfl e_v33 d_M_set_249 ?_
            refine mt_iload_n F hl 4 rfl rfl d_M_set_252 ?_
            obtain ⟨v34, e_v34, h⟩ := mw_bind h
            refine mw_iald F hK hI (t0 := 0) rfl e_v34 d_M_set_253 ?_
            exact mw_iret F hI hr hlk h (Nat.le_of_ble_eq_true rfl) (Nat.le_of_ble_eq_true rfl) d_M_set_254
          · rw [if_pos hc] at h
            refine lv_bipush (v := (-3)) F.1 F.2.1 d_M_set_185 (by decide) ?_
            exact mw_iret F hI hr hlk h (Nat.le_of_ble_eq_true rfl) (Nat.le_of_ble_eq_true rfl) d_M_set_187
      · rw [if_pos hc] at h
        refine mt_iload F hl 2 rfl d_M_set_48 ?_
        refine lv_if_ge (tgt := 63) F.1 F.2.1 d_M_set_50 (by decide) (fun hc => ?_) (fun hc => ?_)
        · rw [if_pos hc] at h
          refine mt_aload_n F hl 3 rfl rfl d_M_set_63 ?_
          obtain ⟨v35, e_v35, h⟩ := mw_bind h
          refine mw_getR F hK hI (in_4 _) (hc_4) 0 (by decide) (mA k_56) rfl e_v35 d_M_set_64 ?_
          obtain ⟨v36, e_v36, h⟩ := mw_bind h
          refine mw_getR F hK hI (in_5 _) (hc_5) 1 (by decide) (mA k_64) rfl e_v36 d_M_set_67 ?_
          refine mt_iload_n F hl 4 rfl rfl d_M_set_70 ?_
          refine lv_dup2_11 F.1 F.2.1 d_M_set_71 rfl (mw_cat _) ?_
          obtain ⟨v37, e_v37, h⟩ := mw_bind h
          refine mw_iald F hK hI (t0 := 0) rfl e_v37 d_M_set_72 ?_
          refine lv_iconst (v := 1) F.1 F.2.1 d_M_set_73 (by decide) ?_
          refine lv_isub F.1 F.2.1 d_M_set_74 ?_
          obtain ⟨S38, e_S38, h⟩ := mw_bind h
          refine mw_iast F hK hI (t0 := 0) rfl e_S38 d_M_set_75 (fun H locs hI => ?_)
          refine mt_iload F hl 2 rfl d_M_set_76 ?_
          refine mt_istore F hl (Nat.le_of_ble_eq_true rfl) rfl d_M_set_78 (fun ls hl => ?_)
          have hl : mt_L ls 9 [(8, (.inl o7.1)), (7, (.inl (20 * a1))), (6, (.inl (8 * a1))), (5, (.inl o7.1)), (0, (.inr (.inr (some b0)))), (1, (.inl a1)), (2, (.inl a2)), (3, (.inl a3)), (4, (.inl a4))] := hl
          refine W.widen (k := 0) (n := 0) (Nat.le_of_ble_eq_true rfl) (Nat.le_of_ble_eq_true rfl) ?_
          exact (s_M_set l D dA A b0 F hr hlk hnm hK out 5000) _ _ _ _ _ _ _ _ _ _ _ _ hI (mt_sub hl [4, 5, 6, 7, 8, 3, 2, 1, 0] rfl) h
        · rw [if_neg hc] at h
          refine mt_aload_n F hl 3 rfl rfl d_M_set_53 ?_
          obtain ⟨v39, e_v39, h⟩ := mw_bind h
          refine mw_getR F hK hI (in_4 _) (hc_4) 0 (by decide) (mA k_56) rfl e_v39 d_M_set_54 ?_
          obtain ⟨v40, e_v40, h⟩ := mw_bind h
          refine mw_getR F hK hI (in_5 _) (hc_5) 1 (by decide) (mA k_64) rfl e_v40 d_M_set_57 ?_
          refine mt_iload_n F hl 4 rfl rfl d_M_set_60 ?_
          obtain ⟨v41, e_v41, h⟩ := mw_bind h
          refine mw_iald F hK hI (t0 := 0) rfl e_v41 d_M_set_61 ?_
          exact mw_iret F hI hr hlk h (Nat.le_of_ble_eq_true rfl) (Nat.le_of_ble_eq_true rfl) d_M_set_62
    · rw [if_pos hc] at h
      refine lv_iconst (v := (-1)) F.1 F.2.1 d_M_set_19 (by decide) ?_
      exact mw_iret F hI hr hlk h (Nat.le_of_ble_eq_true rfl) (Nat.le_of_ble_eq_true rfl) d_M_set_20
abbrev rm_S_named : Room := { frames := 1, cells := 0, slots := 0, locals := 22 }
set_option maxHeartbeats 4000000 in
set_option maxRecDepth 100000 in
theorem c_S_named (l : Launch) (D : va_G) (dA : Nat → ClassId) (A : Nat → Prop) (b0 : Nat) (a1 : Int32) (S : mc_S) (out : (Int64 × mc_S)) (hf : f_S_named b0 a1 S = some out) : Met l y_S_named (cd_S_named :: ALL) rm_S_named (va_Pc [va_rf (some b0), .int a1] (mw_B D dA CL (TY dA) ZZ A S)) (va_Ql (fun x (_ : Unit) => x = out.1) (fun _ t => mw_R D dA CL A out.2 t) A) 0 0 A := by
  refine mw_ofW (cc := b_S_named) (maxL := 3) (ret := (some .long)) [(.inr (.inr (some b0))), (.inl a1)] rfl (by decide +kernel) (Nat.le_of_ble_eq_true rfl) (L := [(0, (.inr (.inr (some b0)))), (1, (.inl a1))]) rfl (fun p e s m args below meth c F hr hlk hnm hK ls hl hI => ?_)
  have h := hf
  unfold f_S_named at h
  refine mt_aload_n F hl 0 rfl rfl d_S_named_0 ?_
  refine mt_iload_n F hl 1 rfl rfl d_S_named_1 ?_
  obtain ⟨b1, e_b1, h⟩ := mw_bind h
  obtain ⟨o2, e_o2, h⟩ := mw_bind h
  refine mw_calli hI (mw_runV F hK hI (c_S_placeOf l D dA A _ _ _ _ e_o2) (cwV 1 F.2.2.2.2 (gd_V k_101 k_102 k_103 k_104 k_33) rfl rfl rfl hd_S_placeOf ⟨Nat.le_of_ble_eq_true rfl, Nat.le_of_ble_eq_true rfl⟩) (hc_1) e_b1 rfl hl.1 rfl (Nat.zero_le _) d_S_named_2 ⟨(Nat.le_of_ble_eq_true rfl), (Nat.le_of_ble_eq_true rfl)⟩) (fun H locs hI => ?_)
  refine mt_istore_n F hl rfl (Nat.le_of_ble_eq_true rfl) rfl d_S_named_5 (fun ls hl => ?_)
  have hl : mt_L ls 3 [(2, (.inl o2.1)), (0, (.inr (.inr (some b0)))), (1, (.inl a1))] := hl
  refine mt_iload_n F hl 0 rfl rfl d_S_named_6 ?_
  refine mt_aload_n F hl 1 rfl rfl d_S_named_7 ?_
  obtain ⟨v3, e_v3, h⟩ := mw_bind h
  refine mw_getI F hK hI (in_1 _) (hc_1) 3 (by decide) (mA k_9) rfl e_v3 d_S_named_8 ?_
  refine lv_icmp_ge (tgt := 23) F.1 F.2.1 d_S_named_11 (by decide) (fun hc => ?_) (fun hc => ?_)
  · rw [if_pos hc] at h
    refine lv_ldc2 (v := 1099511627776) F.1 F.2.1 F.2.2.2.1 (F.2.2.2.2 _ (mA k_105)) d_S_named_23 ?_
    exact mw_lret F hI hr hlk h (Nat.le_of_ble_eq_true rfl) (Nat.le_of_ble_eq_true rfl) d_S_named_26
  · rw [if_neg hc] at h
    refine mt_aload_n F hl 1 rfl rfl d_S_named_14 ?_
    obtain ⟨v4, e_v4, h⟩ := mw_bind h
    refine mw_getR F hK hI (in_1 _) (hc_1) 2 (by decide) (mA k_13) rfl e_v4 d_S_named_15 ?_
    refine mt_iload_n F hl 0 rfl rfl d_S_named_18 ?_
    obtain ⟨v5, e_v5, h⟩ := mw_bind h
    refine mw_lald F hK hI (t0 := 1) rfl e_v5 d_S_named_19 ?_
    refine lv_goto (tgt := 26) F.1 F.2.1 d_S_named_20 (by decide) ?_
    exact mw_lret F hI hr hlk h (Nat.le_of_ble_eq_true rfl) (Nat.le_of_ble_eq_true rfl) d_S_named_26
abbrev rm_K_get : Room := { frames := 2, cells := 0, slots := 0, locals := 44 }
set_option maxHeartbeats 4000000 in
set_option maxRecDepth 100000 in
theorem c_K_get (l : Launch) (D : va_G) (dA : Nat → ClassId) (A : Nat → Prop) (b0 : Nat) (a1 : Int32) (a2 : Int32) (S : mc_S) (out : (Int64 × mc_S)) (hf : f_K_get b0 a1 a2 S = some out) : Met l y_K_get (cd_K_get :: ALL) rm_K_get (va_Pc [va_rf (some b0), .int a1, .int a2] (mw_B D dA CL (TY dA) ZZ A S)) (va_Ql (fun x (_ : Unit) => x = out.1) (fun _ t => mw_R D dA CL A out.2 t) A) 0 0 A := by
  refine mw_ofW (cc := b_K_get) (maxL := 4) (ret := (some .long)) [(.inr (.inr (some b0))), (.inl a1), (.inl a2)] rfl (by decide +kernel) (Nat.le_of_ble_eq_true rfl) (L := [(0, (.inr (.inr (some b0)))), (1, (.inl a1)), (2, (.inl a2))]) rfl (fun p e s m args below meth c F hr hlk hnm hK ls hl hI => ?_)
  have h := hf
  unfold f_K_get at h
  refine mt_aload_n F hl 0 rfl rfl d_K_get_0 ?_
  obtain ⟨v1, e_v1, h⟩ := mw_bind h
  refine mw_getR F hK hI (in_0 _) (hc_0) 0 (by decide) (mA k_42) rfl e_v1 d_K_get_1 ?_
  refine mt_iload_n F hl 1 rfl rfl d_K_get_4 ?_
  refine lv_iconst (v := 1) F.1 F.2.1 d_K_get_5 (by decide) ?_
  obtain ⟨b2, e_b2, h⟩ := mw_bind h
  obtain ⟨o3, e_o3, h⟩ := mw_bind h
  refine mw_callq hI (mw_runV F hK hI (c_T_find l D dA A _ _ _ _ _ e_o3) (cwV 2 F.2.2.2.2 (gd_V k_85 k_86 k_87 k_88 k_38) rfl rfl rfl hd_T_find ⟨Nat.le_of_ble_eq_true rfl, Nat.le_of_ble_eq_true rfl⟩) (hc_2) e_b2 rfl hl.1 rfl (Nat.zero_le _) d_K_get_6 ⟨(Nat.le_of_ble_eq_true rfl), (Nat.le_of_ble_eq_true rfl)⟩) (fun H locs hI => ?_)
  refine mt_astore_n F hl rfl (Nat.le_of_ble_eq_true rfl) rfl d_K_get_9 (fun ls hl => ?_)
  have hl : mt_L ls 4 [(3, (.inr (.inr o3.1))), (0, (.inr (.inr (some b0)))), (1, (.inl a1)), (2, (.inl a2))] := hl
  refine mt_aload_n F hl 0 rfl rfl d_K_get_10 ?_
  refine mw_ifnonnull (tgt := 20) F d_K_get_11 (by decide) (fun hc => ?_) (fun hc => ?_)
  · rw [if_neg hc] at h
    refine mt_aload_n F hl 0 rfl rfl d_K_get_20 ?_
    refine mt_iload_n F hl 3 rfl rfl d_K_get_21 ?_
    obtain ⟨b4, e_b4, h⟩ := mw_bind h
    obtain ⟨o5, e_o5, h⟩ := mw_bind h
    refine mw_calll hI (mw_runV F hK hI (c_S_named l D dA A _ _ _ _ e_o5) (cwV 1 F.2.2.2.2 (gd_V k_154 k_155 k_156 k_157 k_33) rfl rfl rfl hd_S_named ⟨Nat.le_of_ble_eq_true rfl, Nat.le_of_ble_eq_true rfl⟩) (hc_1) e_b4 rfl hl.1 rfl (Nat.zero_le _) d_K_get_22 ⟨(Nat.le_of_ble_eq_true rfl), (Nat.le_of_ble_eq_true rfl)⟩) (fun H locs hI => ?_)
    exact mw_lret F hI hr hlk h (Nat.le_of_ble_eq_true rfl) (Nat.le_of_ble_eq_true rfl) d_K_get_25
  · rw [if_pos hc] at h
    refine lv_ldc2 (v := (-1099511627776)) F.1 F.2.1 F.2.2.2.1 (F.2.2.2.2 _ (mA k_70)) d_K_get_14 ?_
    refine lv_goto (tgt := 25) F.1 F.2.1 d_K_get_17 (by decide) ?_
    exact mw_lret F hI hr hlk h (Nat.le_of_ble_eq_true rfl) (Nat.le_of_ble_eq_true rfl) d_K_get_25
abbrev rm_M_get : Room := { frames := 2, cells := 0, slots := 0, locals := 47 }
set_option maxHeartbeats 4000000 in
set_option maxRecDepth 100000 in
theorem c_M_get (l : Launch) (D : va_G) (dA : Nat → ClassId) (A : Nat → Prop) (b0 : Nat) (a1 : Int32) (a2 : Int32) (S : mc_S) (out : (Int64 × mc_S)) (hf : f_M_get b0 a1 a2 S = some out) : Met l y_M_get (cd_M_get :: ALL) rm_M_get (va_Pc [va_rf (some b0), .int a1, .int a2] (mw_B D dA CL (TY dA) ZZ A S)) (va_Ql (fun x (_ : Unit) => x = out.1) (fun _ t => mw_R D dA CL A out.2 t) A) 0 0 A := by
  refine mw_ofW (cc := b_M_get) (maxL := 4) (ret := (some .long)) [(.inr (.inr (some b0))), (.inl a1), (.inl a2)] rfl (by decide +kernel) (Nat.le_of_ble_eq_true rfl) (L := [(0, (.inr (.inr (some b0)))), (1, (.inl a1)), (2, (.inl a2))]) rfl (fun p e s m args below meth c F hr hlk hnm hK ls hl hI => ?_)
  have h := hf
  unfold f_M_get at h
  refine mt_aload_n F hl 0 rfl rfl d_M_get_0 ?_
  refine mt_iload_n F hl 1 rfl rfl d_M_get_1 ?_
  refine lv_iconst (v := 1) F.1 F.2.1 d_M_get_2 (by decide) ?_
  obtain ⟨b1, e_b1, h⟩ := mw_bind h
  obtain ⟨o2, e_o2, h⟩ := mw_bind h
  refine mw_calli hI (mw_runV F hK hI (c_M_is l D dA A _ _ _ _ _ e_o2) (cwV 2 F.2.2.2.2 (gd_V k_137 k_138 k_139 k_140 k_130) rfl rfl rfl hd_M_is ⟨Nat.le_of_ble_eq_true rfl, Nat.le_of_ble_eq_true rfl⟩) (hc_4) e_b1 rfl hl.1 rfl (Nat.zero_le _) d_M_get_3 ⟨(Nat.le_of_ble_eq_true rfl), (Nat.le_of_ble_eq_true rfl)⟩) (fun H locs hI => ?_)
  refine lv_if_ne (tgt := 13) F.1 F.2.1 d_M_get_6 (by decide) (fun hc => ?_) (fun hc => ?_)
  · rw [if_neg hc] at h
    refine mt_aload_n F hl 0 rfl rfl d_M_get_13 ?_
    obtain ⟨v3, e_v3, h⟩ := mw_bind h
    refine mw_getR F hK hI (in_4 _) (hc_4) 0 (by decide) (mA k_56) rfl e_v3 d_M_get_14 ?_
    refine mt_iload_n F hl 1 rfl rfl d_M_get_17 ?_
    refine mt_iload_n F hl 2 rfl rfl d_M_get_18 ?_
    obtain ⟨b4, e_b4, h⟩ := mw_bind h
    obtain ⟨o5, e_o5, h⟩ := mw_bind h
    refine mw_calli hI (mw_runV F hK hI (c_N_findField l D dA A _ _ _ _ _ e_o5) (cwV 2 F.2.2.2.2 (gd_V k_145 k_146 k_147 k_148 k_53) rfl rfl rfl hd_N_findField ⟨Nat.le_of_ble_eq_true rfl, Nat.le_of_ble_eq_true rfl⟩) (hc_5) e_b4 rfl hl.1 rfl (Nat.zero_le _) d_M_get_19 ⟨(Nat.le_of_ble_eq_true rfl), (Nat.le_of_ble_eq_true rfl)⟩) (fun H locs hI => ?_)
    refine mt_istore_n F hl rfl (Nat.le_of_ble_eq_true rfl) rfl d_M_get_22 (fun ls hl => ?_)
    have hl : mt_L ls 4 [(3, (.inl o5.1)), (0, (.inr (.inr (some b0)))), (1, (.inl a1)), (2, (.inl a2))] := hl
    refine mt_iload_n F hl 0 rfl rfl d_M_get_23 ?_
    refine lv_if_ge (tgt := 33) F.1 F.2.1 d_M_get_24 (by decide) (fun hc => ?_) (fun hc => ?_)
    · rw [if_pos hc] at h
      refine mt_aload_n F hl 1 rfl rfl d_M_get_33 ?_
      obtain ⟨v6, e_v6, h⟩ := mw_bind h
      refine mw_getR F hK hI (in_4 _) (hc_4) 0 (by decide) (mA k_56) rfl e_v6 d_M_get_34 ?_
      obtain ⟨v7, e_v7, h⟩ := mw_bind h
      refine mw_getR F hK hI (in_5 _) (hc_5) 4 (by decide) (mA k_149) rfl e_v7 d_M_get_37 ?_
      refine lv_bipush (v := 20) F.1 F.2.1 d_M_get_40 (by decide) ?_
      refine mt_iload_n F hl 2 rfl rfl d_M_get_42 ?_
      refine lv_imul F.1 F.2.1 d_M_get_43 ?_
      refine mt_iload_n F hl 0 rfl rfl d_M_get_44 ?_
      refine lv_iadd F.1 F.2.1 d_M_get_45 ?_
      obtain ⟨v8, e_v8, h⟩ := mw_bind h
      refine mw_lald F hK hI (t0 := 1) rfl e_v8 d_M_get_46 ?_
      exact mw_lret F hI hr hlk h (Nat.le_of_ble_eq_true rfl) (Nat.le_of_ble_eq_true rfl) d_M_get_47
    · rw [if_neg hc] at h
      refine lv_ldc2 (v := 1099511627776) F.1 F.2.1 F.2.2.2.1 (F.2.2.2.2 _ (mA k_136)) d_M_get_27 ?_
      refine lv_goto (tgt := 47) F.1 F.2.1 d_M_get_30 (by decide) ?_
      exact mw_lret F hI hr hlk h (Nat.le_of_ble_eq_true rfl) (Nat.le_of_ble_eq_true rfl) d_M_get_47
  · rw [if_pos hc] at h
    refine lv_ldc2 (v := (-1099511627776)) F.1 F.2.1 F.2.2.2.1 (F.2.2.2.2 _ (mA k_158)) d_M_get_9 ?_
    exact mw_lret F hI hr hlk h (Nat.le_of_ble_eq_true rfl) (Nat.le_of_ble_eq_true rfl) d_M_get_12
abbrev rm_K_push : Room := { frames := 4, cells := 3, slots := 44, locals := 78 }
set_option maxHeartbeats 4000000 in
set_option maxRecDepth 100000 in
theorem c_K_push (l : Launch) (D : va_G) (dA : Nat → ClassId) (A : Nat → Prop) (b0 : Nat) (a1 : Int32) (a2 : Int32) (a3 : Int32) (S : mc_S) (out : (Int32 × mc_S)) (hf : f_K_push b0 a1 a2 a3 S = some out) : Met l y_K_push (cd_K_push :: ALL) rm_K_push (va_Pc [va_rf (some b0), .int a1, .int a2, .int a3] (mw_B D dA CL (TY dA) ZZ A S)) (va_Qi (fun x (_ : Unit) => x = out.1) (fun _ t => mw_R D dA CL A out.2 t) A) 3 44 A := by
  refine mw_ofW (cc := b_K_push) (maxL := 7) (ret := (some .int)) [(.inr (.inr (some b0))), (.inl a1), (.inl a2), (.inl a3)] rfl (by decide +kernel) (Nat.le_of_ble_eq_true rfl) (L := [(0, (.inr (.inr (some b0)))), (1, (.inl a1)), (2, (.inl a2)), (3, (.inl a3))]) rfl (fun p e s m args below meth c F hr hlk hnm hK ls hl hI => ?_)
  have h := hf
  unfold f_K_push at h
  refine mt_aload_n F hl 0 rfl rfl d_K_push_0 ?_
  refine mt_iload_n F hl 2 rfl rfl d_K_push_1 ?_
  refine mt_iload_n F hl 3 rfl rfl d_K_push_2 ?_
  obtain ⟨b1, e_b1, h⟩ := mw_bind h
  obtain ⟨o2, e_o2, h⟩ := mw_bind h
  refine mw_calll hI (mw_runV F hK hI (c_K_valueOf l D dA A _ _ _ _ _ e_o2) (cwV 2 F.2.2.2.2 (gd_V k_114 k_115 k_116 k_117 k_78) rfl rfl rfl hd_K_valueOf ⟨Nat.le_of_ble_eq_true rfl, Nat.le_of_ble_eq_true rfl⟩) (hc_0) e_b1 rfl hl.1 rfl (Nat.zero_le _) d_K_push_3 ⟨(Nat.le_of_ble_eq_true rfl), (Nat.le_of_ble_eq_true rfl)⟩) (fun H locs hI => ?_)
  refine mt_lstore F hl (Nat.le_of_ble_eq_true rfl) rfl d_K_push_6 (fun ls hl => ?_)
  have hl : mt_L ls 7 [(4, (.inr (.inl o2.1))), (0, (.inr (.inr (some b0)))), (1, (.inl a1)), (2, (.inl a2)), (3, (.inl a3))] := hl
  refine mt_aload_n F hl 1 rfl rfl d_K_push_8 ?_
  refine mt_iload_n F hl 2 rfl rfl d_K_push_9 ?_
  refine lv_iconst (v := 2) F.1 F.2.1 d_K_push_10 (by decide) ?_
  obtain ⟨b3, e_b3, h⟩ := mw_bind h
  obtain ⟨o4, e_o4, h⟩ := mw_bind h
  refine mw_callq hI (mw_runV F hK hI (c_K_own l D dA A _ _ _ _ _ e_o4) (cwV 2 F.2.2.2.2 (gd_V k_118 k_119 k_120 k_121 k_78) rfl rfl rfl hd_K_own ⟨Nat.le_of_ble_eq_true rfl, Nat.le_of_ble_eq_true rfl⟩) (hc_0) e_b3 rfl hl.1 rfl (Nat.zero_le _) d_K_push_11 ⟨(Nat.le_of_ble_eq_true rfl), (Nat.le_of_ble_eq_true rfl)⟩) (fun H locs hI => ?_)
  refine mt_astore F hl (Nat.le_of_ble_eq_true rfl) rfl d_K_push_14 (fun ls hl => ?_)
  have hl : mt_L ls 7 [(6, (.inr (.inr o4.1))), (4, (.inr (.inl o2.1))), (0, (.inr (.inr (some b0)))), (1, (.inl a1)), (2, (.inl a2)), (3, (.inl a3))] := hl
  refine mt_lload F hl 1 rfl d_K_push_16 ?_
  refine lv_ldc2 (v := (-1099511627776)) F.1 F.2.1 F.2.2.2.1 (F.2.2.2.2 _ (mA k_70)) d_K_push_18 ?_
  refine W.lcmp F.1 F.2.1 d_K_push_21 ?_
  refine lv_if_eq (tgt := 30) F.1 F.2.1 d_K_push_22 (by decide) (fun hc => ?_) (fun hc => ?_)
  · rw [if_pos hc] at h
    refine lv_iconst (v := (-1)) F.1 F.2.1 d_K_push_30 (by decide) ?_
    refine lv_goto (tgt := 42) F.1 F.2.1 d_K_push_31 (by decide) ?_
    exact mw_iret F hI hr hlk h (Nat.le_of_ble_eq_true rfl) (Nat.le_of_ble_eq_true rfl) d_K_push_42
  · rw [if_neg hc] at h
    refine mt_aload F hl 0 rfl d_K_push_25 ?_
    refine mw_ifnonnull (tgt := 34) F d_K_push_27 (by decide) (fun hc => ?_) (fun hc => ?_)
    · rw [if_neg hc] at h
      refine mt_aload F hl 0 rfl d_K_push_34 ?_
      refine lv_iconst (v := 0) F.1 F.2.1 d_K_push_36 (by decide) ?_
      refine mt_lload F hl 1 rfl d_K_push_37 ?_
      obtain ⟨b5, e_b5, h⟩ := mw_bind h
      obtain ⟨o6, e_o6, h⟩ := mw_bind h
      refine mw_calli hI (mw_runV F hK hI (c_S_append l D dA A _ _ _ _ _ e_o6) (cwV 2 F.2.2.2.2 (gd_V k_106 k_159 k_108 k_109 k_33) rfl rfl rfl hd_S_append ⟨Nat.le_of_ble_eq_true rfl, Nat.le_of_ble_eq_true rfl⟩) (hc_1) e_b5 rfl hl.1 rfl (Nat.zero_le _) d_K_push_39 ⟨(Nat.le_of_ble_eq_true rfl), (Nat.le_of_ble_eq_true rfl)⟩) (fun H locs hI => ?_)
      exact mw_iret F hI hr hlk h (Nat.le_of_ble_eq_true rfl) (Nat.le_of_ble_eq_true rfl) d_K_push_42
    · rw [if_pos hc] at h
      refine lv_iconst (v := (-1)) F.1 F.2.1 d_K_push_30 (by decide) ?_
      refine lv_goto (tgt := 42) F.1 F.2.1 d_K_push_31 (by decide) ?_
      exact mw_iret F hI hr hlk h (Nat.le_of_ble_eq_true rfl) (Nat.le_of_ble_eq_true rfl) d_K_push_42
abbrev rm_M_push : Room := { frames := 3, cells := 0, slots := 0, locals := 68 }
set_option maxHeartbeats 4000000 in
set_option maxRecDepth 100000 in
theorem c_M_push (l : Launch) (D : va_G) (dA : Nat → ClassId) (A : Nat → Prop) (b0 : Nat) (a1 : Int32) (a2 : Int32) (a3 : Int32) (S : mc_S) (out : (Int32 × mc_S)) (hf : f_M_push b0 a1 a2 a3 S = some out) : Met l y_M_push (cd_M_push :: ALL) rm_M_push (va_Pc [va_rf (some b0), .int a1, .int a2, .int a3] (mw_B D dA CL (TY dA) ZZ A S)) (va_Qi (fun x (_ : Unit) => x = out.1) (fun _ t => mw_R D dA CL A out.2 t) A) 0 0 A := by
  refine mw_ofW (cc := b_M_push) (maxL := 4) (ret := (some .int)) [(.inr (.inr (some b0))), (.inl a1), (.inl a2), (.inl a3)] rfl (by decide +kernel) (Nat.le_of_ble_eq_true rfl) (L := [(0, (.inr (.inr (some b0)))), (1, (.inl a1)), (2, (.inl a2)), (3, (.inl a3))]) rfl (fun p e s m args below meth c F hr hlk hnm hK ls hl hI => ?_)
  have h := hf
  unfold f_M_push at h
  refine mt_aload_n F hl 0 rfl rfl d_M_push_0 ?_
  refine mt_iload_n F hl 1 rfl rfl d_M_push_1 ?_
  refine lv_iconst (v := 2) F.1 F.2.1 d_M_push_2 (by decide) ?_
  obtain ⟨b1, e_b1, h⟩ := mw_bind h
  obtain ⟨o2, e_o2, h⟩ := mw_bind h
  refine mw_calli hI (mw_runV F hK hI (c_M_is l D dA A _ _ _ _ _ e_o2) (cwV 2 F.2.2.2.2 (gd_V k_137 k_138 k_139 k_140 k_130) rfl rfl rfl hd_M_is ⟨Nat.le_of_ble_eq_true rfl, Nat.le_of_ble_eq_true rfl⟩) (hc_4) e_b1 rfl hl.1 rfl (Nat.zero_le _) d_M_push_3 ⟨(Nat.le_of_ble_eq_true rfl), (Nat.le_of_ble_eq_true rfl)⟩) (fun H locs hI => ?_)
  refine lv_if_eq (tgt := 18) F.1 F.2.1 d_M_push_6 (by decide) (fun hc => ?_) (fun hc => ?_)
  · rw [if_pos hc] at h
    refine lv_iconst (v := (-1)) F.1 F.2.1 d_M_push_18 (by decide) ?_
    exact mw_iret F hI hr hlk h (Nat.le_of_ble_eq_true rfl) (Nat.le_of_ble_eq_true rfl) d_M_push_19
  · rw [if_neg hc] at h
    refine mt_aload_n F hl 0 rfl rfl d_M_push_9 ?_
    refine mt_iload_n F hl 2 rfl rfl d_M_push_10 ?_
    refine mt_iload_n F hl 3 rfl rfl d_M_push_11 ?_
    obtain ⟨b3, e_b3, h⟩ := mw_bind h
    obtain ⟨o4, e_o4, h⟩ := mw_bind h
    refine mw_calli hI (mw_runV F hK hI (c_M_isValue l D dA A _ _ _ _ _ e_o4) (cwV 2 F.2.2.2.2 (gd_V k_141 k_142 k_143 k_144 k_130) rfl rfl rfl hd_M_isValue ⟨Nat.le_of_ble_eq_true rfl, Nat.le_of_ble_eq_true rfl⟩) (hc_4) e_b3 rfl hl.1 rfl (Nat.zero_le _) d_M_push_12 ⟨(Nat.le_of_ble_eq_true rfl), (Nat.le_of_ble_eq_true rfl)⟩) (fun H locs hI => ?_)
    refine lv_if_ne (tgt := 20) F.1 F.2.1 d_M_push_15 (by decide) (fun hc => ?_) (fun hc => ?_)
    · rw [if_neg hc] at h
      refine mt_aload_n F hl 0 rfl rfl d_M_push_20 ?_
      obtain ⟨v5, e_v5, h⟩ := mw_bind h
      refine mw_getR F hK hI (in_4 _) (hc_4) 0 (by decide) (mA k_56) rfl e_v5 d_M_push_21 ?_
      obtain ⟨v6, e_v6, h⟩ := mw_bind h
      refine mw_getR F hK hI (in_5 _) (hc_5) 1 (by decide) (mA k_64) rfl e_v6 d_M_push_24 ?_
      refine mt_iload_n F hl 1 rfl rfl d_M_push_27 ?_
      obtain ⟨v7, e_v7, h⟩ := mw_bind h
      refine mw_iald F hK hI (t0 := 0) rfl e_v7 d_M_push_28 ?_
      refine lv_bipush (v := 20) F.1 F.2.1 d_M_push_29 (by decide) ?_
      refine lv_icmp_ne (tgt := 37) F.1 F.2.1 d_M_push_31 (by decide) (fun hc => ?_) (fun hc => ?_)
      · rw [if_neg hc] at h
        refine mt_aload_n F hl 0 rfl rfl d_M_push_37 ?_
        obtain ⟨v8, e_v8, h⟩ := mw_bind h
        refine mw_getR F hK hI (in_4 _) (hc_4) 0 (by decide) (mA k_56) rfl e_v8 d_M_push_38 ?_
        obtain ⟨v9, e_v9, h⟩ := mw_bind h
        refine mw_getR F hK hI (in_5 _) (hc_5) 4 (by decide) (mA k_149) rfl e_v9 d_M_push_41 ?_
        refine lv_bipush (v := 20) F.1 F.2.1 d_M_push_44 (by decide) ?_
        refine mt_iload_n F hl 1 rfl rfl d_M_push_46 ?_
        refine lv_imul F.1 F.2.1 d_M_push_47 ?_
        refine mt_aload_n F hl 0 rfl rfl d_M_push_48 ?_
        obtain ⟨v10, e_v10, h⟩ := mw_bind h
        refine mw_getR F hK hI (in_4 _) (hc_4) 0 (by decide) (mA k_56) rfl e_v10 d_M_push_49 ?_
        obtain ⟨v11, e_v11, h⟩ := mw_bind h
        refine mw_getR F hK hI (in_5 _) (hc_5) 1 (by decide) (mA k_64) rfl e_v11 d_M_push_52 ?_
        refine mt_iload_n F hl 1 rfl rfl d_M_push_55 ?_
        obtain ⟨v12, e_v12, h⟩ := mw_bind h
        refine mw_iald F hK hI (t0 := 0) rfl e_v12 d_M_push_56 ?_
        refine lv_iadd F.1 F.2.1 d_M_push_57 ?_
        refine mt_iload_n F hl 2 rfl rfl d_M_push_58 ?_
        refine mt_iload_n F hl 3 rfl rfl d_M_push_59 ?_
        obtain ⟨o13, e_o13, h⟩ := mw_bind h
        refine mw_calll hI (mw_runS F hK hI (c_M_value l D dA A _ _ _ _ e_o13) (cwS 2 F.2.2.2.2 (gd_S k_150 k_151 k_152 k_130) rfl rfl rfl hd_M_value ⟨Nat.le_of_ble_eq_true rfl, Nat.le_of_ble_eq_true rfl⟩) rfl hl.1 rfl (by simp [mw_cat, mw_cI, mw_cL]) d_M_push_60 ⟨(Nat.le_of_ble_eq_true rfl), (Nat.le_of_ble_eq_true rfl)⟩) (fun H locs hI => ?_)
        obtain ⟨S14, e_S14, h⟩ := mw_bind h
        refine mw_last F hK hI (t0 := 1) rfl e_S14 d_M_push_63 (fun H locs hI => ?_)
        refine mt_aload_n F hl 0 rfl rfl d_M_push_64 ?_
        obtain ⟨v15, e_v15, h⟩ := mw_bind h
        refine mw_getR F hK hI (in_4 _) (hc_4) 0 (by decide) (mA k_56) rfl e_v15 d_M_push_65 ?_
        obtain ⟨v16, e_v16, h⟩ := mw_bind h
        refine mw_getR F hK hI (in_5 _) (hc_5) 1 (by decide) (mA k_64) rfl e_v16 d_M_push_68 ?_
        refine mt_iload_n F hl 1 rfl rfl d_M_push_71 ?_
        refine lv_dup2_11 F.1 F.2.1 d_M_push_72 rfl (mw_cat _) ?_
        obtain ⟨v17, e_v17, h⟩ := mw_bind h
        refine mw_iald F hK hI (t0 := 0) rfl e_v17 d_M_push_73 ?_
        refine lv_iconst (v := 1) F.1 F.2.1 d_M_push_74 (by decide) ?_
        refine lv_iadd F.1 F.2.1 d_M_push_75 ?_
        obtain ⟨S18, e_S18, h⟩ := mw_bind h
        refine mw_iast F hK hI (t0 := 0) rfl e_S18 d_M_push_76 (fun H locs hI => ?_)
        refine mt_aload_n F hl 0 rfl rfl d_M_push_77 ?_
        obtain ⟨v19, e_v19, h⟩ := mw_bind h
        refine mw_getR F hK hI (in_4 _) (hc_4) 0 (by decide) (mA k_56) rfl e_v19 d_M_push_78 ?_
        obtain ⟨v20, e_v20, h⟩ := mw_bind h
        refine mw_getR F hK hI (in_5 _) (hc_5) 1 (by decide) (mA k_64) rfl e_v20 d_M_push_81 ?_
        refine mt_iload_n F hl 1 rfl rfl d_M_push_84 ?_
        obtain ⟨v21, e_v21, h⟩ := mw_bind h
        refine mw_iald F hK hI (t0 := 0) rfl e_v21 d_M_push_85 ?_
        exact mw_iret F hI hr hlk h (Nat.le_of_ble_eq_true rfl) (Nat.le_of_ble_eq_true rfl) d_M_push_86
      · rw [if_pos hc] at h
        refine lv_bipush (v := (-3)) F.1 F.2.1 d_M_push_34 (by decide) ?_
        exact mw_iret F hI hr hlk h (Nat.le_of_ble_eq_true rfl) (Nat.le_of_ble_eq_true rfl) d_M_push_36
    · rw [if_pos hc] at h
      refine lv_iconst (v := (-1)) F.1 F.2.1 d_M_push_18 (by decide) ?_
      exact mw_iret F hI hr hlk h (Nat.le_of_ble_eq_true rfl) (Nat.le_of_ble_eq_true rfl) d_M_push_19
abbrev rm_S_takeLast : Room := { frames := 0, cells := 0, slots := 0, locals := 0 }
set_option maxHeartbeats 4000000 in
set_option maxRecDepth 100000 in
theorem c_S_takeLast (l : Launch) (D : va_G) (dA : Nat → ClassId) (A : Nat → Prop) (b0 : Nat) (S : mc_S) (out : (Int64 × mc_S)) (hf : f_S_takeLast b0 S = some out) : Met l y_S_takeLast (cd_S_takeLast :: ALL) rm_S_takeLast (va_Pc [va_rf (some b0)] (mw_B D dA CL (TY dA) ZZ A S)) (va_Ql (fun x (_ : Unit) => x = out.1) (fun _ t => mw_R D dA CL A out.2 t) A) 0 0 A := by
  refine mw_ofW (cc := b_S_takeLast) (maxL := 1) (ret := (some .long)) [(.inr (.inr (some b0)))] rfl (by decide +kernel) (Nat.le_of_ble_eq_true rfl) (L := [(0, (.inr (.inr (some b0))))]) rfl (fun p e s m args below meth c F hr hlk hnm hK ls hl hI => ?_)
  have h := hf
  unfold f_S_takeLast at h
  refine mt_aload_n F hl 0 rfl rfl d_S_takeLast_0 ?_
  obtain ⟨v1, e_v1, h⟩ := mw_bind h
  refine mw_getI F hK hI (in_1 _) (hc_1) 3 (by decide) (mA k_9) rfl e_v1 d_S_takeLast_1 ?_
  refine lv_if_ne (tgt := 11) F.1 F.2.1 d_S_takeLast_4 (by decide) (fun hc => ?_) (fun hc => ?_)
  · rw [if_neg hc] at h
    refine mt_aload_n F hl 0 rfl rfl d_S_takeLast_11 ?_
    refine lv_dup F.1 F.2.1 d_S_takeLast_12 (mw_cat _) ?_
    obtain ⟨v2, e_v2, h⟩ := mw_bind h
    refine mw_getI F hK hI (in_1 _) (hc_1) 3 (by decide) (mA k_9) rfl e_v2 d_S_takeLast_13 ?_
    refine lv_iconst (v := 1) F.1 F.2.1 d_S_takeLast_16 (by decide) ?_
    refine lv_isub F.1 F.2.1 d_S_takeLast_17 ?_
    obtain ⟨S3, e_S3, h⟩ := mw_bind h
    refine mw_put F hK hI (in_1 _) ty_1 ok_1 nm_1 (hc_1) 3 (by decide) (mA k_9) rfl rfl rfl rfl e_S3 d_S_takeLast_18 (fun H locs hI => ?_)
    refine mt_aload_n F hl 0 rfl rfl d_S_takeLast_21 ?_
    obtain ⟨v4, e_v4, h⟩ := mw_bind h
    refine mw_getR F hK hI (in_1 _) (hc_1) 2 (by decide) (mA k_13) rfl e_v4 d_S_takeLast_22 ?_
    refine mt_aload_n F hl 0 rfl rfl d_S_takeLast_25 ?_
    obtain ⟨v5, e_v5, h⟩ := mw_bind h
    refine mw_getI F hK hI (in_1 _) (hc_1) 3 (by decide) (mA k_9) rfl e_v5 d_S_takeLast_26 ?_
    obtain ⟨v6, e_v6, h⟩ := mw_bind h
    refine mw_lald F hK hI (t0 := 1) rfl e_v6 d_S_takeLast_29 ?_
    exact mw_lret F hI hr hlk h (Nat.le_of_ble_eq_true rfl) (Nat.le_of_ble_eq_true rfl) d_S_takeLast_30
  · rw [if_pos hc] at h
    refine lv_ldc2 (v := (-1099511627776)) F.1 F.2.1 F.2.2.2.1 (F.2.2.2.2 _ (mA k_160)) d_S_takeLast_7 ?_
    exact mw_lret F hI hr hlk h (Nat.le_of_ble_eq_true rfl) (Nat.le_of_ble_eq_true rfl) d_S_takeLast_10
