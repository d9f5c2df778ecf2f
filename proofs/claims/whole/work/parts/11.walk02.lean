abbrev rm_K_pop : Room := { frames := 4, cells := 3, slots := 44, locals := 78 }
set_option maxHeartbeats 4000000 in
set_option maxRecDepth 100000 in
theorem c_K_pop (l : Launch) (D : va_G) (dA : Nat → ClassId) (A : Nat → Prop) (b0 : Nat) (a1 : Int32) (S : mc_S) (out : (Int64 × mc_S)) (hf : f_K_pop b0 a1 S = some out) : Met l y_K_pop (cd_K_pop :: ALL) rm_K_pop (va_Pc [va_rf (some b0), .int a1] (mw_B D dA CL (TY dA) ZZ A S)) (va_Ql (fun x (_ : Unit) => x = out.1) (fun _ t => mw_R D dA CL A out.2 t) A) 3 44 A := by
  refine mw_ofW (cc := b_K_pop) (maxL := 3) (ret := (some .long)) [(.inr (.inr (some b0))), (.inl a1)] rfl (by decide +kernel) (Nat.le_of_ble_eq_true rfl) (L := [(0, (.inr (.inr (some b0)))), (1, (.inl a1))]) rfl (fun p e s m args below meth c F hr hlk hnm hK ls hl hI => ?_)
  have h := hf
  unfold f_K_pop at h
  refine mt_aload_n F hl 0 rfl rfl d_K_pop_0 ?_
  refine mt_iload_n F hl 1 rfl rfl d_K_pop_1 ?_
  refine lv_iconst (v := 2) F.1 F.2.1 d_K_pop_2 (by decide) ?_
  obtain ⟨b1, e_b1, h⟩ := mw_bind h
  obtain ⟨o2, e_o2, h⟩ := mw_bind h
  refine mw_callq hI (mw_runV F hK hI (c_K_own l D dA A _ _ _ _ _ e_o2) (cwV 2 F.2.2.2.2 (gd_V k_118 k_119 k_120 k_121 k_78) rfl rfl rfl hd_K_own ⟨Nat.le_of_ble_eq_true rfl, Nat.le_of_ble_eq_true rfl⟩) (hc_0) e_b1 rfl hl.1 rfl (Nat.zero_le _) d_K_pop_3 ⟨(Nat.le_of_ble_eq_true rfl), (Nat.le_of_ble_eq_true rfl)⟩) (fun H locs hI => ?_)
  refine mt_astore_n F hl rfl (Nat.le_of_ble_eq_true rfl) rfl d_K_pop_6 (fun ls hl => ?_)
  have hl : mt_L ls 3 [(2, (.inr (.inr o2.1))), (0, (.inr (.inr (some b0)))), (1, (.inl a1))] := hl
  refine mt_aload_n F hl 0 rfl rfl d_K_pop_7 ?_
  refine mw_ifnonnull (tgt := 17) F d_K_pop_8 (by decide) (fun hc => ?_) (fun hc => ?_)
  · rw [if_neg hc] at h
    refine mt_aload_n F hl 0 rfl rfl d_K_pop_17 ?_
    obtain ⟨b3, e_b3, h⟩ := mw_bind h
    obtain ⟨o4, e_o4, h⟩ := mw_bind h
    refine mw_calll hI (mw_runV F hK hI (c_S_takeLast l D dA A _ _ _ e_o4) (cwV 0 F.2.2.2.2 (gd_V k_161 k_162 k_163 k_164 k_33) rfl rfl rfl hd_S_takeLast ⟨Nat.le_of_ble_eq_true rfl, Nat.le_of_ble_eq_true rfl⟩) (hc_1) e_b3 rfl hl.1 rfl (Nat.zero_le _) d_K_pop_18 ⟨(Nat.le_of_ble_eq_true rfl), (Nat.le_of_ble_eq_true rfl)⟩) (fun H locs hI => ?_)
    exact mw_lret F hI hr hlk h (Nat.le_of_ble_eq_true rfl) (Nat.le_of_ble_eq_true rfl) d_K_pop_21
  · rw [if_pos hc] at h
    refine lv_ldc2 (v := (-1099511627776)) F.1 F.2.1 F.2.2.2.1 (F.2.2.2.2 _ (mA k_70)) d_K_pop_11 ?_
    refine lv_goto (tgt := 21) F.1 F.2.1 d_K_pop_14 (by decide) ?_
    exact mw_lret F hI hr hlk h (Nat.le_of_ble_eq_true rfl) (Nat.le_of_ble_eq_true rfl) d_K_pop_21
abbrev rm_M_pop : Room := { frames := 2, cells := 0, slots := 0, locals := 47 }
set_option maxHeartbeats 4000000 in
set_option maxRecDepth 100000 in
theorem c_M_pop (l : Launch) (D : va_G) (dA : Nat → ClassId) (A : Nat → Prop) (b0 : Nat) (a1 : Int32) (S : mc_S) (out : (Int64 × mc_S)) (hf : f_M_pop b0 a1 S = some out) : Met l y_M_pop (cd_M_pop :: ALL) rm_M_pop (va_Pc [va_rf (some b0), .int a1] (mw_B D dA CL (TY dA) ZZ A S)) (va_Ql (fun x (_ : Unit) => x = out.1) (fun _ t => mw_R D dA CL A out.2 t) A) 0 0 A := by
  refine mw_ofW (cc := b_M_pop) (maxL := 2) (ret := (some .long)) [(.inr (.inr (some b0))), (.inl a1)] rfl (by decide +kernel) (Nat.le_of_ble_eq_true rfl) (L := [(0, (.inr (.inr (some b0)))), (1, (.inl a1))]) rfl (fun p e s m args below meth c F hr hlk hnm hK ls hl hI => ?_)
  have h := hf
  unfold f_M_pop at h
  refine mt_aload_n F hl 0 rfl rfl d_M_pop_0 ?_
  refine mt_iload_n F hl 1 rfl rfl d_M_pop_1 ?_
  refine lv_iconst (v := 2) F.1 F.2.1 d_M_pop_2 (by decide) ?_
  obtain ⟨b1, e_b1, h⟩ := mw_bind h
  obtain ⟨o2, e_o2, h⟩ := mw_bind h
  refine mw_calli hI (mw_runV F hK hI (c_M_is l D dA A _ _ _ _ _ e_o2) (cwV 2 F.2.2.2.2 (gd_V k_137 k_138 k_139 k_140 k_130) rfl rfl rfl hd_M_is ⟨Nat.le_of_ble_eq_true rfl, Nat.le_of_ble_eq_true rfl⟩) (hc_4) e_b1 rfl hl.1 rfl (Nat.zero_le _) d_M_pop_3 ⟨(Nat.le_of_ble_eq_true rfl), (Nat.le_of_ble_eq_true rfl)⟩) (fun H locs hI => ?_)
  refine lv_if_eq (tgt := 21) F.1 F.2.1 d_M_pop_6 (by decide) (fun hc => ?_) (fun hc => ?_)
  · rw [if_pos hc] at h
    refine lv_ldc2 (v := (-1099511627776)) F.1 F.2.1 F.2.2.2.1 (F.2.2.2.2 _ (mA k_158)) d_M_pop_21 ?_
    exact mw_lret F hI hr hlk h (Nat.le_of_ble_eq_true rfl) (Nat.le_of_ble_eq_true rfl) d_M_pop_24
  · rw [if_neg hc] at h
    refine mt_aload_n F hl 0 rfl rfl d_M_pop_9 ?_
    obtain ⟨v3, e_v3, h⟩ := mw_bind h
    refine mw_getR F hK hI (in_4 _) (hc_4) 0 (by decide) (mA k_56) rfl e_v3 d_M_pop_10 ?_
    obtain ⟨v4, e_v4, h⟩ := mw_bind h
    refine mw_getR F hK hI (in_5 _) (hc_5) 1 (by decide) (mA k_64) rfl e_v4 d_M_pop_13 ?_
    refine mt_iload_n F hl 1 rfl rfl d_M_pop_16 ?_
    obtain ⟨v5, e_v5, h⟩ := mw_bind h
    refine mw_iald F hK hI (t0 := 0) rfl e_v5 d_M_pop_17 ?_
    refine lv_if_ne (tgt := 25) F.1 F.2.1 d_M_pop_18 (by decide) (fun hc => ?_) (fun hc => ?_)
    · rw [if_neg hc] at h
      refine mt_aload_n F hl 0 rfl rfl d_M_pop_25 ?_
      obtain ⟨v6, e_v6, h⟩ := mw_bind h
      refine mw_getR F hK hI (in_4 _) (hc_4) 0 (by decide) (mA k_56) rfl e_v6 d_M_pop_26 ?_
      obtain ⟨v7, e_v7, h⟩ := mw_bind h
      refine mw_getR F hK hI (in_5 _) (hc_5) 1 (by decide) (mA k_64) rfl e_v7 d_M_pop_29 ?_
      refine mt_iload_n F hl 1 rfl rfl d_M_pop_32 ?_
      refine lv_dup2_11 F.1 F.2.1 d_M_pop_33 rfl (mw_cat _) ?_
      obtain ⟨v8, e_v8, h⟩ := mw_bind h
      refine mw_iald F hK hI (t0 := 0) rfl e_v8 d_M_pop_34 ?_
      refine lv_iconst (v := 1) F.1 F.2.1 d_M_pop_35 (by decide) ?_
      refine lv_isub F.1 F.2.1 d_M_pop_36 ?_
      obtain ⟨S9, e_S9, h⟩ := mw_bind h
      refine mw_iast F hK hI (t0 := 0) rfl e_S9 d_M_pop_37 (fun H locs hI => ?_)
      refine mt_aload_n F hl 0 rfl rfl d_M_pop_38 ?_
      obtain ⟨v10, e_v10, h⟩ := mw_bind h
      refine mw_getR F hK hI (in_4 _) (hc_4) 0 (by decide) (mA k_56) rfl e_v10 d_M_pop_39 ?_
      obtain ⟨v11, e_v11, h⟩ := mw_bind h
      refine mw_getR F hK hI (in_5 _) (hc_5) 4 (by decide) (mA k_149) rfl e_v11 d_M_pop_42 ?_
      refine lv_bipush (v := 20) F.1 F.2.1 d_M_pop_45 (by decide) ?_
      refine mt_iload_n F hl 1 rfl rfl d_M_pop_47 ?_
      refine lv_imul F.1 F.2.1 d_M_pop_48 ?_
      refine mt_aload_n F hl 0 rfl rfl d_M_pop_49 ?_
      obtain ⟨v12, e_v12, h⟩ := mw_bind h
      refine mw_getR F hK hI (in_4 _) (hc_4) 0 (by decide) (mA k_56) rfl e_v12 d_M_pop_50 ?_
      obtain ⟨v13, e_v13, h⟩ := mw_bind h
      refine mw_getR F hK hI (in_5 _) (hc_5) 1 (by decide) (mA k_64) rfl e_v13 d_M_pop_53 ?_
      refine mt_iload_n F hl 1 rfl rfl d_M_pop_56 ?_
      obtain ⟨v14, e_v14, h⟩ := mw_bind h
      refine mw_iald F hK hI (t0 := 0) rfl e_v14 d_M_pop_57 ?_
      refine lv_iadd F.1 F.2.1 d_M_pop_58 ?_
      obtain ⟨v15, e_v15, h⟩ := mw_bind h
      refine mw_lald F hK hI (t0 := 1) rfl e_v15 d_M_pop_59 ?_
      exact mw_lret F hI hr hlk h (Nat.le_of_ble_eq_true rfl) (Nat.le_of_ble_eq_true rfl) d_M_pop_60
    · rw [if_pos hc] at h
      refine lv_ldc2 (v := (-1099511627776)) F.1 F.2.1 F.2.2.2.1 (F.2.2.2.2 _ (mA k_158)) d_M_pop_21 ?_
      exact mw_lret F hI hr hlk h (Nat.le_of_ble_eq_true rfl) (Nat.le_of_ble_eq_true rfl) d_M_pop_24
abbrev rm_K_put : Room := { frames := 4, cells := 3, slots := 44, locals := 78 }
set_option maxHeartbeats 4000000 in
set_option maxRecDepth 100000 in
theorem c_K_put (l : Launch) (D : va_G) (dA : Nat → ClassId) (A : Nat → Prop) (b0 : Nat) (a1 : Int32) (a2 : Int32) (a3 : Int32) (a4 : Int32) (S : mc_S) (out : (Int32 × mc_S)) (hf : f_K_put b0 a1 a2 a3 a4 S = some out) : Met l y_K_put (cd_K_put :: ALL) rm_K_put (va_Pc [va_rf (some b0), .int a1, .int a2, .int a3, .int a4] (mw_B D dA CL (TY dA) ZZ A S)) (va_Qi (fun x (_ : Unit) => x = out.1) (fun _ t => mw_R D dA CL A out.2 t) A) 3 44 A := by
  refine mw_ofW (cc := b_K_put) (maxL := 8) (ret := (some .int)) [(.inr (.inr (some b0))), (.inl a1), (.inl a2), (.inl a3), (.inl a4)] rfl (by decide +kernel) (Nat.le_of_ble_eq_true rfl) (L := [(0, (.inr (.inr (some b0)))), (1, (.inl a1)), (2, (.inl a2)), (3, (.inl a3)), (4, (.inl a4))]) rfl (fun p e s m args below meth c F hr hlk hnm hK ls hl hI => ?_)
  have h := hf
  unfold f_K_put at h
  refine mt_aload_n F hl 0 rfl rfl d_K_put_0 ?_
  refine mt_iload_n F hl 3 rfl rfl d_K_put_1 ?_
  refine mt_iload F hl 4 rfl d_K_put_2 ?_
  obtain ⟨b1, e_b1, h⟩ := mw_bind h
  obtain ⟨o2, e_o2, h⟩ := mw_bind h
  refine mw_calll hI (mw_runV F hK hI (c_K_valueOf l D dA A _ _ _ _ _ e_o2) (cwV 2 F.2.2.2.2 (gd_V k_114 k_115 k_116 k_117 k_78) rfl rfl rfl hd_K_valueOf ⟨Nat.le_of_ble_eq_true rfl, Nat.le_of_ble_eq_true rfl⟩) (hc_0) e_b1 rfl hl.1 rfl (Nat.zero_le _) d_K_put_4 ⟨(Nat.le_of_ble_eq_true rfl), (Nat.le_of_ble_eq_true rfl)⟩) (fun H locs hI => ?_)
  refine mt_lstore F hl (Nat.le_of_ble_eq_true rfl) rfl d_K_put_7 (fun ls hl => ?_)
  have hl : mt_L ls 8 [(5, (.inr (.inl o2.1))), (0, (.inr (.inr (some b0)))), (1, (.inl a1)), (2, (.inl a2)), (3, (.inl a3)), (4, (.inl a4))] := hl
  refine mt_aload_n F hl 1 rfl rfl d_K_put_9 ?_
  refine mt_iload_n F hl 2 rfl rfl d_K_put_10 ?_
  refine lv_iconst (v := 2) F.1 F.2.1 d_K_put_11 (by decide) ?_
  obtain ⟨b3, e_b3, h⟩ := mw_bind h
  obtain ⟨o4, e_o4, h⟩ := mw_bind h
  refine mw_callq hI (mw_runV F hK hI (c_K_own l D dA A _ _ _ _ _ e_o4) (cwV 2 F.2.2.2.2 (gd_V k_118 k_119 k_120 k_121 k_78) rfl rfl rfl hd_K_own ⟨Nat.le_of_ble_eq_true rfl, Nat.le_of_ble_eq_true rfl⟩) (hc_0) e_b3 rfl hl.1 rfl (Nat.zero_le _) d_K_put_12 ⟨(Nat.le_of_ble_eq_true rfl), (Nat.le_of_ble_eq_true rfl)⟩) (fun H locs hI => ?_)
  refine mt_astore F hl (Nat.le_of_ble_eq_true rfl) rfl d_K_put_15 (fun ls hl => ?_)
  have hl : mt_L ls 8 [(7, (.inr (.inr o4.1))), (5, (.inr (.inl o2.1))), (0, (.inr (.inr (some b0)))), (1, (.inl a1)), (2, (.inl a2)), (3, (.inl a3)), (4, (.inl a4))] := hl
  refine mt_lload F hl 1 rfl d_K_put_17 ?_
  refine lv_ldc2 (v := (-1099511627776)) F.1 F.2.1 F.2.2.2.1 (F.2.2.2.2 _ (mA k_70)) d_K_put_19 ?_
  refine W.lcmp F.1 F.2.1 d_K_put_22 ?_
  refine lv_if_eq (tgt := 40) F.1 F.2.1 d_K_put_23 (by decide) (fun hc => ?_) (fun hc => ?_)
  · rw [if_pos hc] at h
    refine lv_iconst (v := (-1)) F.1 F.2.1 d_K_put_40 (by decide) ?_
    exact mw_iret F hI hr hlk h (Nat.le_of_ble_eq_true rfl) (Nat.le_of_ble_eq_true rfl) d_K_put_41
  · rw [if_neg hc] at h
    refine mt_aload F hl 0 rfl d_K_put_26 ?_
    refine mw_ifnull (tgt := 40) F d_K_put_28 (by decide) (fun hc => ?_) (fun hc => ?_)
    · rw [if_pos hc] at h
      refine lv_iconst (v := (-1)) F.1 F.2.1 d_K_put_40 (by decide) ?_
      exact mw_iret F hI hr hlk h (Nat.le_of_ble_eq_true rfl) (Nat.le_of_ble_eq_true rfl) d_K_put_41
    · rw [if_neg hc] at h
      refine mt_aload F hl 0 rfl d_K_put_31 ?_
      refine mt_iload_n F hl 4 rfl rfl d_K_put_33 ?_
      obtain ⟨b5, e_b5, h⟩ := mw_bind h
      obtain ⟨o6, e_o6, h⟩ := mw_bind h
      refine mw_calli hI (mw_runV F hK hI (c_S_holds l D dA A _ _ _ _ e_o6) (cwV 1 F.2.2.2.2 (gd_V k_97 k_165 k_99 k_100 k_33) rfl rfl rfl hd_S_holds ⟨Nat.le_of_ble_eq_true rfl, Nat.le_of_ble_eq_true rfl⟩) (hc_1) e_b5 rfl hl.1 rfl (Nat.zero_le _) d_K_put_34 ⟨(Nat.le_of_ble_eq_true rfl), (Nat.le_of_ble_eq_true rfl)⟩) (fun H locs hI => ?_)
      refine lv_if_ne (tgt := 42) F.1 F.2.1 d_K_put_37 (by decide) (fun hc => ?_) (fun hc => ?_)
      · rw [if_neg hc] at h
        refine mt_aload F hl 0 rfl d_K_put_42 ?_
        obtain ⟨v7, e_v7, h⟩ := mw_bind h
        refine mw_getR F hK hI (in_1 _) (hc_1) 2 (by decide) (mA k_166) rfl e_v7 d_K_put_44 ?_
        refine mt_iload_n F hl 4 rfl rfl d_K_put_47 ?_
        refine mt_lload F hl 1 rfl d_K_put_48 ?_
        obtain ⟨S8, e_S8, h⟩ := mw_bind h
        refine mw_last F hK hI (t0 := 1) rfl e_S8 d_K_put_50 (fun H locs hI => ?_)
        refine lv_iconst (v := 0) F.1 F.2.1 d_K_put_51 (by decide) ?_
        exact mw_iret F hI hr hlk h (Nat.le_of_ble_eq_true rfl) (Nat.le_of_ble_eq_true rfl) d_K_put_52
      · rw [if_pos hc] at h
        refine lv_iconst (v := (-1)) F.1 F.2.1 d_K_put_40 (by decide) ?_
        exact mw_iret F hI hr hlk h (Nat.le_of_ble_eq_true rfl) (Nat.le_of_ble_eq_true rfl) d_K_put_41
abbrev rm_M_put : Room := { frames := 3, cells := 0, slots := 0, locals := 68 }
set_option maxHeartbeats 4000000 in
set_option maxRecDepth 100000 in
theorem c_M_put (l : Launch) (D : va_G) (dA : Nat → ClassId) (A : Nat → Prop) (b0 : Nat) (a1 : Int32) (a2 : Int32) (a3 : Int32) (a4 : Int32) (S : mc_S) (out : (Int32 × mc_S)) (hf : f_M_put b0 a1 a2 a3 a4 S = some out) : Met l y_M_put (cd_M_put :: ALL) rm_M_put (va_Pc [va_rf (some b0), .int a1, .int a2, .int a3, .int a4] (mw_B D dA CL (TY dA) ZZ A S)) (va_Qi (fun x (_ : Unit) => x = out.1) (fun _ t => mw_R D dA CL A out.2 t) A) 0 0 A := by
  refine mw_ofW (cc := b_M_put) (maxL := 5) (ret := (some .int)) [(.inr (.inr (some b0))), (.inl a1), (.inl a2), (.inl a3), (.inl a4)] rfl (by decide +kernel) (Nat.le_of_ble_eq_true rfl) (L := [(0, (.inr (.inr (some b0)))), (1, (.inl a1)), (2, (.inl a2)), (3, (.inl a3)), (4, (.inl a4))]) rfl (fun p e s m args below meth c F hr hlk hnm hK ls hl hI => ?_)
  have h := hf
  unfold f_M_put at h
  refine mt_aload_n F hl 0 rfl rfl d_M_put_0 ?_
  refine mt_iload_n F hl 1 rfl rfl d_M_put_1 ?_
  refine lv_iconst (v := 2) F.1 F.2.1 d_M_put_2 (by decide) ?_
  obtain ⟨b1, e_b1, h⟩ := mw_bind h
  obtain ⟨o2, e_o2, h⟩ := mw_bind h
  refine mw_calli hI (mw_runV F hK hI (c_M_is l D dA A _ _ _ _ _ e_o2) (cwV 2 F.2.2.2.2 (gd_V k_137 k_138 k_139 k_140 k_130) rfl rfl rfl hd_M_is ⟨Nat.le_of_ble_eq_true rfl, Nat.le_of_ble_eq_true rfl⟩) (hc_4) e_b1 rfl hl.1 rfl (Nat.zero_le _) d_M_put_3 ⟨(Nat.le_of_ble_eq_true rfl), (Nat.le_of_ble_eq_true rfl)⟩) (fun H locs hI => ?_)
  refine lv_if_eq (tgt := 40) F.1 F.2.1 d_M_put_6 (by decide) (fun hc => ?_) (fun hc => ?_)
  · rw [if_pos hc] at h
    refine lv_iconst (v := (-1)) F.1 F.2.1 d_M_put_40 (by decide) ?_
    exact mw_iret F hI hr hlk h (Nat.le_of_ble_eq_true rfl) (Nat.le_of_ble_eq_true rfl) d_M_put_41
  · rw [if_neg hc] at h
    refine mt_iload_n F hl 2 rfl rfl d_M_put_9 ?_
    refine lv_i2l F.1 F.2.1 d_M_put_10 rfl ?_
    refine lv_lconst (v := 0) F.1 F.2.1 d_M_put_11 (by decide) ?_
    refine mt_aload_n F hl 0 rfl rfl d_M_put_12 ?_
    obtain ⟨v3, e_v3, h⟩ := mw_bind h
    refine mw_getR F hK hI (in_4 _) (hc_4) 0 (by decide) (mA k_56) rfl e_v3 d_M_put_13 ?_
    obtain ⟨v4, e_v4, h⟩ := mw_bind h
    refine mw_getR F hK hI (in_5 _) (hc_5) 1 (by decide) (mA k_64) rfl e_v4 d_M_put_16 ?_
    refine mt_iload_n F hl 1 rfl rfl d_M_put_19 ?_
    obtain ⟨v5, e_v5, h⟩ := mw_bind h
    refine mw_iald F hK hI (t0 := 0) rfl e_v5 d_M_put_20 ?_
    refine lv_iconst (v := 1) F.1 F.2.1 d_M_put_21 (by decide) ?_
    refine lv_isub F.1 F.2.1 d_M_put_22 ?_
    refine lv_i2l F.1 F.2.1 d_M_put_23 rfl ?_
    obtain ⟨o6, e_o6, h⟩ := mw_bind h
    refine mw_calli hI (mw_runS F hK hI (c_M_in l D dA A _ _ _ _ _ e_o6) (cwS 3 F.2.2.2.2 (gd_S k_127 k_128 k_129 k_130) rfl rfl rfl hd_M_in ⟨Nat.le_of_ble_eq_true rfl, Nat.le_of_ble_eq_true rfl⟩) rfl hl.1 rfl (Nat.zero_le _) d_M_put_24 ⟨(Nat.le_of_ble_eq_true rfl), (Nat.le_of_ble_eq_true rfl)⟩) (fun H locs hI => ?_)
    refine lv_if_eq (tgt := 40) F.1 F.2.1 d_M_put_27 (by decide) (fun hc => ?_) (fun hc => ?_)
    · rw [if_pos hc] at h
      refine lv_iconst (v := (-1)) F.1 F.2.1 d_M_put_40 (by decide) ?_
      exact mw_iret F hI hr hlk h (Nat.le_of_ble_eq_true rfl) (Nat.le_of_ble_eq_true rfl) d_M_put_41
    · rw [if_neg hc] at h
      refine mt_aload_n F hl 0 rfl rfl d_M_put_30 ?_
      refine mt_iload_n F hl 3 rfl rfl d_M_put_31 ?_
      refine mt_iload F hl 4 rfl d_M_put_32 ?_
      obtain ⟨b7, e_b7, h⟩ := mw_bind h
      obtain ⟨o8, e_o8, h⟩ := mw_bind h
      refine mw_calli hI (mw_runV F hK hI (c_M_isValue l D dA A _ _ _ _ _ e_o8) (cwV 2 F.2.2.2.2 (gd_V k_141 k_142 k_143 k_144 k_130) rfl rfl rfl hd_M_isValue ⟨Nat.le_of_ble_eq_true rfl, Nat.le_of_ble_eq_true rfl⟩) (hc_4) e_b7 rfl hl.1 rfl (Nat.zero_le _) d_M_put_34 ⟨(Nat.le_of_ble_eq_true rfl), (Nat.le_of_ble_eq_true rfl)⟩) (fun H locs hI => ?_)
      refine lv_if_ne (tgt := 42) F.1 F.2.1 d_M_put_37 (by decide) (fun hc => ?_) (fun hc => ?_)
      · rw [if_neg hc] at h
        refine mt_aload_n F hl 0 rfl rfl d_M_put_42 ?_
        obtain ⟨v9, e_v9, h⟩ := mw_bind h
        refine mw_getR F hK hI (in_4 _) (hc_4) 0 (by decide) (mA k_56) rfl e_v9 d_M_put_43 ?_
        obtain ⟨v10, e_v10, h⟩ := mw_bind h
        refine mw_getR F hK hI (in_5 _) (hc_5) 4 (by decide) (mA k_149) rfl e_v10 d_M_put_46 ?_
        refine lv_bipush (v := 20) F.1 F.2.1 d_M_put_49 (by decide) ?_
        refine mt_iload_n F hl 1 rfl rfl d_M_put_51 ?_
        refine lv_imul F.1 F.2.1 d_M_put_52 ?_
        refine mt_iload_n F hl 2 rfl rfl d_M_put_53 ?_
        refine lv_iadd F.1 F.2.1 d_M_put_54 ?_
        refine mt_iload_n F hl 3 rfl rfl d_M_put_55 ?_
        refine mt_iload F hl 4 rfl d_M_put_56 ?_
        obtain ⟨o11, e_o11, h⟩ := mw_bind h
        refine mw_calll hI (mw_runS F hK hI (c_M_value l D dA A _ _ _ _ e_o11) (cwS 2 F.2.2.2.2 (gd_S k_150 k_151 k_152 k_130) rfl rfl rfl hd_M_value ⟨Nat.le_of_ble_eq_true rfl, Nat.le_of_ble_eq_true rfl⟩) rfl hl.1 rfl (by simp [mw_cat, mw_cI, mw_cL]) d_M_put_58 ⟨(Nat.le_of_ble_eq_true rfl), (Nat.le_of_ble_eq_true rfl)⟩) (fun H locs hI => ?_)
        obtain ⟨S12, e_S12, h⟩ := mw_bind h
        refine mw_last F hK hI (t0 := 1) rfl e_S12 d_M_put_61 (fun H locs hI => ?_)
        refine lv_iconst (v := 0) F.1 F.2.1 d_M_put_62 (by decide) ?_
        exact mw_iret F hI hr hlk h (Nat.le_of_ble_eq_true rfl) (Nat.le_of_ble_eq_true rfl) d_M_put_63
      · rw [if_pos hc] at h
        refine lv_iconst (v := (-1)) F.1 F.2.1 d_M_put_40 (by decide) ?_
        exact mw_iret F hI hr hlk h (Nat.le_of_ble_eq_true rfl) (Nat.le_of_ble_eq_true rfl) d_M_put_41
abbrev rm_K_item : Room := { frames := 2, cells := 0, slots := 0, locals := 43 }
set_option maxHeartbeats 4000000 in
set_option maxRecDepth 100000 in
theorem c_K_item (l : Launch) (D : va_G) (dA : Nat → ClassId) (A : Nat → Prop) (b0 : Nat) (a1 : Int32) (a2 : Int32) (S : mc_S) (out : (Int64 × mc_S)) (hf : f_K_item b0 a1 a2 S = some out) : Met l y_K_item (cd_K_item :: ALL) rm_K_item (va_Pc [va_rf (some b0), .int a1, .int a2] (mw_B D dA CL (TY dA) ZZ A S)) (va_Ql (fun x (_ : Unit) => x = out.1) (fun _ t => mw_R D dA CL A out.2 t) A) 0 0 A := by
  refine mw_ofW (cc := b_K_item) (maxL := 4) (ret := (some .long)) [(.inr (.inr (some b0))), (.inl a1), (.inl a2)] rfl (by decide +kernel) (Nat.le_of_ble_eq_true rfl) (L := [(0, (.inr (.inr (some b0)))), (1, (.inl a1)), (2, (.inl a2))]) rfl (fun p e s m args below meth c F hr hlk hnm hK ls hl hI => ?_)
  have h := hf
  unfold f_K_item at h
  refine mt_aload_n F hl 0 rfl rfl d_K_item_0 ?_
  obtain ⟨v1, e_v1, h⟩ := mw_bind h
  refine mw_getR F hK hI (in_0 _) (hc_0) 0 (by decide) (mA k_42) rfl e_v1 d_K_item_1 ?_
  refine mt_iload_n F hl 1 rfl rfl d_K_item_4 ?_
  refine lv_iconst (v := 2) F.1 F.2.1 d_K_item_5 (by decide) ?_
  obtain ⟨b2, e_b2, h⟩ := mw_bind h
  obtain ⟨o3, e_o3, h⟩ := mw_bind h
  refine mw_callq hI (mw_runV F hK hI (c_T_find l D dA A _ _ _ _ _ e_o3) (cwV 2 F.2.2.2.2 (gd_V k_85 k_86 k_87 k_88 k_38) rfl rfl rfl hd_T_find ⟨Nat.le_of_ble_eq_true rfl, Nat.le_of_ble_eq_true rfl⟩) (hc_2) e_b2 rfl hl.1 rfl (Nat.zero_le _) d_K_item_6 ⟨(Nat.le_of_ble_eq_true rfl), (Nat.le_of_ble_eq_true rfl)⟩) (fun H locs hI => ?_)
  refine mt_astore_n F hl rfl (Nat.le_of_ble_eq_true rfl) rfl d_K_item_9 (fun ls hl => ?_)
  have hl : mt_L ls 4 [(3, (.inr (.inr o3.1))), (0, (.inr (.inr (some b0)))), (1, (.inl a1)), (2, (.inl a2))] := hl
  refine mt_aload_n F hl 0 rfl rfl d_K_item_10 ?_
  refine mw_ifnull (tgt := 22) F d_K_item_11 (by decide) (fun hc => ?_) (fun hc => ?_)
  · rw [if_pos hc] at h
    refine lv_ldc2 (v := (-1099511627776)) F.1 F.2.1 F.2.2.2.1 (F.2.2.2.2 _ (mA k_70)) d_K_item_22 ?_
    refine lv_goto (tgt := 34) F.1 F.2.1 d_K_item_25 (by decide) ?_
    exact mw_lret F hI hr hlk h (Nat.le_of_ble_eq_true rfl) (Nat.le_of_ble_eq_true rfl) d_K_item_34
  · rw [if_neg hc] at h
    refine mt_aload_n F hl 0 rfl rfl d_K_item_14 ?_
    refine mt_iload_n F hl 3 rfl rfl d_K_item_15 ?_
    obtain ⟨b4, e_b4, h⟩ := mw_bind h
    obtain ⟨o5, e_o5, h⟩ := mw_bind h
    refine mw_calli hI (mw_runV F hK hI (c_S_holds l D dA A _ _ _ _ e_o5) (cwV 1 F.2.2.2.2 (gd_V k_97 k_165 k_99 k_100 k_33) rfl rfl rfl hd_S_holds ⟨Nat.le_of_ble_eq_true rfl, Nat.le_of_ble_eq_true rfl⟩) (hc_1) e_b4 rfl hl.1 rfl (Nat.zero_le _) d_K_item_16 ⟨(Nat.le_of_ble_eq_true rfl), (Nat.le_of_ble_eq_true rfl)⟩) (fun H locs hI => ?_)
    refine lv_if_ne (tgt := 28) F.1 F.2.1 d_K_item_19 (by decide) (fun hc => ?_) (fun hc => ?_)
    · rw [if_neg hc] at h
      refine mt_aload_n F hl 0 rfl rfl d_K_item_28 ?_
      obtain ⟨v6, e_v6, h⟩ := mw_bind h
      refine mw_getR F hK hI (in_1 _) (hc_1) 2 (by decide) (mA k_166) rfl e_v6 d_K_item_29 ?_
      refine mt_iload_n F hl 3 rfl rfl d_K_item_32 ?_
      obtain ⟨v7, e_v7, h⟩ := mw_bind h
      refine mw_lald F hK hI (t0 := 1) rfl e_v7 d_K_item_33 ?_
      exact mw_lret F hI hr hlk h (Nat.le_of_ble_eq_true rfl) (Nat.le_of_ble_eq_true rfl) d_K_item_34
    · rw [if_pos hc] at h
      refine lv_ldc2 (v := (-1099511627776)) F.1 F.2.1 F.2.2.2.1 (F.2.2.2.2 _ (mA k_70)) d_K_item_22 ?_
      refine lv_goto (tgt := 34) F.1 F.2.1 d_K_item_25 (by decide) ?_
      exact mw_lret F hI hr hlk h (Nat.le_of_ble_eq_true rfl) (Nat.le_of_ble_eq_true rfl) d_K_item_34
abbrev rm_M_item : Room := { frames := 2, cells := 0, slots := 0, locals := 47 }
set_option maxHeartbeats 4000000 in
set_option maxRecDepth 100000 in
theorem c_M_item (l : Launch) (D : va_G) (dA : Nat → ClassId) (A : Nat → Prop) (b0 : Nat) (a1 : Int32) (a2 : Int32) (S : mc_S) (out : (Int64 × mc_S)) (hf : f_M_item b0 a1 a2 S = some out) : Met l y_M_item (cd_M_item :: ALL) rm_M_item (va_Pc [va_rf (some b0), .int a1, .int a2] (mw_B D dA CL (TY dA) ZZ A S)) (va_Ql (fun x (_ : Unit) => x = out.1) (fun _ t => mw_R D dA CL A out.2 t) A) 0 0 A := by
  refine mw_ofW (cc := b_M_item) (maxL := 3) (ret := (some .long)) [(.inr (.inr (some b0))), (.inl a1), (.inl a2)] rfl (by decide +kernel) (Nat.le_of_ble_eq_true rfl) (L := [(0, (.inr (.inr (some b0)))), (1, (.inl a1)), (2, (.inl a2))]) rfl (fun p e s m args below meth c F hr hlk hnm hK ls hl hI => ?_)
  have h := hf
  unfold f_M_item at h
  refine mt_aload_n F hl 0 rfl rfl d_M_item_0 ?_
  refine mt_iload_n F hl 1 rfl rfl d_M_item_1 ?_
  refine lv_iconst (v := 2) F.1 F.2.1 d_M_item_2 (by decide) ?_
  obtain ⟨b1, e_b1, h⟩ := mw_bind h
  obtain ⟨o2, e_o2, h⟩ := mw_bind h
  refine mw_calli hI (mw_runV F hK hI (c_M_is l D dA A _ _ _ _ _ e_o2) (cwV 2 F.2.2.2.2 (gd_V k_137 k_138 k_139 k_140 k_130) rfl rfl rfl hd_M_is ⟨Nat.le_of_ble_eq_true rfl, Nat.le_of_ble_eq_true rfl⟩) (hc_4) e_b1 rfl hl.1 rfl (Nat.zero_le _) d_M_item_3 ⟨(Nat.le_of_ble_eq_true rfl), (Nat.le_of_ble_eq_true rfl)⟩) (fun H locs hI => ?_)
  refine lv_if_eq (tgt := 47) F.1 F.2.1 d_M_item_6 (by decide) (fun hc => ?_) (fun hc => ?_)
  · rw [if_pos hc] at h
    refine lv_ldc2 (v := (-1099511627776)) F.1 F.2.1 F.2.2.2.1 (F.2.2.2.2 _ (mA k_158)) d_M_item_47 ?_
    exact mw_lret F hI hr hlk h (Nat.le_of_ble_eq_true rfl) (Nat.le_of_ble_eq_true rfl) d_M_item_50
  · rw [if_neg hc] at h
    refine mt_iload_n F hl 2 rfl rfl d_M_item_9 ?_
    refine lv_i2l F.1 F.2.1 d_M_item_10 rfl ?_
    refine lv_lconst (v := 0) F.1 F.2.1 d_M_item_11 (by decide) ?_
    refine mt_aload_n F hl 0 rfl rfl d_M_item_12 ?_
    obtain ⟨v3, e_v3, h⟩ := mw_bind h
    refine mw_getR F hK hI (in_4 _) (hc_4) 0 (by decide) (mA k_56) rfl e_v3 d_M_item_13 ?_
    obtain ⟨v4, e_v4, h⟩ := mw_bind h
    refine mw_getR F hK hI (in_5 _) (hc_5) 1 (by decide) (mA k_64) rfl e_v4 d_M_item_16 ?_
    refine mt_iload_n F hl 1 rfl rfl d_M_item_19 ?_
    obtain ⟨v5, e_v5, h⟩ := mw_bind h
    refine mw_iald F hK hI (t0 := 0) rfl e_v5 d_M_item_20 ?_
    refine lv_iconst (v := 1) F.1 F.2.1 d_M_item_21 (by decide) ?_
    refine lv_isub F.1 F.2.1 d_M_item_22 ?_
    refine lv_i2l F.1 F.2.1 d_M_item_23 rfl ?_
    obtain ⟨o6, e_o6, h⟩ := mw_bind h
    refine mw_calli hI (mw_runS F hK hI (c_M_in l D dA A _ _ _ _ _ e_o6) (cwS 3 F.2.2.2.2 (gd_S k_127 k_128 k_129 k_130) rfl rfl rfl hd_M_in ⟨Nat.le_of_ble_eq_true rfl, Nat.le_of_ble_eq_true rfl⟩) rfl hl.1 rfl (Nat.zero_le _) d_M_item_24 ⟨(Nat.le_of_ble_eq_true rfl), (Nat.le_of_ble_eq_true rfl)⟩) (fun H locs hI => ?_)
    refine lv_if_eq (tgt := 47) F.1 F.2.1 d_M_item_27 (by decide) (fun hc => ?_) (fun hc => ?_)
    · rw [if_pos hc] at h
      refine lv_ldc2 (v := (-1099511627776)) F.1 F.2.1 F.2.2.2.1 (F.2.2.2.2 _ (mA k_158)) d_M_item_47 ?_
      exact mw_lret F hI hr hlk h (Nat.le_of_ble_eq_true rfl) (Nat.le_of_ble_eq_true rfl) d_M_item_50
    · rw [if_neg hc] at h
      refine mt_aload_n F hl 0 rfl rfl d_M_item_30 ?_
      obtain ⟨v7, e_v7, h⟩ := mw_bind h
      refine mw_getR F hK hI (in_4 _) (hc_4) 0 (by decide) (mA k_56) rfl e_v7 d_M_item_31 ?_
      obtain ⟨v8, e_v8, h⟩ := mw_bind h
      refine mw_getR F hK hI (in_5 _) (hc_5) 4 (by decide) (mA k_149) rfl e_v8 d_M_item_34 ?_
      refine lv_bipush (v := 20) F.1 F.2.1 d_M_item_37 (by decide) ?_
      refine mt_iload_n F hl 1 rfl rfl d_M_item_39 ?_
      refine lv_imul F.1 F.2.1 d_M_item_40 ?_
      refine mt_iload_n F hl 2 rfl rfl d_M_item_41 ?_
      refine lv_iadd F.1 F.2.1 d_M_item_42 ?_
      obtain ⟨v9, e_v9, h⟩ := mw_bind h
      refine mw_lald F hK hI (t0 := 1) rfl e_v9 d_M_item_43 ?_
      refine lv_goto (tgt := 50) F.1 F.2.1 d_M_item_44 (by decide) ?_
      exact mw_lret F hI hr hlk h (Nat.le_of_ble_eq_true rfl) (Nat.le_of_ble_eq_true rfl) d_M_item_50
abbrev rm_K_ownRoots : Room := { frames := 3, cells := 3, slots := 44, locals := 55 }
set_option maxHeartbeats 4000000 in
set_option maxRecDepth 100000 in
theorem c_K_ownRoots (l : Launch) (D : va_G) (dA : Nat → ClassId) (A : Nat → Prop) (b0 : Nat) (S : mc_S) (out : (Option Nat × mc_S)) (hf : f_K_ownRoots b0 S = some out) : Met l y_K_ownRoots (cd_K_ownRoots :: ALL) rm_K_ownRoots (va_Pc [va_rf (some b0)] (mw_B D dA CL (TY dA) ZZ A S)) (va_Qq (fun x (_ : Unit) => x = out.1) (fun _ t => mw_R D dA CL A out.2 t) A) 3 44 A := by
  refine mw_ofW (cc := b_K_ownRoots) (maxL := 1) (ret := (some (.object "KeepHeap$Slots"))) [(.inr (.inr (some b0)))] rfl (by decide +kernel) (Nat.le_of_ble_eq_true rfl) (L := [(0, (.inr (.inr (some b0))))]) rfl (fun p e s m args below meth c F hr hlk hnm hK ls hl hI => ?_)
  have h := hf
  unfold f_K_ownRoots at h
  refine mt_aload_n F hl 0 rfl rfl d_K_ownRoots_0 ?_
  obtain ⟨v1, e_v1, h⟩ := mw_bind h
  refine mw_getR F hK hI (in_0 _) (hc_0) 0 (by decide) (mA k_42) rfl e_v1 d_K_ownRoots_1 ?_
  obtain ⟨v2, e_v2, h⟩ := mw_bind h
  refine mw_getR F hK hI (in_2 _) (hc_2) 1 (by decide) (mA k_167) rfl e_v2 d_K_ownRoots_4 ?_
  refine mt_aload_n F hl 0 rfl rfl d_K_ownRoots_7 ?_
  obtain ⟨b3, e_b3, h⟩ := mw_bind h
  obtain ⟨o4, e_o4, h⟩ := mw_bind h
  refine mw_callq hI (mw_runV F hK hI (c_K_kept l D dA A _ _ _ e_o4) (cwV 0 F.2.2.2.2 (gd_V k_89 k_90 k_91 k_92 k_78) rfl rfl rfl hd_K_kept ⟨Nat.le_of_ble_eq_true rfl, Nat.le_of_ble_eq_true rfl⟩) (hc_0) e_b3 rfl hl.1 rfl (by simp [mw_cat, mw_cI, mw_cL]) d_K_ownRoots_8 ⟨(Nat.le_of_ble_eq_true rfl), (Nat.le_of_ble_eq_true rfl)⟩) (fun H locs hI => ?_)
  obtain ⟨v5, e_v5, h⟩ := mw_bind h
  refine mw_getR F hK hI (in_2 _) (hc_2) 1 (by decide) (mA k_167) rfl e_v5 d_K_ownRoots_11 ?_
  refine lv_acmp_ne (tgt := 34) F.1 F.2.1 d_K_ownRoots_14 (by decide) (fun hc => ?_) (fun hc => ?_)
  · rw [if_neg hc] at h
    refine mt_aload_n F hl 0 rfl rfl d_K_ownRoots_34 ?_
    obtain ⟨v6, e_v6, h⟩ := mw_bind h
    refine mw_getR F hK hI (in_0 _) (hc_0) 0 (by decide) (mA k_42) rfl e_v6 d_K_ownRoots_35 ?_
    obtain ⟨v7, e_v7, h⟩ := mw_bind h
    refine mw_getR F hK hI (in_2 _) (hc_2) 1 (by decide) (mA k_167) rfl e_v7 d_K_ownRoots_38 ?_
    exact mw_qret F hI hr hlk h (Nat.le_of_ble_eq_true rfl) (Nat.le_of_ble_eq_true rfl) d_K_ownRoots_41
  · rw [if_pos hc] at h
    refine mt_aload_n F hl 0 rfl rfl d_K_ownRoots_17 ?_
    obtain ⟨v8, e_v8, h⟩ := mw_bind h
    refine mw_getR F hK hI (in_0 _) (hc_0) 0 (by decide) (mA k_42) rfl e_v8 d_K_ownRoots_18 ?_
    refine mt_aload_n F hl 0 rfl rfl d_K_ownRoots_21 ?_
    obtain ⟨v9, e_v9, h⟩ := mw_bind h
    refine mw_getR F hK hI (in_0 _) (hc_0) 0 (by decide) (mA k_42) rfl e_v9 d_K_ownRoots_22 ?_
    obtain ⟨v10, e_v10, h⟩ := mw_bind h
    refine mw_getR F hK hI (in_2 _) (hc_2) 1 (by decide) (mA k_167) rfl e_v10 d_K_ownRoots_25 ?_
    obtain ⟨b11, e_b11, h⟩ := mw_bind h
    obtain ⟨o12, e_o12, h⟩ := mw_bind h
    refine mw_callq hI (mw_runV F hK hI (c_S_twin l D dA A _ _ _ e_o12) (cwV 0 F.2.2.2.2 (gd_V k_93 k_94 k_95 k_96 k_33) rfl rfl rfl hd_S_twin ⟨Nat.le_of_ble_eq_true rfl, Nat.le_of_ble_eq_true rfl⟩) (hc_1) e_b11 rfl hl.1 rfl (by simp [mw_cat, mw_cI, mw_cL]) d_K_ownRoots_28 ⟨(Nat.le_of_ble_eq_true rfl), (Nat.le_of_ble_eq_true rfl)⟩) (fun H locs hI => ?_)
    obtain ⟨S13, e_S13, h⟩ := mw_bind h
    refine mw_put F hK hI (in_2 _) ty_2 ok_2 nm_2 (hc_2) 1 (by decide) (mA k_167) rfl rfl (mw_narO _ _) (mw_fitO _ _) e_S13 d_K_ownRoots_31 (fun H locs hI => ?_)
    refine mt_aload_n F hl 0 rfl rfl d_K_ownRoots_34 ?_
    obtain ⟨v14, e_v14, h⟩ := mw_bind h
    refine mw_getR F hK hI (in_0 _) (hc_0) 0 (by decide) (mA k_42) rfl e_v14 d_K_ownRoots_35 ?_
    obtain ⟨v15, e_v15, h⟩ := mw_bind h
    refine mw_getR F hK hI (in_2 _) (hc_2) 1 (by decide) (mA k_167) rfl e_v15 d_K_ownRoots_38 ?_
    exact mw_qret F hI hr hlk h (Nat.le_of_ble_eq_true rfl) (Nat.le_of_ble_eq_true rfl) d_K_ownRoots_41
abbrev rm_K_root : Room := { frames := 4, cells := 3, slots := 44, locals := 75 }
set_option maxHeartbeats 4000000 in
set_option maxRecDepth 100000 in
theorem c_K_root (l : Launch) (D : va_G) (dA : Nat → ClassId) (A : Nat → Prop) (b0 : Nat) (a1 : Int32) (a2 : Int32) (a3 : Int32) (S : mc_S) (out : (Int32 × mc_S)) (hf : f_K_root b0 a1 a2 a3 S = some out) : Met l y_K_root (cd_K_root :: ALL) rm_K_root (va_Pc [va_rf (some b0), .int a1, .int a2, .int a3] (mw_B D dA CL (TY dA) ZZ A S)) (va_Qi (fun x (_ : Unit) => x = out.1) (fun _ t => mw_R D dA CL A out.2 t) A) 3 44 A := by
  refine mw_ofW (cc := b_K_root) (maxL := 6) (ret := (some .int)) [(.inr (.inr (some b0))), (.inl a1), (.inl a2), (.inl a3)] rfl (by decide +kernel) (Nat.le_of_ble_eq_true rfl) (L := [(0, (.inr (.inr (some b0)))), (1, (.inl a1)), (2, (.inl a2)), (3, (.inl a3))]) rfl (fun p e s m args below meth c F hr hlk hnm hK ls hl hI => ?_)
  have h := hf
  unfold f_K_root at h
  refine mt_aload_n F hl 0 rfl rfl d_K_root_0 ?_
  refine mt_iload_n F hl 2 rfl rfl d_K_root_1 ?_
  refine mt_iload_n F hl 3 rfl rfl d_K_root_2 ?_
  obtain ⟨b1, e_b1, h⟩ := mw_bind h
  obtain ⟨o2, e_o2, h⟩ := mw_bind h
  refine mw_calll hI (mw_runV F hK hI (c_K_valueOf l D dA A _ _ _ _ _ e_o2) (cwV 2 F.2.2.2.2 (gd_V k_114 k_115 k_116 k_117 k_78) rfl rfl rfl hd_K_valueOf ⟨Nat.le_of_ble_eq_true rfl, Nat.le_of_ble_eq_true rfl⟩) (hc_0) e_b1 rfl hl.1 rfl (Nat.zero_le _) d_K_root_3 ⟨(Nat.le_of_ble_eq_true rfl), (Nat.le_of_ble_eq_true rfl)⟩) (fun H locs hI => ?_)
  refine mt_lstore F hl (Nat.le_of_ble_eq_true rfl) rfl d_K_root_6 (fun ls hl => ?_)
  have hl : mt_L ls 6 [(4, (.inr (.inl o2.1))), (0, (.inr (.inr (some b0)))), (1, (.inl a1)), (2, (.inl a2)), (3, (.inl a3))] := hl
  refine mt_lload F hl 0 rfl d_K_root_8 ?_
  refine lv_ldc2 (v := (-1099511627776)) F.1 F.2.1 F.2.2.2.1 (F.2.2.2.2 _ (mA k_70)) d_K_root_10 ?_
  refine W.lcmp F.1 F.2.1 d_K_root_13 ?_
  refine lv_if_ne (tgt := 21) F.1 F.2.1 d_K_root_14 (by decide) (fun hc => ?_) (fun hc => ?_)
  · rw [if_neg hc] at h
    refine mt_aload_n F hl 1 rfl rfl d_K_root_21 ?_
    obtain ⟨b3, e_b3, h⟩ := mw_bind h
    obtain ⟨o4, e_o4, h⟩ := mw_bind h
    refine mw_callq hI (mw_runV F hK hI (c_K_ownRoots l D dA A _ _ _ e_o4) (cwV 0 F.2.2.2.2 (gd_V k_168 k_169 k_170 k_171 k_78) rfl rfl rfl hd_K_ownRoots ⟨Nat.le_of_ble_eq_true rfl, Nat.le_of_ble_eq_true rfl⟩) (hc_0) e_b3 rfl hl.1 rfl (Nat.zero_le _) d_K_root_22 ⟨(Nat.le_of_ble_eq_true rfl), (Nat.le_of_ble_eq_true rfl)⟩) (fun H locs hI => ?_)
    refine mt_iload_n F hl 2 rfl rfl d_K_root_25 ?_
    refine mt_lload F hl 0 rfl d_K_root_26 ?_
    obtain ⟨b5, e_b5, h⟩ := mw_bind h
    obtain ⟨o6, e_o6, h⟩ := mw_bind h
    refine mw_calli hI (mw_runV F hK hI (c_S_assign l D dA A _ _ _ _ _ e_o6) (cwV 2 F.2.2.2.2 (gd_V k_122 k_123 k_124 k_125 k_33) rfl rfl rfl hd_S_assign ⟨Nat.le_of_ble_eq_true rfl, Nat.le_of_ble_eq_true rfl⟩) (hc_1) e_b5 rfl hl.1 rfl (Nat.zero_le _) d_K_root_28 ⟨(Nat.le_of_ble_eq_true rfl), (Nat.le_of_ble_eq_true rfl)⟩) (fun H locs hI => ?_)
    exact mw_iret F hI hr hlk h (Nat.le_of_ble_eq_true rfl) (Nat.le_of_ble_eq_true rfl) d_K_root_31
  · rw [if_pos hc] at h
    refine lv_iconst (v := (-1)) F.1 F.2.1 d_K_root_17 (by decide) ?_
    refine lv_goto (tgt := 31) F.1 F.2.1 d_K_root_18 (by decide) ?_
    exact mw_iret F hI hr hlk h (Nat.le_of_ble_eq_true rfl) (Nat.le_of_ble_eq_true rfl) d_K_root_31
abbrev rm_N_findRoot : Room := { frames := 0, cells := 0, slots := 0, locals := 0 }
set_option maxHeartbeats 4000000 in
set_option maxRecDepth 100000 in
theorem s_N_findRoot (l : Launch) (D : va_G) (dA : Nat → ClassId) (A : Nat → Prop) (b0 : Nat) {p : Program} {e : Env} {s : State} {m : MethodId} {args : Array Value} {below : List Frame} {meth : Method} {c : Code} (F : CallFix p m c b_N_findRoot 3 s args (cd_N_findRoot :: ALL) y_N_findRoot.cls) (hr : meth.sig.returnType = (some .int)) (hlk : meth.locks = false) (hnm : meth.name = y_N_findRoot.name) (hK : mw_K D CL (TY dA) ZZ s) (out : (Int32 × mc_S)) : ∀ n : Nat, (∀ (x1 : Int32) (x2 : Int32) (S : mc_S) (H : Heap) (locs : List Loc) (ls : Array Slot), mw_I D dA CL A S s.heap H locs → mt_L ls 3 [(0, (.inr (.inr (some b0)))), (1, (.inl x1)), (2, (.inl x2))] → g_N_findRoot b0 n x1 x2 S = some out → W p l e rm_N_findRoot s m args below meth c H locs (0) (0) (MQ below (va_Qi (fun x (_ : Unit) => x = out.1) (fun _ t => mw_R D dA CL A out.2 t) A) args s 0 0 A) (F0 m 2 ls [])) := by
  intro n
  induction n with
  | zero =>
    intro x1 x2 S H locs ls hI hl h; have h : (none : Option (Int32 × mc_S)) = some out := h; cases h
  | succ k0 ih =>
    intro x1 x2 S H locs ls hI hl h
    have h : q_N_findRoot_0 b0 (g_N_findRoot b0 k0) x1 x2 S = some out := h
    unfold q_N_findRoot_0 at h
    refine mt_iload_n F hl 2 rfl rfl d_N_findRoot_2 ?_
    refine mt_aload_n F hl 0 rfl rfl d_N_findRoot_3 ?_
    obtain ⟨v1, e_v1, h⟩ := mw_bind h
    refine mw_getI F hK hI (in_5 _) (hc_5) 6 (by decide) (mA k_172) rfl e_v1 d_N_findRoot_4 ?_
    refine lv_icmp_ge (tgt := 28) F.1 F.2.1 d_N_findRoot_7 (by decide) (fun hc => ?_) (fun hc => ?_)
    · rw [if_pos hc] at h
      refine lv_iconst (v := (-1)) F.1 F.2.1 d_N_findRoot_28 (by decide) ?_
      exact mw_iret F hI hr hlk h (Nat.le_of_ble_eq_true rfl) (Nat.le_of_ble_eq_true rfl) d_N_findRoot_29
    · rw [if_neg hc] at h
      refine mt_aload_n F hl 0 rfl rfl d_N_findRoot_10 ?_
      obtain ⟨v2, e_v2, h⟩ := mw_bind h
      refine mw_getR F hK hI (in_5 _) (hc_5) 3 (by decide) (mA k_47) rfl e_v2 d_N_findRoot_11 ?_
      refine mt_iload_n F hl 2 rfl rfl d_N_findRoot_14 ?_
      obtain ⟨v3, e_v3, h⟩ := mw_bind h
      refine mw_iald F hK hI (t0 := 0) rfl e_v3 d_N_findRoot_15 ?_
      refine mt_iload_n F hl 1 rfl rfl d_N_findRoot_16 ?_
      refine lv_icmp_ne (tgt := 22) F.1 F.2.1 d_N_findRoot_17 (by decide) (fun hc => ?_) (fun hc => ?_)
      · rw [if_neg hc] at h
        refine mt_iinc (v := (x2 + 1)) F hl 2 rfl (by rw [show Int32.ofInt 1 = (1 : Int32) from by decide]) (Nat.le_of_ble_eq_true rfl) rfl d_N_findRoot_22 (fun ls hl => ?_)
        have hl : mt_L ls 3 [(2, (.inl (x2 + 1))), (0, (.inr (.inr (some b0)))), (1, (.inl x1))] := hl
        refine lv_goto (tgt := 2) F.1 F.2.1 d_N_findRoot_25 (by decide) ?_
        refine W.widen (k := 0) (n := 0) (Nat.le_of_ble_eq_true rfl) (Nat.le_of_ble_eq_true rfl) ?_
        exact ih _ _ _ _ _ _ hI (mt_sub hl [1, 2, 0] rfl) h
      · rw [if_pos hc] at h
        refine mt_iload_n F hl 2 rfl rfl d_N_findRoot_20 ?_
        exact mw_iret F hI hr hlk h (Nat.le_of_ble_eq_true rfl) (Nat.le_of_ble_eq_true rfl) d_N_findRoot_21
set_option maxHeartbeats 4000000 in
set_option maxRecDepth 100000 in
theorem c_N_findRoot (l : Launch) (D : va_G) (dA : Nat → ClassId) (A : Nat → Prop) (b0 : Nat) (a1 : Int32) (S : mc_S) (out : (Int32 × mc_S)) (hf : f_N_findRoot b0 a1 S = some out) : Met l y_N_findRoot (cd_N_findRoot :: ALL) rm_N_findRoot (va_Pc [va_rf (some b0), .int a1] (mw_B D dA CL (TY dA) ZZ A S)) (va_Qi (fun x (_ : Unit) => x = out.1) (fun _ t => mw_R D dA CL A out.2 t) A) 0 0 A := by
  refine mw_ofW (cc := b_N_findRoot) (maxL := 3) (ret := (some .int)) [(.inr (.inr (some b0))), (.inl a1)] rfl (by decide +kernel) (Nat.le_of_ble_eq_true rfl) (L := [(0, (.inr (.inr (some b0)))), (1, (.inl a1))]) rfl (fun p e s m args below meth c F hr hlk hnm hK ls hl hI => ?_)
  have h := hf
  unfold f_N_findRoot at h
  refine lv_iconst (v := 0) F.1 F.2.1 d_N_findRoot_0 (by decide) ?_
  refine mt_istore_n F hl rfl (Nat.le_of_ble_eq_true rfl) rfl d_N_findRoot_1 (fun ls hl => ?_)
  have hl : mt_L ls 3 [(2, (.inl 0)), (0, (.inr (.inr (some b0)))), (1, (.inl a1))] := hl
  refine W.widen (k := 0) (n := 0) (Nat.le_of_ble_eq_true rfl) (Nat.le_of_ble_eq_true rfl) ?_
  exact (s_N_findRoot l D dA A b0 F hr hlk hnm hK out 5000) _ _ _ _ _ _ hI (mt_sub hl [1, 2, 0] rfl) h
abbrev rm_M_root : Room := { frames := 3, cells := 0, slots := 0, locals := 68 }
set_option maxHeartbeats 4000000 in
set_option maxRecDepth 100000 in
theorem c_M_root (l : Launch) (D : va_G) (dA : Nat → ClassId) (A : Nat → Prop) (b0 : Nat) (a1 : Int32) (a2 : Int32) (a3 : Int32) (S : mc_S) (out : (Int32 × mc_S)) (hf : f_M_root b0 a1 a2 a3 S = some out) : Met l y_M_root (cd_M_root :: ALL) rm_M_root (va_Pc [va_rf (some b0), .int a1, .int a2, .int a3] (mw_B D dA CL (TY dA) ZZ A S)) (va_Qi (fun x (_ : Unit) => x = out.1) (fun _ t => mw_R D dA CL A out.2 t) A) 0 0 A := by
  refine mw_ofW (cc := b_M_root) (maxL := 5) (ret := (some .int)) [(.inr (.inr (some b0))), (.inl a1), (.inl a2), (.inl a3)] rfl (by decide +kernel) (Nat.le_of_ble_eq_true rfl) (L := [(0, (.inr (.inr (some b0)))), (1, (.inl a1)), (2, (.inl a2)), (3, (.inl a3))]) rfl (fun p e s m args below meth c F hr hlk hnm hK ls hl hI => ?_)
  have h := hf
  unfold f_M_root at h
  refine mt_aload_n F hl 0 rfl rfl d_M_root_0 ?_
  refine mt_iload_n F hl 2 rfl rfl d_M_root_1 ?_
  refine mt_iload_n F hl 3 rfl rfl d_M_root_2 ?_
  obtain ⟨b1, e_b1, h⟩ := mw_bind h
  obtain ⟨o2, e_o2, h⟩ := mw_bind h
  refine mw_calli hI (mw_runV F hK hI (c_M_isValue l D dA A _ _ _ _ _ e_o2) (cwV 2 F.2.2.2.2 (gd_V k_141 k_142 k_143 k_144 k_130) rfl rfl rfl hd_M_isValue ⟨Nat.le_of_ble_eq_true rfl, Nat.le_of_ble_eq_true rfl⟩) (hc_4) e_b1 rfl hl.1 rfl (Nat.zero_le _) d_M_root_3 ⟨(Nat.le_of_ble_eq_true rfl), (Nat.le_of_ble_eq_true rfl)⟩) (fun H locs hI => ?_)
  refine lv_if_ne (tgt := 11) F.1 F.2.1 d_M_root_6 (by decide) (fun hc => ?_) (fun hc => ?_)
  · rw [if_neg hc] at h
    refine mt_aload_n F hl 0 rfl rfl d_M_root_11 ?_
    obtain ⟨v3, e_v3, h⟩ := mw_bind h
    refine mw_getR F hK hI (in_4 _) (hc_4) 0 (by decide) (mA k_56) rfl e_v3 d_M_root_12 ?_
    refine mt_iload_n F hl 1 rfl rfl d_M_root_15 ?_
    obtain ⟨b4, e_b4, h⟩ := mw_bind h
    obtain ⟨o5, e_o5, h⟩ := mw_bind h
    refine mw_calli hI (mw_runV F hK hI (c_N_findRoot l D dA A _ _ _ _ e_o5) (cwV 1 F.2.2.2.2 (gd_V k_173 k_174 k_175 k_176 k_53) rfl rfl rfl hd_N_findRoot ⟨Nat.le_of_ble_eq_true rfl, Nat.le_of_ble_eq_true rfl⟩) (hc_5) e_b4 rfl hl.1 rfl (Nat.zero_le _) d_M_root_16 ⟨(Nat.le_of_ble_eq_true rfl), (Nat.le_of_ble_eq_true rfl)⟩) (fun H locs hI => ?_)
    refine mt_istore F hl (Nat.le_of_ble_eq_true rfl) rfl d_M_root_19 (fun ls hl => ?_)
    have hl : mt_L ls 5 [(4, (.inl o5.1)), (0, (.inr (.inr (some b0)))), (1, (.inl a1)), (2, (.inl a2)), (3, (.inl a3))] := hl
    refine mt_iload_n F hl 3 rfl rfl d_M_root_21 ?_
    refine lv_if_ne (tgt := 109) F.1 F.2.1 d_M_root_22 (by decide) (fun hc => ?_) (fun hc => ?_)
    · rw [if_neg hc] at h
      refine mt_iload F hl 0 rfl d_M_root_109 ?_
      refine lv_if_ge (tgt := 162) F.1 F.2.1 d_M_root_111 (by decide) (fun hc => ?_) (fun hc => ?_)
      · rw [if_pos hc] at h
        refine mt_aload_n F hl 1 rfl rfl d_M_root_162 ?_
        obtain ⟨v6, e_v6, h⟩ := mw_bind h
        refine mw_getR F hK hI (in_4 _) (hc_4) 0 (by decide) (mA k_56) rfl e_v6 d_M_root_163 ?_
        obtain ⟨v7, e_v7, h⟩ := mw_bind h
        refine mw_getR F hK hI (in_5 _) (hc_5) 5 (by decide) (mA k_177) rfl e_v7 d_M_root_166 ?_
        refine mt_iload F hl 0 rfl d_M_root_169 ?_
        refine mt_iload_n F hl 3 rfl rfl d_M_root_171 ?_
        refine mt_iload_n F hl 4 rfl rfl d_M_root_172 ?_
        obtain ⟨o8, e_o8, h⟩ := mw_bind h
        refine mw_calll hI (mw_runS F hK hI (c_M_value l D dA A _ _ _ _ e_o8) (cwS 2 F.2.2.2.2 (gd_S k_150 k_151 k_152 k_130) rfl rfl rfl hd_M_value ⟨Nat.le_of_ble_eq_true rfl, Nat.le_of_ble_eq_true rfl⟩) rfl hl.1 rfl (by simp [mw_cat, mw_cI, mw_cL]) d_M_root_173 ⟨(Nat.le_of_ble_eq_true rfl), (Nat.le_of_ble_eq_true rfl)⟩) (fun H locs hI => ?_)
        obtain ⟨S9, e_S9, h⟩ := mw_bind h
        refine mw_last F hK hI (t0 := 1) rfl e_S9 d_M_root_176 (fun H locs hI => ?_)
        refine mt_aload_n F hl 1 rfl rfl d_M_root_177 ?_
        obtain ⟨v10, e_v10, h⟩ := mw_bind h
        refine mw_getR F hK hI (in_4 _) (hc_4) 0 (by decide) (mA k_56) rfl e_v10 d_M_root_178 ?_
        obtain ⟨v11, e_v11, h⟩ := mw_bind h
        refine mw_getI F hK hI (in_5 _) (hc_5) 6 (by decide) (mA k_178) rfl e_v11 d_M_root_181 ?_
        exact mw_iret F hI hr hlk h (Nat.le_of_ble_eq_true rfl) (Nat.le_of_ble_eq_true rfl) d_M_root_184
      · rw [if_neg hc] at h
        refine mt_aload_n F hl 1 rfl rfl d_M_root_114 ?_
        obtain ⟨v12, e_v12, h⟩ := mw_bind h
        refine mw_getR F hK hI (in_4 _) (hc_4) 0 (by decide) (mA k_56) rfl e_v12 d_M_root_115 ?_
        obtain ⟨v13, e_v13, h⟩ := mw_bind h
        refine mw_getI F hK hI (in_5 _) (hc_5) 6 (by decide) (mA k_178) rfl e_v13 d_M_root_118 ?_
        refine lv_bipush (v := 12) F.1 F.2.1 d_M_root_121 (by decide) ?_
        refine lv_icmp_ne (tgt := 129) F.1 F.2.1 d_M_root_123 (by decide) (fun hc => ?_) (fun hc => ?_)
        · rw [if_neg hc] at h
          refine mt_aload_n F hl 1 rfl rfl d_M_root_129 ?_
          obtain ⟨v14, e_v14, h⟩ := mw_bind h
          refine mw_getR F hK hI (in_4 _) (hc_4) 0 (by decide) (mA k_56) rfl e_v14 d_M_root_130 ?_
          obtain ⟨v15, e_v15, h⟩ := mw_bind h
          refine mw_getI F hK hI (in_5 _) (hc_5) 6 (by decide) (mA k_178) rfl e_v15 d_M_root_133 ?_
          refine mt_istore F hl (Nat.le_of_ble_eq_true rfl) rfl d_M_root_136 (fun ls hl => ?_)
          have hl : mt_L ls 5 [(4, (.inl v15)), (0, (.inr (.inr (some b0)))), (1, (.inl a1)), (2, (.inl a2)), (3, (.inl a3))] := hl
          refine mt_aload_n F hl 1 rfl rfl d_M_root_138 ?_
          obtain ⟨v16, e_v16, h⟩ := mw_bind h
          refine mw_getR F hK hI (in_4 _) (hc_4) 0 (by decide) (mA k_56) rfl e_v16 d_M_root_139 ?_
          refine lv_dup F.1 F.2.1 d_M_root_142 (mw_cat _) ?_
          obtain ⟨v17, e_v17, h⟩ := mw_bind h
          refine mw_getI F hK hI (in_5 _) (hc_5) 6 (by decide) (mA k_178) rfl e_v17 d_M_root_143 ?_
          refine lv_iconst (v := 1) F.1 F.2.1 d_M_root_146 (by decide) ?_
          refine lv_iadd F.1 F.2.1 d_M_root_147 ?_
          obtain ⟨S18, e_S18, h⟩ := mw_bind h
          refine mw_put F hK hI (in_5 _) ty_5 ok_5 nm_5 (hc_5) 6 (by decide) (mA k_178) rfl rfl rfl rfl e_S18 d_M_root_148 (fun H locs hI => ?_)
          refine mt_aload_n F hl 1 rfl rfl d_M_root_151 ?_
          obtain ⟨v19, e_v19, h⟩ := mw_bind h
          refine mw_getR F hK hI (in_4 _) (hc_4) 0 (by decide) (mA k_56) rfl e_v19 d_M_root_152 ?_
          obtain ⟨v20, e_v20, h⟩ := mw_bind h
          refine mw_getR F hK hI (in_5 _) (hc_5) 3 (by decide) (mA k_179) rfl e_v20 d_M_root_155 ?_
          refine mt_iload F hl 0 rfl d_M_root_158 ?_
          refine mt_iload_n F hl 2 rfl rfl d_M_root_160 ?_
          obtain ⟨S21, e_S21, h⟩ := mw_bind h
          refine mw_iast F hK hI (t0 := 0) rfl e_S21 d_M_root_161 (fun H locs hI => ?_)
          refine mt_aload_n F hl 1 rfl rfl d_M_root_162 ?_
          obtain ⟨v22, e_v22, h⟩ := mw_bind h
          refine mw_getR F hK hI (in_4 _) (hc_4) 0 (by decide) (mA k_56) rfl e_v22 d_M_root_163 ?_
          obtain ⟨v23, e_v23, h⟩ := mw_bind h
          refine mw_getR F hK hI (in_5 _) (hc_5) 5 (by decide) (mA k_177) rfl e_v23 d_M_root_166 ?_
          refine mt_iload F hl 0 rfl d_M_root_169 ?_
          refine mt_iload_n F hl 3 rfl rfl d_M_root_171 ?_
          refine mt_iload_n F hl 4 rfl rfl d_M_root_172 ?_
          obtain ⟨o24, e_o24, h⟩ := mw_bind h
          refine mw_calll hI (mw_runS F hK hI (c_M_value l D dA A _ _ _ _ e_o24) (cwS 2 F.2.2.2.2 (gd_S k_150 k_151 k_152 k_130) rfl rfl rfl hd_M_value ⟨Nat.le_of_ble_eq_true rfl, Nat.le_of_ble_eq_true rfl⟩) rfl hl.1 rfl (by simp [mw_cat, mw_cI, mw_cL]) d_M_root_173 ⟨(Nat.le_of_ble_eq_true rfl), (Nat.le_of_ble_eq_true rfl)⟩) (fun H locs hI => ?_)
          obtain ⟨S25, e_S25, h⟩ := mw_bind h
          refine mw_last F hK hI (t0 := 1) rfl e_S25 d_M_root_176 (fun H locs hI => ?_)
          refine mt_aload_n F hl 1 rfl rfl d_M_root_177 ?_
          obtain ⟨v26, e_v26, h⟩ := mw_bind h
          refine mw_getR F hK hI (in_4 _) (hc_4) 0 (by decide) (mA k_56) rfl e_v26 d_M_root_178 ?_
          obtain ⟨v27, e_v27, h⟩ := mw_bind h
          refine mw_getI F hK hI (in_5 _) (hc_5) 6 (by decide) (mA k_178) rfl e_v27 d_M_root_181 ?_
          exact mw_iret F hI hr hlk h (Nat.le_of_ble_eq_true rfl) (Nat.le_of_ble_eq_true rfl) d_M_root_184
        · rw [if_pos hc] at h
          refine lv_bipush (v := (-3)) F.1 F.2.1 d_M_root_126 (by decide) ?_
          exact mw_iret F hI hr hlk h (Nat.le_of_ble_eq_true rfl) (Nat.le_of_ble_eq_true rfl) d_M_root_128
    · rw [if_pos hc] at h
      refine mt_iload F hl 0 rfl d_M_root_25 ?_
      refine lv_if_ge (tgt := 38) F.1 F.2.1 d_M_root_27 (by decide) (fun hc => ?_) (fun hc => ?_)
      · rw [if_pos hc] at h
        refine mt_aload_n F hl 1 rfl rfl d_M_root_38 ?_
        obtain ⟨v28, e_v28, h⟩ := mw_bind h
        refine mw_getR F hK hI (in_4 _) (hc_4) 0 (by decide) (mA k_56) rfl e_v28 d_M_root_39 ?_
        refine lv_dup F.1 F.2.1 d_M_root_42 (mw_cat _) ?_
        obtain ⟨v29, e_v29, h⟩ := mw_bind h
        refine mw_getI F hK hI (in_5 _) (hc_5) 6 (by decide) (mA k_178) rfl e_v29 d_M_root_43 ?_
        refine lv_iconst (v := 1) F.1 F.2.1 d_M_root_46 (by decide) ?_
        refine lv_isub F.1 F.2.1 d_M_root_47 ?_
        obtain ⟨S30, e_S30, h⟩ := mw_bind h
        refine mw_put F hK hI (in_5 _) ty_5 ok_5 nm_5 (hc_5) 6 (by decide) (mA k_178) rfl rfl rfl rfl e_S30 d_M_root_48 (fun H locs hI => ?_)
        refine mt_aload_n F hl 1 rfl rfl d_M_root_51 ?_
        obtain ⟨v31, e_v31, h⟩ := mw_bind h
        refine mw_getR F hK hI (in_4 _) (hc_4) 0 (by decide) (mA k_56) rfl e_v31 d_M_root_52 ?_
        obtain ⟨v32, e_v32, h⟩ := mw_bind h
        refine mw_getR F hK hI (in_5 _) (hc_5) 3 (by decide) (mA k_179) rfl e_v32 d_M_root_55 ?_
        refine mt_iload F hl 0 rfl d_M_root_58 ?_
        refine mt_aload_n F hl 1 rfl rfl d_M_root_60 ?_
        obtain ⟨v33, e_v33, h⟩ := mw_bind h
        refine mw_getR F hK hI (in_4 _) (hc_4) 0 (by decide) (mA k_56) rfl e_v33 d_M_root_61 ?_
        obtain ⟨v34, e_v34, h⟩ := mw_bind h
        refine mw_getR F hK hI (in_5 _) (hc_5) 3 (by decide) (mA k_179) rfl e_v34 d_M_root_64 ?_
        refine mt_aload_n F hl 1 rfl rfl d_M_root_67 ?_
        obtain ⟨v35, e_v35, h⟩ := mw_bind h
        refine mw_getR F hK hI (in_4 _) (hc_4) 0 (by decide) (mA k_56) rfl e_v35 d_M_root_68 ?_
        obtain ⟨v36, e_v36, h⟩ := mw_bind h
        refine mw_getI F hK hI (in_5 _) (hc_5) 6 (by decide) (mA k_178) rfl e_v36 d_M_root_71 ?_
        obtain ⟨v37, e_v37, h⟩ := mw_bind h
        refine mw_iald F hK hI (t0 := 0) rfl e_v37 d_M_root_74 ?_
        obtain ⟨S38, e_S38, h⟩ := mw_bind h
        refine mw_iast F hK hI (t0 := 0) rfl e_S38 d_M_root_75 (fun H locs hI => ?_)
        refine mt_aload_n F hl 1 rfl rfl d_M_root_76 ?_
        obtain ⟨v39, e_v39, h⟩ := mw_bind h
        refine mw_getR F hK hI (in_4 _) (hc_4) 0 (by decide) (mA k_56) rfl e_v39 d_M_root_77 ?_
        obtain ⟨v40, e_v40, h⟩ := mw_bind h
        refine mw_getR F hK hI (in_5 _) (hc_5) 5 (by decide) (mA k_177) rfl e_v40 d_M_root_80 ?_
        refine mt_iload F hl 0 rfl d_M_root_83 ?_
        refine mt_aload_n F hl 1 rfl rfl d_M_root_85 ?_
        obtain ⟨v41, e_v41, h⟩ := mw_bind h
        refine mw_getR F hK hI (in_4 _) (hc_4) 0 (by decide) (mA k_56) rfl e_v41 d_M_root_86 ?_
        obtain ⟨v42, e_v42, h⟩ := mw_bind h
        refine mw_getR F hK hI (in_5 _) (hc_5) 5 (by decide) (mA k_177) rfl e_v42 d_M_root_89 ?_
        refine mt_aload_n F hl 1 rfl rfl d_M_root_92 ?_
        obtain ⟨v43, e_v43, h⟩ := mw_bind h
        refine mw_getR F hK hI (in_4 _) (hc_4) 0 (by decide) (mA k_56) rfl e_v43 d_M_root_93 ?_
        obtain ⟨v44, e_v44, h⟩ := mw_bind h
        refine mw_getI F hK hI (in_5 _) (hc_5) 6 (by decide) (mA k_178) rfl e_v44 d_M_root_96 ?_
        obtain ⟨v45, e_v45, h⟩ := mw_bind h
        refine mw_lald F hK hI (t0 := 1) rfl e_v45 d_M_root_99 ?_
        obtain ⟨S46, e_S46, h⟩ := mw_bind h
        refine mw_last F hK hI (t0 := 1) rfl e_S46 d_M_root_100 (fun H locs hI => ?_)
        refine mt_aload_n F hl 1 rfl rfl d_M_root_101 ?_
        obtain ⟨v47, e_v47, h⟩ := mw_bind h
        refine mw_getR F hK hI (in_4 _) (hc_4) 0 (by decide) (mA k_56) rfl e_v47 d_M_root_102 ?_
        obtain ⟨v48, e_v48, h⟩ := mw_bind h
        refine mw_getI F hK hI (in_5 _) (hc_5) 6 (by decide) (mA k_178) rfl e_v48 d_M_root_105 ?_
        exact mw_iret F hI hr hlk h (Nat.le_of_ble_eq_true rfl) (Nat.le_of_ble_eq_true rfl) d_M_root_108
      · rw [if_neg hc] at h
        refine mt_aload_n F hl 1 rfl rfl d_M_root_30 ?_
        obtain ⟨v49, e_v49, h⟩ := mw_bind h
        refine mw_getR F hK hI (in_4 _) (hc_4) 0 (by decide) (mA k_56) rfl e_v49 d_M_root_31 ?_
        obtain ⟨v50, e_v50, h⟩ := mw_bind h
        refine mw_getI F hK hI (in_5 _) (hc_5) 6 (by decide) (mA k_178) rfl e_v50 d_M_root_34 ?_
        exact mw_iret F hI hr hlk h (Nat.le_of_ble_eq_true rfl) (Nat.le_of_ble_eq_true rfl) d_M_root_37
  · rw [if_pos hc] at h
    refine lv_iconst (v := (-1)) F.1 F.2.1 d_M_root_9 (by decide) ?_
    exact mw_iret F hI hr hlk h (Nat.le_of_ble_eq_true rfl) (Nat.le_of_ble_eq_true rfl) d_M_root_10
abbrev rm_K_rooted : Room := { frames := 2, cells := 0, slots := 0, locals := 44 }
set_option maxHeartbeats 4000000 in
set_option maxRecDepth 100000 in
theorem c_K_rooted (l : Launch) (D : va_G) (dA : Nat → ClassId) (A : Nat → Prop) (b0 : Nat) (a1 : Int32) (S : mc_S) (out : (Int64 × mc_S)) (hf : f_K_rooted b0 a1 S = some out) : Met l y_K_rooted (cd_K_rooted :: ALL) rm_K_rooted (va_Pc [va_rf (some b0), .int a1] (mw_B D dA CL (TY dA) ZZ A S)) (va_Ql (fun x (_ : Unit) => x = out.1) (fun _ t => mw_R D dA CL A out.2 t) A) 0 0 A := by
  refine mw_ofW (cc := b_K_rooted) (maxL := 2) (ret := (some .long)) [(.inr (.inr (some b0))), (.inl a1)] rfl (by decide +kernel) (Nat.le_of_ble_eq_true rfl) (L := [(0, (.inr (.inr (some b0)))), (1, (.inl a1))]) rfl (fun p e s m args below meth c F hr hlk hnm hK ls hl hI => ?_)
  have h := hf
  unfold f_K_rooted at h
  refine mt_aload_n F hl 0 rfl rfl d_K_rooted_0 ?_
  obtain ⟨v1, e_v1, h⟩ := mw_bind h
  refine mw_getR F hK hI (in_0 _) (hc_0) 0 (by decide) (mA k_42) rfl e_v1 d_K_rooted_1 ?_
  obtain ⟨v2, e_v2, h⟩ := mw_bind h
  refine mw_getR F hK hI (in_2 _) (hc_2) 1 (by decide) (mA k_167) rfl e_v2 d_K_rooted_4 ?_
  refine mt_iload_n F hl 1 rfl rfl d_K_rooted_7 ?_
  obtain ⟨b3, e_b3, h⟩ := mw_bind h
  obtain ⟨o4, e_o4, h⟩ := mw_bind h
  refine mw_calll hI (mw_runV F hK hI (c_S_named l D dA A _ _ _ _ e_o4) (cwV 1 F.2.2.2.2 (gd_V k_154 k_155 k_156 k_157 k_33) rfl rfl rfl hd_S_named ⟨Nat.le_of_ble_eq_true rfl, Nat.le_of_ble_eq_true rfl⟩) (hc_1) e_b3 rfl hl.1 rfl (Nat.zero_le _) d_K_rooted_8 ⟨(Nat.le_of_ble_eq_true rfl), (Nat.le_of_ble_eq_true rfl)⟩) (fun H locs hI => ?_)
  exact mw_lret F hI hr hlk h (Nat.le_of_ble_eq_true rfl) (Nat.le_of_ble_eq_true rfl) d_K_rooted_11
abbrev rm_M_rooted : Room := { frames := 1, cells := 0, slots := 0, locals := 22 }
set_option maxHeartbeats 4000000 in
set_option maxRecDepth 100000 in
theorem c_M_rooted (l : Launch) (D : va_G) (dA : Nat → ClassId) (A : Nat → Prop) (b0 : Nat) (a1 : Int32) (S : mc_S) (out : (Int64 × mc_S)) (hf : f_M_rooted b0 a1 S = some out) : Met l y_M_rooted (cd_M_rooted :: ALL) rm_M_rooted (va_Pc [va_rf (some b0), .int a1] (mw_B D dA CL (TY dA) ZZ A S)) (va_Ql (fun x (_ : Unit) => x = out.1) (fun _ t => mw_R D dA CL A out.2 t) A) 0 0 A := by
  refine mw_ofW (cc := b_M_rooted) (maxL := 3) (ret := (some .long)) [(.inr (.inr (some b0))), (.inl a1)] rfl (by decide +kernel) (Nat.le_of_ble_eq_true rfl) (L := [(0, (.inr (.inr (some b0)))), (1, (.inl a1))]) rfl (fun p e s m args below meth c F hr hlk hnm hK ls hl hI => ?_)
  have h := hf
  unfold f_M_rooted at h
  refine mt_aload_n F hl 0 rfl rfl d_M_rooted_0 ?_
  obtain ⟨v1, e_v1, h⟩ := mw_bind h
  refine mw_getR F hK hI (in_4 _) (hc_4) 0 (by decide) (mA k_56) rfl e_v1 d_M_rooted_1 ?_
  refine mt_iload_n F hl 1 rfl rfl d_M_rooted_4 ?_
  obtain ⟨b2, e_b2, h⟩ := mw_bind h
  obtain ⟨o3, e_o3, h⟩ := mw_bind h
  refine mw_calli hI (mw_runV F hK hI (c_N_findRoot l D dA A _ _ _ _ e_o3) (cwV 1 F.2.2.2.2 (gd_V k_173 k_174 k_175 k_176 k_53) rfl rfl rfl hd_N_findRoot ⟨Nat.le_of_ble_eq_true rfl, Nat.le_of_ble_eq_true rfl⟩) (hc_5) e_b2 rfl hl.1 rfl (Nat.zero_le _) d_M_rooted_5 ⟨(Nat.le_of_ble_eq_true rfl), (Nat.le_of_ble_eq_true rfl)⟩) (fun H locs hI => ?_)
  refine mt_istore_n F hl rfl (Nat.le_of_ble_eq_true rfl) rfl d_M_rooted_8 (fun ls hl => ?_)
  have hl : mt_L ls 3 [(2, (.inl o3.1)), (0, (.inr (.inr (some b0)))), (1, (.inl a1))] := hl
  refine mt_iload_n F hl 0 rfl rfl d_M_rooted_9 ?_
  refine lv_if_ge (tgt := 19) F.1 F.2.1 d_M_rooted_10 (by decide) (fun hc => ?_) (fun hc => ?_)
  · rw [if_pos hc] at h
    refine mt_aload_n F hl 1 rfl rfl d_M_rooted_19 ?_
    obtain ⟨v4, e_v4, h⟩ := mw_bind h
    refine mw_getR F hK hI (in_4 _) (hc_4) 0 (by decide) (mA k_56) rfl e_v4 d_M_rooted_20 ?_
    obtain ⟨v5, e_v5, h⟩ := mw_bind h
    refine mw_getR F hK hI (in_5 _) (hc_5) 5 (by decide) (mA k_177) rfl e_v5 d_M_rooted_23 ?_
    refine mt_iload_n F hl 0 rfl rfl d_M_rooted_26 ?_
    obtain ⟨v6, e_v6, h⟩ := mw_bind h
    refine mw_lald F hK hI (t0 := 1) rfl e_v6 d_M_rooted_27 ?_
    exact mw_lret F hI hr hlk h (Nat.le_of_ble_eq_true rfl) (Nat.le_of_ble_eq_true rfl) d_M_rooted_28
  · rw [if_neg hc] at h
    refine lv_ldc2 (v := 1099511627776) F.1 F.2.1 F.2.2.2.1 (F.2.2.2.2 _ (mA k_136)) d_M_rooted_13 ?_
    refine lv_goto (tgt := 28) F.1 F.2.1 d_M_rooted_16 (by decide) ?_
    exact mw_lret F hI hr hlk h (Nat.le_of_ble_eq_true rfl) (Nat.le_of_ble_eq_true rfl) d_M_rooted_28
abbrev rm_S_sameAs : Room := { frames := 0, cells := 0, slots := 0, locals := 0 }
set_option maxHeartbeats 4000000 in
set_option maxRecDepth 100000 in
theorem s_S_sameAs (l : Launch) (D : va_G) (dA : Nat → ClassId) (A : Nat → Prop) (b0 : Nat) {p : Program} {e : Env} {s : State} {m : MethodId} {args : Array Value} {below : List Frame} {meth : Method} {c : Code} (F : CallFix p m c b_S_sameAs 3 s args (cd_S_sameAs :: ALL) y_S_sameAs.cls) (hr : meth.sig.returnType = (some .boolean)) (hlk : meth.locks = false) (hnm : meth.name = y_S_sameAs.name) (hK : mw_K D CL (TY dA) ZZ s) (out : (Int32 × mc_S)) : ∀ n : Nat, (∀ (r1 : Option Nat) (x2 : Int32) (S : mc_S) (H : Heap) (locs : List Loc) (ls : Array Slot), mw_I D dA CL A S s.heap H locs → mt_L ls 3 [(0, (.inr (.inr (some b0)))), (1, (.inr (.inr r1))), (2, (.inl x2))] → g_S_sameAs b0 n r1 x2 S = some out → W p l e rm_S_sameAs s m args below meth c H locs (0) (0) (MQ below (va_Qi (fun x (_ : Unit) => x = out.1) (fun _ t => mw_R D dA CL A out.2 t) A) args s 0 0 A) (F0 m 30 ls [])) := by
  intro n
  induction n with
  | zero =>
    intro r1 x2 S H locs ls hI hl h; have h : (none : Option (Int32 × mc_S)) = some out := h; cases h
  | succ k0 ih =>
    intro r1 x2 S H locs ls hI hl h
    have h : q_S_sameAs_0 b0 (g_S_sameAs b0 k0) r1 x2 S = some out := h
    unfold q_S_sameAs_0 at h
    refine mt_iload_n F hl 2 rfl rfl d_S_sameAs_30 ?_
    refine mt_aload_n F hl 0 rfl rfl d_S_sameAs_31 ?_
    obtain ⟨v1, e_v1, h⟩ := mw_bind h
    refine mw_getI F hK hI (in_1 _) (hc_1) 3 (by decide) (mA k_9) rfl e_v1 d_S_sameAs_32 ?_
    refine lv_icmp_ge (tgt := 77) F.1 F.2.1 d_S_sameAs_35 (by decide) (fun hc => ?_) (fun hc => ?_)
    · rw [if_pos hc] at h
      refine lv_iconst (v := 1) F.1 F.2.1 d_S_sameAs_77 (by decide) ?_
      exact mw_zret F hI hr hlk rfl h (Nat.le_of_ble_eq_true rfl) (Nat.le_of_ble_eq_true rfl) d_S_sameAs_78
    · rw [if_neg hc] at h
      refine mt_aload_n F hl 1 rfl rfl d_S_sameAs_38 ?_
      obtain ⟨v2, e_v2, h⟩ := mw_bind h
      refine mw_getR F hK hI (in_1 _) (hc_1) 1 (by decide) (mA k_11) rfl e_v2 d_S_sameAs_39 ?_
      refine mt_iload_n F hl 2 rfl rfl d_S_sameAs_42 ?_
      obtain ⟨v3, e_v3, h⟩ := mw_bind h
      refine mw_iald F hK hI (t0 := 0) rfl e_v3 d_S_sameAs_43 ?_
      refine mt_aload_n F hl 0 rfl rfl d_S_sameAs_44 ?_
      obtain ⟨v4, e_v4, h⟩ := mw_bind h
      refine mw_getR F hK hI (in_1 _) (hc_1) 1 (by decide) (mA k_11) rfl e_v4 d_S_sameAs_45 ?_
      refine mt_iload_n F hl 2 rfl rfl d_S_sameAs_48 ?_
      obtain ⟨v5, e_v5, h⟩ := mw_bind h
      refine mw_iald F hK hI (t0 := 0) rfl e_v5 d_S_sameAs_49 ?_
      refine lv_icmp_ne (tgt := 69) F.1 F.2.1 d_S_sameAs_50 (by decide) (fun hc => ?_) (fun hc => ?_)
      · rw [if_neg hc] at h
        refine lv_iconst (v := 0) F.1 F.2.1 d_S_sameAs_69 (by decide) ?_
        exact mw_zret F hI hr hlk rfl h (Nat.le_of_ble_eq_true rfl) (Nat.le_of_ble_eq_true rfl) d_S_sameAs_70
      · rw [if_pos hc] at h
        refine mt_aload_n F hl 1 rfl rfl d_S_sameAs_53 ?_
        obtain ⟨v6, e_v6, h⟩ := mw_bind h
        refine mw_getR F hK hI (in_1 _) (hc_1) 2 (by decide) (mA k_13) rfl e_v6 d_S_sameAs_54 ?_
        refine mt_iload_n F hl 2 rfl rfl d_S_sameAs_57 ?_
        obtain ⟨v7, e_v7, h⟩ := mw_bind h
        refine mw_lald F hK hI (t0 := 1) rfl e_v7 d_S_sameAs_58 ?_
        refine mt_aload_n F hl 0 rfl rfl d_S_sameAs_59 ?_
        obtain ⟨v8, e_v8, h⟩ := mw_bind h
        refine mw_getR F hK hI (in_1 _) (hc_1) 2 (by decide) (mA k_13) rfl e_v8 d_S_sameAs_60 ?_
        refine mt_iload_n F hl 2 rfl rfl d_S_sameAs_63 ?_
        obtain ⟨v9, e_v9, h⟩ := mw_bind h
        refine mw_lald F hK hI (t0 := 1) rfl e_v9 d_S_sameAs_64 ?_
        refine W.lcmp F.1 F.2.1 d_S_sameAs_65 ?_
        refine lv_if_eq (tgt := 71) F.1 F.2.1 d_S_sameAs_66 (by decide) (fun hc => ?_) (fun hc => ?_)
        · rw [if_pos hc] at h
          refine mt_iinc (v := (x2 + 1)) F hl 2 rfl (by rw [show Int32.ofInt 1 = (1 : Int32) from by decide]) (Nat.le_of_ble_eq_true rfl) rfl d_S_sameAs_71 (fun ls hl => ?_)
          have hl : mt_L ls 3 [(2, (.inl (x2 + 1))), (0, (.inr (.inr (some b0)))), (1, (.inr (.inr r1)))] := hl
          refine lv_goto (tgt := 30) F.1 F.2.1 d_S_sameAs_74 (by decide) ?_
          refine W.widen (k := 0) (n := 0) (Nat.le_of_ble_eq_true rfl) (Nat.le_of_ble_eq_true rfl) ?_
          exact ih _ _ _ _ _ _ hI (mt_sub hl [1, 2, 0] rfl) h
        · rw [if_neg hc] at h
          refine lv_iconst (v := 0) F.1 F.2.1 d_S_sameAs_69 (by decide) ?_
          exact mw_zret F hI hr hlk rfl h (Nat.le_of_ble_eq_true rfl) (Nat.le_of_ble_eq_true rfl) d_S_sameAs_70
set_option maxHeartbeats 4000000 in
set_option maxRecDepth 100000 in
theorem c_S_sameAs (l : Launch) (D : va_G) (dA : Nat → ClassId) (A : Nat → Prop) (b0 : Nat) (a1 : Option Nat) (S : mc_S) (out : (Int32 × mc_S)) (hf : f_S_sameAs b0 a1 S = some out) : Met l y_S_sameAs (cd_S_sameAs :: ALL) rm_S_sameAs (va_Pc [va_rf (some b0), va_rf a1] (mw_B D dA CL (TY dA) ZZ A S)) (va_Qi (fun x (_ : Unit) => x = out.1) (fun _ t => mw_R D dA CL A out.2 t) A) 0 0 A := by
  refine mw_ofW (cc := b_S_sameAs) (maxL := 3) (ret := (some .boolean)) [(.inr (.inr (some b0))), (.inr (.inr a1))] rfl (by decide +kernel) (Nat.le_of_ble_eq_true rfl) (L := [(0, (.inr (.inr (some b0)))), (1, (.inr (.inr a1)))]) rfl (fun p e s m args below meth c F hr hlk hnm hK ls hl hI => ?_)
  have h := hf
  unfold f_S_sameAs at h
  refine mt_aload_n F hl 1 rfl rfl d_S_sameAs_0 ?_
  refine mw_ifnull (tgt := 26) F d_S_sameAs_1 (by decide) (fun hc => ?_) (fun hc => ?_)
  · rw [if_pos hc] at h
    refine lv_iconst (v := 0) F.1 F.2.1 d_S_sameAs_26 (by decide) ?_
    exact mw_zret F hI hr hlk rfl h (Nat.le_of_ble_eq_true rfl) (Nat.le_of_ble_eq_true rfl) d_S_sameAs_27
  · rw [if_neg hc] at h
    refine mt_aload_n F hl 1 rfl rfl d_S_sameAs_4 ?_
    obtain ⟨v1, e_v1, h⟩ := mw_bind h
    refine mw_getI F hK hI (in_1 _) (hc_1) 0 (by decide) (mA k_10) rfl e_v1 d_S_sameAs_5 ?_
    refine mt_aload_n F hl 0 rfl rfl d_S_sameAs_8 ?_
    obtain ⟨v2, e_v2, h⟩ := mw_bind h
    refine mw_getI F hK hI (in_1 _) (hc_1) 0 (by decide) (mA k_10) rfl e_v2 d_S_sameAs_9 ?_
    refine lv_icmp_ne (tgt := 26) F.1 F.2.1 d_S_sameAs_12 (by decide) (fun hc => ?_) (fun hc => ?_)
    · rw [if_neg hc] at h
      refine lv_iconst (v := 0) F.1 F.2.1 d_S_sameAs_26 (by decide) ?_
      exact mw_zret F hI hr hlk rfl h (Nat.le_of_ble_eq_true rfl) (Nat.le_of_ble_eq_true rfl) d_S_sameAs_27
    · rw [if_pos hc] at h
      refine mt_aload_n F hl 1 rfl rfl d_S_sameAs_15 ?_
      obtain ⟨v3, e_v3, h⟩ := mw_bind h
      refine mw_getI F hK hI (in_1 _) (hc_1) 3 (by decide) (mA k_9) rfl e_v3 d_S_sameAs_16 ?_
      refine mt_aload_n F hl 0 rfl rfl d_S_sameAs_19 ?_
      obtain ⟨v4, e_v4, h⟩ := mw_bind h
      refine mw_getI F hK hI (in_1 _) (hc_1) 3 (by decide) (mA k_9) rfl e_v4 d_S_sameAs_20 ?_
      refine lv_icmp_eq (tgt := 28) F.1 F.2.1 d_S_sameAs_23 (by decide) (fun hc => ?_) (fun hc => ?_)
      · rw [if_pos hc] at h
        refine lv_iconst (v := 0) F.1 F.2.1 d_S_sameAs_28 (by decide) ?_
        refine mt_istore_n F hl rfl (Nat.le_of_ble_eq_true rfl) rfl d_S_sameAs_29 (fun ls hl => ?_)
        have hl : mt_L ls 3 [(2, (.inl 0)), (0, (.inr (.inr (some b0)))), (1, (.inr (.inr a1)))] := hl
        refine W.widen (k := 0) (n := 0) (Nat.le_of_ble_eq_true rfl) (Nat.le_of_ble_eq_true rfl) ?_
        exact (s_S_sameAs l D dA A b0 F hr hlk hnm hK out 5000) _ _ _ _ _ _ hI (mt_sub hl [1, 2, 0] rfl) h
      · rw [if_neg hc] at h
        refine lv_iconst (v := 0) F.1 F.2.1 d_S_sameAs_26 (by decide) ?_
        exact mw_zret F hI hr hlk rfl h (Nat.le_of_ble_eq_true rfl) (Nat.le_of_ble_eq_true rfl) d_S_sameAs_27
abbrev rm_S_namesChangedFrom : Room := { frames := 2, cells := 0, slots := 0, locals := 44 }
set_option maxHeartbeats 4000000 in
set_option maxRecDepth 100000 in
theorem s_S_namesChangedFrom (l : Launch) (D : va_G) (dA : Nat → ClassId) (A : Nat → Prop) (b0 : Nat) {p : Program} {e : Env} {s : State} {m : MethodId} {args : Array Value} {below : List Frame} {meth : Method} {c : Code} (F : CallFix p m c b_S_namesChangedFrom 4 s args (cd_S_namesChangedFrom :: ALL) y_S_namesChangedFrom.cls) (hr : meth.sig.returnType = (some .int)) (hlk : meth.locks = false) (hnm : meth.name = y_S_namesChangedFrom.name) (hK : mw_K D CL (TY dA) ZZ s) (out : (Int32 × mc_S)) : ∀ n : Nat, (∀ (r1 : Option Nat) (x2 : Int32) (x3 : Int32) (S : mc_S) (H : Heap) (locs : List Loc) (ls : Array Slot), mw_I D dA CL A S s.heap H locs → mt_L ls 4 [(0, (.inr (.inr (some b0)))), (1, (.inr (.inr r1))), (2, (.inl x2)), (3, (.inl x3))] → g_S_namesChangedFrom b0 n 0 r1 x2 x3 S = some out → W p l e rm_S_namesChangedFrom s m args below meth c H locs (0) (0) (MQ below (va_Qi (fun x (_ : Unit) => x = out.1) (fun _ t => mw_R D dA CL A out.2 t) A) args s 0 0 A) (F0 m 4 ls [])) ∧ (∀ (r1 : Option Nat) (x2 : Int32) (x3 : Int32) (S : mc_S) (H : Heap) (locs : List Loc) (ls : Array Slot), mw_I D dA CL A S s.heap H locs → mt_L ls 4 [(0, (.inr (.inr (some b0)))), (1, (.inr (.inr r1))), (2, (.inl x2)), (3, (.inl x3))] → g_S_namesChangedFrom b0 n 1 r1 x2 x3 S = some out → W p l e rm_S_namesChangedFrom s m args below meth c H locs (0) (0) (MQ below (va_Qi (fun x (_ : Unit) => x = out.1) (fun _ t => mw_R D dA CL A out.2 t) A) args s 0 0 A) (F0 m 43 ls [])) := by
  intro n
  induction n with
  | zero =>
    refine ⟨?_, ?_⟩
    · intro r1 x2 x3 S H locs ls hI hl h; have h : (none : Option (Int32 × mc_S)) = some out := h; cases h
    · intro r1 x2 x3 S H locs ls hI hl h; have h : (none : Option (Int32 × mc_S)) = some out := h; cases h
  | succ k0 ih =>
    refine ⟨?_, ?_⟩
    · intro r1 x2 x3 S H locs ls hI hl h
      have h : q_S_namesChangedFrom_0 b0 (g_S_namesChangedFrom b0 k0) r1 x2 x3 S = some out := h
      unfold q_S_namesChangedFrom_0 at h
      refine mt_iload_n F hl 3 rfl rfl d_S_namesChangedFrom_4 ?_
      refine mt_aload_n F hl 0 rfl rfl d_S_namesChangedFrom_5 ?_
      obtain ⟨v1, e_v1, h⟩ := mw_bind h
      refine mw_getI F hK hI (in_1 _) (hc_1) 3 (by decide) (mA k_9) rfl e_v1 d_S_namesChangedFrom_6 ?_
      refine lv_icmp_ge (tgt := 41) F.1 F.2.1 d_S_namesChangedFrom_9 (by decide) (fun hc => ?_) (fun hc => ?_)
      · rw [if_pos hc] at h
        refine lv_iconst (v := 0) F.1 F.2.1 d_S_namesChangedFrom_41 (by decide) ?_
        refine mt_istore_n F hl rfl (Nat.le_of_ble_eq_true rfl) rfl d_S_namesChangedFrom_42 (fun ls hl => ?_)
        have hl : mt_L ls 4 [(3, (.inl 0)), (0, (.inr (.inr (some b0)))), (1, (.inr (.inr r1))), (2, (.inl x2))] := hl
        refine W.widen (k := 0) (n := 0) (Nat.le_of_ble_eq_true rfl) (Nat.le_of_ble_eq_true rfl) ?_
        exact ih.2 _ _ _ _ _ _ _ hI (mt_sub hl [1, 2, 3, 0] rfl) h
      · rw [if_neg hc] at h
        refine mt_aload_n F hl 1 rfl rfl d_S_namesChangedFrom_12 ?_
        refine mt_aload_n F hl 0 rfl rfl d_S_namesChangedFrom_13 ?_
        obtain ⟨v2, e_v2, h⟩ := mw_bind h
        refine mw_getR F hK hI (in_1 _) (hc_1) 1 (by decide) (mA k_11) rfl e_v2 d_S_namesChangedFrom_14 ?_
        refine mt_iload_n F hl 3 rfl rfl d_S_namesChangedFrom_17 ?_
        obtain ⟨v3, e_v3, h⟩ := mw_bind h
        refine mw_iald F hK hI (t0 := 0) rfl e_v3 d_S_namesChangedFrom_18 ?_
        obtain ⟨b4, e_b4, h⟩ := mw_bind h
        obtain ⟨o5, e_o5, h⟩ := mw_bind h
        refine mw_calll hI (mw_runV F hK hI (c_S_named l D dA A _ _ _ _ e_o5) (cwV 1 F.2.2.2.2 (gd_V k_154 k_180 k_156 k_157 k_33) rfl rfl rfl hd_S_named ⟨Nat.le_of_ble_eq_true rfl, Nat.le_of_ble_eq_true rfl⟩) (hc_1) e_b4 rfl hl.1 rfl (Nat.zero_le _) d_S_namesChangedFrom_19 ⟨(Nat.le_of_ble_eq_true rfl), (Nat.le_of_ble_eq_true rfl)⟩) (fun H locs hI => ?_)
        refine mt_aload_n F hl 0 rfl rfl d_S_namesChangedFrom_22 ?_
        obtain ⟨v6, e_v6, h⟩ := mw_bind h
        refine mw_getR F hK hI (in_1 _) (hc_1) 2 (by decide) (mA k_13) rfl e_v6 d_S_namesChangedFrom_23 ?_
        refine mt_iload_n F hl 3 rfl rfl d_S_namesChangedFrom_26 ?_
        obtain ⟨v7, e_v7, h⟩ := mw_bind h
        refine mw_lald F hK hI (t0 := 1) rfl e_v7 d_S_namesChangedFrom_27 ?_
        refine W.lcmp F.1 F.2.1 d_S_namesChangedFrom_28 ?_
        refine lv_if_eq (tgt := 35) F.1 F.2.1 d_S_namesChangedFrom_29 (by decide) (fun hc => ?_) (fun hc => ?_)
        · rw [if_pos hc] at h
          refine mt_iinc (v := (x3 + 1)) F hl 3 rfl (by rw [show Int32.ofInt 1 = (1 : Int32) from by decide]) (Nat.le_of_ble_eq_true rfl) rfl d_S_namesChangedFrom_35 (fun ls hl => ?_)
          have hl : mt_L ls 4 [(3, (.inl (x3 + 1))), (0, (.inr (.inr (some b0)))), (1, (.inr (.inr r1))), (2, (.inl x2))] := hl
          refine lv_goto (tgt := 4) F.1 F.2.1 d_S_namesChangedFrom_38 (by decide) ?_
          refine W.widen (k := 0) (n := 0) (Nat.le_of_ble_eq_true rfl) (Nat.le_of_ble_eq_true rfl) ?_
          exact ih.1 _ _ _ _ _ _ _ hI (mt_sub hl [1, 2, 3, 0] rfl) h
        · rw [if_neg hc] at h
          refine mt_iinc (v := (x2 + 1)) F hl 2 rfl (by rw [show Int32.ofInt 1 = (1 : Int32) from by decide]) (Nat.le_of_ble_eq_true rfl) rfl d_S_namesChangedFrom_32 (fun ls hl => ?_)
          have hl : mt_L ls 4 [(2, (.inl (x2 + 1))), (0, (.inr (.inr (some b0)))), (1, (.inr (.inr r1))), (3, (.inl x3))] := hl
          refine mt_iinc (v := (x3 + 1)) F hl 3 rfl (by rw [show Int32.ofInt 1 = (1 : Int32) from by decide]) (Nat.le_of_ble_eq_true rfl) rfl d_S_namesChangedFrom_35 (fun ls hl => ?_)
          have hl : mt_L ls 4 [(3, (.inl (x3 + 1))), (2, (.inl (x2 + 1))), (0, (.inr (.inr (some b0)))), (1, (.inr (.inr r1)))] := hl
          refine lv_goto (tgt := 4) F.1 F.2.1 d_S_namesChangedFrom_38 (by decide) ?_
          refine W.widen (k := 0) (n := 0) (Nat.le_of_ble_eq_true rfl) (Nat.le_of_ble_eq_true rfl) ?_
          exact ih.1 _ _ _ _ _ _ _ hI (mt_sub hl [2, 3, 1, 0] rfl) h
    · intro r1 x2 x3 S H locs ls hI hl h
      have h : q_S_namesChangedFrom_1 b0 (g_S_namesChangedFrom b0 k0) r1 x2 x3 S = some out := h
      unfold q_S_namesChangedFrom_1 at h
      refine mt_iload_n F hl 3 rfl rfl d_S_namesChangedFrom_43 ?_
      refine mt_aload_n F hl 1 rfl rfl d_S_namesChangedFrom_44 ?_
      obtain ⟨v1, e_v1, h⟩ := mw_bind h
      refine mw_getI F hK hI (in_1 _) (hc_1) 3 (by decide) (mA k_9) rfl e_v1 d_S_namesChangedFrom_45 ?_
      refine lv_icmp_ge (tgt := 77) F.1 F.2.1 d_S_namesChangedFrom_48 (by decide) (fun hc => ?_) (fun hc => ?_)
      · rw [if_pos hc] at h
        refine mt_iload_n F hl 2 rfl rfl d_S_namesChangedFrom_77 ?_
        exact mw_iret F hI hr hlk h (Nat.le_of_ble_eq_true rfl) (Nat.le_of_ble_eq_true rfl) d_S_namesChangedFrom_78
      · rw [if_neg hc] at h
        refine mt_aload_n F hl 0 rfl rfl d_S_namesChangedFrom_51 ?_
        refine mt_aload_n F hl 1 rfl rfl d_S_namesChangedFrom_52 ?_
        obtain ⟨v2, e_v2, h⟩ := mw_bind h
        refine mw_getR F hK hI (in_1 _) (hc_1) 1 (by decide) (mA k_11) rfl e_v2 d_S_namesChangedFrom_53 ?_
        refine mt_iload_n F hl 3 rfl rfl d_S_namesChangedFrom_56 ?_
        obtain ⟨v3, e_v3, h⟩ := mw_bind h
        refine mw_iald F hK hI (t0 := 0) rfl e_v3 d_S_namesChangedFrom_57 ?_
        obtain ⟨b4, e_b4, h⟩ := mw_bind h
        obtain ⟨o5, e_o5, h⟩ := mw_bind h
        refine mw_calll hI (mw_runV F hK hI (c_S_named l D dA A _ _ _ _ e_o5) (cwV 1 F.2.2.2.2 (gd_V k_154 k_180 k_156 k_157 k_33) rfl rfl rfl hd_S_named ⟨Nat.le_of_ble_eq_true rfl, Nat.le_of_ble_eq_true rfl⟩) (hc_1) e_b4 rfl hl.1 rfl (Nat.zero_le _) d_S_namesChangedFrom_58 ⟨(Nat.le_of_ble_eq_true rfl), (Nat.le_of_ble_eq_true rfl)⟩) (fun H locs hI => ?_)
        refine lv_ldc2 (v := 1099511627776) F.1 F.2.1 F.2.2.2.1 (F.2.2.2.2 _ (mA k_105)) d_S_namesChangedFrom_61 ?_
        refine W.lcmp F.1 F.2.1 d_S_namesChangedFrom_64 ?_
        refine lv_if_ne (tgt := 71) F.1 F.2.1 d_S_namesChangedFrom_65 (by decide) (fun hc => ?_) (fun hc => ?_)
        · rw [if_neg hc] at h
          refine mt_iinc (v := (x3 + 1)) F hl 3 rfl (by rw [show Int32.ofInt 1 = (1 : Int32) from by decide]) (Nat.le_of_ble_eq_true rfl) rfl d_S_namesChangedFrom_71 (fun ls hl => ?_)
          have hl : mt_L ls 4 [(3, (.inl (x3 + 1))), (0, (.inr (.inr (some b0)))), (1, (.inr (.inr r1))), (2, (.inl x2))] := hl
          refine lv_goto (tgt := 43) F.1 F.2.1 d_S_namesChangedFrom_74 (by decide) ?_
          refine W.widen (k := 0) (n := 0) (Nat.le_of_ble_eq_true rfl) (Nat.le_of_ble_eq_true rfl) ?_
          exact ih.2 _ _ _ _ _ _ _ hI (mt_sub hl [1, 2, 3, 0] rfl) h
        · rw [if_pos hc] at h
          refine mt_iinc (v := (x2 + 1)) F hl 2 rfl (by rw [show Int32.ofInt 1 = (1 : Int32) from by decide]) (Nat.le_of_ble_eq_true rfl) rfl d_S_namesChangedFrom_68 (fun ls hl => ?_)
          have hl : mt_L ls 4 [(2, (.inl (x2 + 1))), (0, (.inr (.inr (some b0)))), (1, (.inr (.inr r1))), (3, (.inl x3))] := hl
          refine mt_iinc (v := (x3 + 1)) F hl 3 rfl (by rw [show Int32.ofInt 1 = (1 : Int32) from by decide]) (Nat.le_of_ble_eq_true rfl) rfl d_S_namesChangedFrom_71 (fun ls hl => ?_)
          have hl : mt_L ls 4 [(3, (.inl (x3 + 1))), (2, (.inl (x2 + 1))), (0, (.inr (.inr (some b0)))), (1, (.inr (.inr r1)))] := hl
          refine lv_goto (tgt := 43) F.1 F.2.1 d_S_namesChangedFrom_74 (by decide) ?_
          refine W.widen (k := 0) (n := 0) (Nat.le_of_ble_eq_true rfl) (Nat.le_of_ble_eq_true rfl) ?_
          exact ih.2 _ _ _ _ _ _ _ hI (mt_sub hl [2, 3, 1, 0] rfl) h
set_option maxHeartbeats 4000000 in
set_option maxRecDepth 100000 in
theorem c_S_namesChangedFrom (l : Launch) (D : va_G) (dA : Nat → ClassId) (A : Nat → Prop) (b0 : Nat) (a1 : Option Nat) (S : mc_S) (out : (Int32 × mc_S)) (hf : f_S_namesChangedFrom b0 a1 S = some out) : Met l y_S_namesChangedFrom (cd_S_namesChangedFrom :: ALL) rm_S_namesChangedFrom (va_Pc [va_rf (some b0), va_rf a1] (mw_B D dA CL (TY dA) ZZ A S)) (va_Qi (fun x (_ : Unit) => x = out.1) (fun _ t => mw_R D dA CL A out.2 t) A) 0 0 A := by
  refine mw_ofW (cc := b_S_namesChangedFrom) (maxL := 4) (ret := (some .int)) [(.inr (.inr (some b0))), (.inr (.inr a1))] rfl (by decide +kernel) (Nat.le_of_ble_eq_true rfl) (L := [(0, (.inr (.inr (some b0)))), (1, (.inr (.inr a1)))]) rfl (fun p e s m args below meth c F hr hlk hnm hK ls hl hI => ?_)
  have h := hf
  unfold f_S_namesChangedFrom at h
  refine lv_iconst (v := 0) F.1 F.2.1 d_S_namesChangedFrom_0 (by decide) ?_
  refine mt_istore_n F hl rfl (Nat.le_of_ble_eq_true rfl) rfl d_S_namesChangedFrom_1 (fun ls hl => ?_)
  have hl : mt_L ls 4 [(2, (.inl 0)), (0, (.inr (.inr (some b0)))), (1, (.inr (.inr a1)))] := hl
  refine lv_iconst (v := 0) F.1 F.2.1 d_S_namesChangedFrom_2 (by decide) ?_
  refine mt_istore_n F hl rfl (Nat.le_of_ble_eq_true rfl) rfl d_S_namesChangedFrom_3 (fun ls hl => ?_)
  have hl : mt_L ls 4 [(3, (.inl 0)), (2, (.inl 0)), (0, (.inr (.inr (some b0)))), (1, (.inr (.inr a1)))] := hl
  refine W.widen (k := 0) (n := 0) (Nat.le_of_ble_eq_true rfl) (Nat.le_of_ble_eq_true rfl) ?_
  exact (s_S_namesChangedFrom l D dA A b0 F hr hlk hnm hK out 5000).1 _ _ _ _ _ _ _ hI (mt_sub hl [2, 3, 1, 0] rfl) h
