set_option maxRecDepth 100000 in
set_option maxHeartbeats 4000000 in
theorem m_append (l : Launch) (D : va_G) (ct : Nat → ClassId) (S : ty_S) (ws : va_W) (ph : va_W → Prop) (xx : Nat → Nat → Nat → Prop) (mo : Nat) (mw : Nat) (ma : Nat) (mf : Nat) (m0 : Nat) (m1 : Nat) (mu : Nat) (mv : Nat) (u0 : Nat) (u1 : Nat) (iz : Nat) (mb : Nat) (th : Int32) (mn : Int32) (mpt : Int32) (mbg : Int32) (mwr : Int32) (mwk : Int32) (mlf : Int32) (men : Int32) (b : Nat → Int32) (p1 : Int64) (sz : Nat) (hT : ty_V ct S ph ws) (hph : ty_C ph xx) (hy1 : ty_y1 xx) (hmn : 0 ≤ mn.toInt ∧ mn.toInt ≤ 800) : Met l yX11_append (ws_ yX11_append cX11_append 6 (some .int)) ({ frames := 0, cells := 0, slots := 0, locals := 0 } : Room) (va_Pc [.ref mo, .long p1] (cmP D ct sz ([(rf_MO mo mw ma mf m0 m1 mu mv u0 u1 iz th mb mn mpt mbg mwr mwk mlf men), (rf_RW ct 0 mb 800 b)] ++ ws))) (va_Qi (fun (r : Int32) (u : va_W × Int32 × (Nat → Int32)) => match u with | (u9, mn1, b1) => ty_V ct S ph u9 ∧ r = ty_apr mn p1 ∧ mn1 = ty_apb mn p1 ∧ b1 = ap_f b mn p1) (cmB D ([(rf_MO mo mw ma mf m0 m1 mu mv u0 u1 iz th mb mn mpt mbg mwr mwk mlf men), (rf_RW ct 0 mb 800 b)] ++ ws) sz (fun (u : va_W × Int32 × (Nat → Int32)) => match u with | (u9, mn1, b1) => ([(rf_MO mo mw ma mf m0 m1 mu mv u0 u1 iz (0) mb mn1 mpt mbg mwr mwk mlf men), (rf_RW ct 0 mb 800 b1)] ++ u9))) (va_A ([(rf_MO mo mw ma mf m0 m1 mu mv u0 u1 iz th mb mn mpt mbg mwr mwk mlf men), (rf_RW ct 0 mb 800 b)] ++ ws) sz)) 0 0 (va_A ([(rf_MO mo mw ma mf m0 m1 mu mv u0 u1 iz th mb mn mpt mbg mwr mwk mlf men), (rf_RW ct 0 mb 800 b)] ++ ws) sz) := by
  refine Met.ofW (cc := cX11_append) (maxL := 6) (ret := (some .int)) (by decide) rfl ?_
  intro p e s m args below meth c s₁ B hml hv
  obtain ⟨rfl, hsz, hP, hK, hD0, hX⟩ := hv
  have hx := B.exec
  have hb := B.bytes
  have hr := B.returns
  have hts := ws_all (atoms_spec (ws := ws_ yX11_append cX11_append 6 (some .int)) B.pre)
  have hown : s.vm.findClass RX11 = some m.cls := findClass_of_methodNamed B.named
  have hlocks := B.notSynchronized
  subst hsz
  have hD := hD0.self (sz := s.heap.size)
  generalize hAe : va_A ([(rf_MO mo mw ma mf m0 m1 mu mv u0 u1 iz th mb mn mpt mbg mwr mwk mlf men), (rf_RW ct 0 mb 800 b)] ++ ws) s.heap.size = A at hD hX ⊢
  have hA : ∀ q : Nat, s.heap.size ≤ q → A q := fun q h => by rw [← hAe]; exact Or.inr h
  have hS : va_S A s.heap s.heap [] := va_S.rf
  have hl := lv_entry ([.ref mo, .long p1]) (n := 6) (Nat.le_of_ble_eq_true rfl)
  rw [lg_entry_eq]
  generalize (lg_sl ([.ref mo, .long p1]) ++ List.replicate (6 - (lg_sl ([.ref mo, .long p1])).length) Slot.unset).toArray = ls at hl ⊢
  have hl : lv_has ls 6 [(0, .ref mo), (1, .long p1)] := hl
  refine lv_aload_n hx hb dX11_append_0 rfl (lv_at hl 0 rfl) ?_
  refine lv_iconst (v := 0) hx hb dX11_append_1 (by decide) ?_
  refine va_put (v := .int 0) (ty := .int) (D := D) (ci := 11) (C := RX11) (T := TX11) (N := 19) hx hb hts in_X11 tyX11 tyX11_ok nmX11 hown hK hP hD hS 0 rfl rfl 10 (by decide) (hts _ kl_RX11_49) (fun _ h9 => h9) rfl (by decide +kernel) rfl rfl (Nat.le_of_ble_eq_true rfl) dX11_append_2 (fun H locs hP hD hS => ?_)
  have hP : va_P D vwCl ([(rf_MO mo mw ma mf m0 m1 mu mv u0 u1 iz (0) mb mn mpt mbg mwr mwk mlf men), (rf_RW ct 0 mb 800 b)] ++ ws) H := hP
  have hD : va_D A ([(rf_MO mo mw ma mf m0 m1 mu mv u0 u1 iz (0) mb mn mpt mbg mwr mwk mlf men), (rf_RW ct 0 mb 800 b)] ++ ws) := hD
  refine lv_iconst (v := 0) hx hb dX11_append_5 (by decide) ?_
  refine lv_istore_n (lv' := [(3, .int 0), (0, .ref mo), (1, .long p1)]) hx hb dX11_append_6 rfl hl (by decide) rfl (fun ls hl => ?_)
  refine lv_bipush (v := 56) hx hb dX11_append_7 (by decide) ?_
  refine lv_istore (lv' := [(4, .int 56), (3, .int 0), (0, .ref mo), (1, .long p1)]) hx hb dX11_append_9 hl (by decide) rfl (fun ls hl => ?_)
  refine ty_loop (I := fun μ H locs ls => ∃ (ws : va_W) (y_1 : Int32) (y_2 : Int32), μ = (y_2.toInt + 2147483648).toNat ∧ ty_V ct S ph ws ∧ va_P D vwCl ([(rf_MO mo mw ma mf m0 m1 mu mv u0 u1 iz (0) mb mn mpt mbg mwr mwk mlf men), (rf_RW ct 0 mb 800 b)] ++ ws) H ∧ va_D A ([(rf_MO mo mw ma mf m0 m1 mu mv u0 u1 iz (0) mb mn mpt mbg mwr mwk mlf men), (rf_RW ct 0 mb 800 b)] ++ ws) ∧ va_S A s.heap H locs ∧ lv_has ls 6 [(0, .ref mo), (1, .long p1), (3, .int y_1), (4, .int y_2)] ∧ ∃ i9 : Nat, i9 ≤ 8 ∧ y_2 = cm_sh i9 ∧ y_1 = cm_cnt p1 i9) ⟨_, ws, (0 : Int32), (56 : Int32), rfl, hT, hP, hD, hS, (lv_sub hl [2, 3, 1, 0] rfl), ⟨0, by decide, rfl, rfl⟩⟩ (fun μ H locs ls hI ih_11 => ?_)
  obtain ⟨ws, y_1, y_2, rfl, hT, hP, hD, hS, hl, hex_11⟩ := hI
  refine lv_iload hx hb dX11_append_11 (lv_at hl 3 rfl) ?_
  refine lv_if_lt (tgt := 43) hx hb dX11_append_13 (by decide) (fun hc_3 => ?_) (fun hc_3 => ?_)
  · obtain rfl := ty_ap3 hex_11 hc_3
    have hl : lv_has ls 6 [(0, .ref mo), (1, .long p1), (3, .int (cm_cnt p1 8)), (4, .int y_2)] := hl
    refine lv_aload_n hx hb dX11_append_43 rfl (lv_at hl 0 rfl) ?_
    refine va_get (v := .int mn) (D := D) (ci := 11) (C := RX11) (T := TX11) (N := 19) hx hb hts in_X11 hown hK hP 0 rfl rfl 12 (by decide) (hts _ kl_RX11_56) (fun _ h9 => h9) rfl dX11_append_44 ?_
    refine lv_iload_n hx hb dX11_append_47 rfl (lv_at hl 2 rfl) ?_
    refine lv_iadd hx hb dX11_append_48 ?_
    refine lv_sipush (v := 800) hx hb dX11_append_49 (by decide) ?_
    refine lv_icmp_le (tgt := 58) hx hb dX11_append_52 (by decide) (fun hc_4 => ?_) (fun hc_4 => ?_)
    · refine lv_bipush (v := 56) hx hb dX11_append_58 (by decide) ?_
      refine lv_istore (lv' := [(4, .int 56), (0, .ref mo), (1, .long p1), (3, .int (cm_cnt p1 8))]) hx hb dX11_append_60 hl (by decide) rfl (fun ls hl => ?_)
      refine ty_loop (I := fun μ H locs ls => ∃ (ws : va_W) (y_5 : Int32) (y_6 : Int32) (g_7 : Nat → Int32), μ = (y_5.toInt + 2147483648).toNat ∧ ty_V ct S ph ws ∧ va_P D vwCl ([(rf_MO mo mw ma mf m0 m1 mu mv u0 u1 iz (0) mb y_6 mpt mbg mwr mwk mlf men), (rf_RW ct 0 mb 800 g_7)] ++ ws) H ∧ va_D A ([(rf_MO mo mw ma mf m0 m1 mu mv u0 u1 iz (0) mb y_6 mpt mbg mwr mwk mlf men), (rf_RW ct 0 mb 800 g_7)] ++ ws) ∧ va_S A s.heap H locs ∧ lv_has ls 6 [(0, .ref mo), (1, .long p1), (3, .int (cm_cnt p1 8)), (4, .int y_5)] ∧ ∃ i9 : Nat, i9 ≤ 8 ∧ y_5 = cm_sh i9 ∧ y_6 = mn + cm_cn2 p1 i9 ∧ g_7 = cm_bu b mn p1 i9) ⟨_, ws, (56 : Int32), mn, b, rfl, hT, hP, hD, hS, (lv_sub hl [1, 2, 3, 0] rfl), ⟨0, by decide, rfl, (Int32.add_zero _).symm, rfl⟩⟩ (fun μ H locs ls hI ih_62 => ?_)
      obtain ⟨ws, y_5, y_6, g_7, rfl, hT, hP, hD, hS, hl, hex_62⟩ := hI
      refine lv_iload hx hb dX11_append_62 (lv_at hl 3 rfl) ?_
      refine lv_if_lt (tgt := 113) hx hb dX11_append_64 (by decide) (fun hc_8 => ?_) (fun hc_8 => ?_)
      · obtain ⟨rfl, rfl⟩ := ap_6 hex_62 hc_8
        have hP : va_P D vwCl ([(rf_MO mo mw ma mf m0 m1 mu mv u0 u1 iz (0) mb (mn + cm_cn2 p1 8) mpt mbg mwr mwk mlf men), (rf_RW ct 0 mb 800 (cm_bu b mn p1 8))] ++ ws) H := hP
        have hD : va_D A ([(rf_MO mo mw ma mf m0 m1 mu mv u0 u1 iz (0) mb (mn + cm_cn2 p1 8) mpt mbg mwr mwk mlf men), (rf_RW ct 0 mb 800 (cm_bu b mn p1 8))] ++ ws) := hD
        refine lv_aload_n hx hb dX11_append_113 rfl (lv_at hl 0 rfl) ?_
        refine va_get (v := .int (mn + cm_cn2 p1 8)) (D := D) (ci := 11) (C := RX11) (T := TX11) (N := 19) hx hb hts in_X11 hown hK hP 0 rfl rfl 12 (by decide) (hts _ kl_RX11_56) (fun _ h9 => h9) rfl dX11_append_114 ?_
        exact W.iret (v := (mn + cm_cn2 p1 8)) hx hb hr (fun t ht hW => ⟨⟨(mn + cm_cn2 p1 8), (ws, (mn + cm_cn2 p1 8), (cm_bu b mn p1 8)), rfl, ⟨hT, ⟨(ty_ap7 hc_4).1, (ty_ap7 hc_4).2, ap_7 hc_4⟩⟩, by rw [ht]; exact hP, by rw [hAe]; exact hD⟩, hS.F ht⟩) hS.2.2 dX11_append_117
      · refine lv_lload_n hx hb dX11_append_67 rfl (lv_at hl 1 rfl) ?_
        refine lv_iload hx hb dX11_append_68 (lv_at hl 3 rfl) ?_
        refine lv_lushr (v := (p1.toUInt64 >>> (y_5.toInt64.toUInt64 &&& Int64.toUInt64 63)).toInt64) hx hb dX11_append_70 rfl ?_
        refine lv_ldc2 hx hb hown (hts _ kl_RX11_54) dX11_append_71 ?_
        refine lv_land hx hb dX11_append_74 ?_
        refine cm_cstl (y := (cm_byte p1 y_5)) rfl ?_
        refine lv_l2i hx hb dX11_append_75 rfl ?_
        refine lv_istore (lv' := [(5, .int ((cm_byte p1 y_5).toInt32)), (0, .ref mo), (1, .long p1), (3, .int (cm_cnt p1 8)), (4, .int y_5)]) hx hb dX11_append_76 hl (by decide) rfl (fun ls hl => ?_)
        refine lv_iload hx hb dX11_append_78 (lv_at hl 0 rfl) ?_
        refine lv_if_ne (tgt := 86) hx hb dX11_append_80 (by decide) (fun hc_9 => ?_) (fun hc_9 => ?_)
        · refine lv_aload_n hx hb dX11_append_86 rfl (lv_at hl 1 rfl) ?_
          refine va_get (v := .ref mb) (D := D) (ci := 11) (C := RX11) (T := TX11) (N := 19) hx hb hts in_X11 hown hK hP 0 rfl rfl 11 (by decide) (hts _ kl_RX11_42) (fun _ h9 => h9) rfl dX11_append_87 ?_
          refine lv_aload_n hx hb dX11_append_90 rfl (lv_at hl 1 rfl) ?_
          refine va_get (v := .int y_6) (D := D) (ci := 11) (C := RX11) (T := TX11) (N := 19) hx hb hts in_X11 hown hK hP 0 rfl rfl 12 (by decide) (hts _ kl_RX11_56) (fun _ h9 => h9) rfl dX11_append_91 ?_
          refine lv_iload hx hb dX11_append_94 (lv_at hl 0 rfl) ?_
          refine va_iast hx hb hK hP hD hS 1 0 rfl rfl (rf_api hmn hc_4 (ap_x hex_62) hc_8 hc_9) dX11_append_96 (fun H locs hP hD hS => ?_)
          have hP : va_P D vwCl ([(rf_MO mo mw ma mf m0 m1 mu mv u0 u1 iz (0) mb y_6 mpt mbg mwr mwk mlf men), (rf_RW ct 0 mb 800 (upd g_7 y_6.toNatClampNeg ((cm_byte p1 y_5).toInt32)))] ++ ws) H := hP
          have hD : va_D A ([(rf_MO mo mw ma mf m0 m1 mu mv u0 u1 iz (0) mb y_6 mpt mbg mwr mwk mlf men), (rf_RW ct 0 mb 800 (upd g_7 y_6.toNatClampNeg ((cm_byte p1 y_5).toInt32)))] ++ ws) := hD
          refine lv_aload_n hx hb dX11_append_97 rfl (lv_at hl 1 rfl) ?_
          refine lv_dup hx hb dX11_append_98 rfl ?_
          refine va_get (v := .int y_6) (D := D) (ci := 11) (C := RX11) (T := TX11) (N := 19) hx hb hts in_X11 hown hK hP 0 rfl rfl 12 (by decide) (hts _ kl_RX11_56) (fun _ h9 => h9) rfl dX11_append_99 ?_
          refine lv_iconst (v := 1) hx hb dX11_append_102 (by decide) ?_
          refine lv_iadd hx hb dX11_append_103 ?_
          refine va_put (v := .int (y_6 + 1)) (ty := .int) (D := D) (ci := 11) (C := RX11) (T := TX11) (N := 19) hx hb hts in_X11 tyX11 tyX11_ok nmX11 hown hK hP hD hS 0 rfl rfl 12 (by decide) (hts _ kl_RX11_56) (fun _ h9 => h9) rfl (by decide +kernel) rfl rfl (Nat.le_of_ble_eq_true rfl) dX11_append_104 (fun H locs hP hD hS => ?_)
          have hP : va_P D vwCl ([(rf_MO mo mw ma mf m0 m1 mu mv u0 u1 iz (0) mb (y_6 + 1) mpt mbg mwr mwk mlf men), (rf_RW ct 0 mb 800 (upd g_7 y_6.toNatClampNeg ((cm_byte p1 y_5).toInt32)))] ++ ws) H := hP
          have hD : va_D A ([(rf_MO mo mw ma mf m0 m1 mu mv u0 u1 iz (0) mb (y_6 + 1) mpt mbg mwr mwk mlf men), (rf_RW ct 0 mb 800 (upd g_7 y_6.toNatClampNeg ((cm_byte p1 y_5).toInt32)))] ++ ws) := hD
          refine lv_iinc (v := (y_5 + Int32.ofInt (-8))) (lv' := [(4, .int (y_5 + Int32.ofInt (-8))), (5, .int ((cm_byte p1 y_5).toInt32)), (0, .ref mo), (1, .long p1), (3, .int (cm_cnt p1 8))]) hx hb dX11_append_107 hl (k := 4) rfl rfl (by decide) rfl (fun ls hl => ?_)
          refine lv_goto (tgt := 62) hx hb dX11_append_110 (by decide) ?_
          exact ih_62 _ _ _ _ (ty_decn hc_8) ⟨ws, (y_5 + Int32.ofInt (-8)), (y_6 + 1), (upd g_7 y_6.toNatClampNeg ((cm_byte p1 y_5).toInt32)), rfl, hT, hP, hD, hS, (lv_sub hl [2, 3, 4, 0] rfl), (ap_5 hex_62 hc_8 hc_9)⟩
        · refine lv_goto (tgt := 107) hx hb dX11_append_83 (by decide) ?_
          refine lv_iinc (v := (y_5 + Int32.ofInt (-8))) (lv' := [(4, .int (y_5 + Int32.ofInt (-8))), (5, .int ((cm_byte p1 y_5).toInt32)), (0, .ref mo), (1, .long p1), (3, .int (cm_cnt p1 8))]) hx hb dX11_append_107 hl (k := 4) rfl rfl (by decide) rfl (fun ls hl => ?_)
          refine lv_goto (tgt := 62) hx hb dX11_append_110 (by decide) ?_
          exact ih_62 _ _ _ _ (ty_decn hc_8) ⟨ws, (y_5 + Int32.ofInt (-8)), y_6, g_7, rfl, hT, hP, hD, hS, (lv_sub hl [2, 3, 4, 0] rfl), (ap_4 hex_62 hc_8 hc_9)⟩
    · refine lv_bipush (v := (-2)) hx hb dX11_append_55 (by decide) ?_
      exact W.iret (v := (-2)) hx hb hr (fun t ht hW => ⟨⟨(-2), (ws, mn, b), rfl, ⟨hT, ⟨(ty_ap8 hc_4).1, (ty_ap8 hc_4).2, ap_8 hc_4⟩⟩, by rw [ht]; exact hP, by rw [hAe]; exact hD⟩, hS.F ht⟩) hS.2.2 dX11_append_57
  · refine lv_iload_n hx hb dX11_append_16 rfl (lv_at hl 2 rfl) ?_
    refine lv_lload_n hx hb dX11_append_17 rfl (lv_at hl 1 rfl) ?_
    refine lv_iload hx hb dX11_append_18 (lv_at hl 3 rfl) ?_
    refine lv_lushr (v := (p1.toUInt64 >>> (y_2.toInt64.toUInt64 &&& Int64.toUInt64 63)).toInt64) hx hb dX11_append_20 rfl ?_
    refine lv_ldc2 hx hb hown (hts _ kl_RX11_54) dX11_append_21 ?_
    refine lv_land hx hb dX11_append_24 ?_
    refine cm_cstl (y := (cm_byte p1 y_2)) rfl ?_
    refine lv_lconst (v := 0) hx hb dX11_append_25 (by decide) ?_
    refine W.lcmp hx hb dX11_append_26 ?_
    refine lv_if_eq (tgt := 34) hx hb dX11_append_27 (by decide) (fun hc_10 => ?_) (fun hc_10 => ?_)
    · refine lv_iconst (v := 0) hx hb dX11_append_34 (by decide) ?_
      refine lv_iadd hx hb dX11_append_35 ?_
      refine lv_istore_n (lv' := [(3, .int (y_1 + 0)), (0, .ref mo), (1, .long p1), (4, .int y_2)]) hx hb dX11_append_36 rfl hl (by decide) rfl (fun ls hl => ?_)
      refine lv_iinc (v := (y_2 + Int32.ofInt (-8))) (lv' := [(4, .int (y_2 + Int32.ofInt (-8))), (3, .int (y_1 + 0)), (0, .ref mo), (1, .long p1)]) hx hb dX11_append_37 hl (k := 3) rfl rfl (by decide) rfl (fun ls hl => ?_)
      refine lv_goto (tgt := 11) hx hb dX11_append_40 (by decide) ?_
      exact ih_11 _ _ _ _ (ty_decn hc_3) ⟨ws, (y_1 + 0), (y_2 + Int32.ofInt (-8)), rfl, hT, hP, hD, hS, (lv_sub hl [2, 3, 1, 0] rfl), (by rw [rf_az]; exact ty_ap1 hex_11 hc_3 hc_10)⟩
    · refine lv_iconst (v := 1) hx hb dX11_append_30 (by decide) ?_
      refine lv_goto (tgt := 35) hx hb dX11_append_31 (by decide) ?_
      refine lv_iadd hx hb dX11_append_35 ?_
      refine lv_istore_n (lv' := [(3, .int (y_1 + 1)), (0, .ref mo), (1, .long p1), (4, .int y_2)]) hx hb dX11_append_36 rfl hl (by decide) rfl (fun ls hl => ?_)
      refine lv_iinc (v := (y_2 + Int32.ofInt (-8))) (lv' := [(4, .int (y_2 + Int32.ofInt (-8))), (3, .int (y_1 + 1)), (0, .ref mo), (1, .long p1)]) hx hb dX11_append_37 hl (k := 3) rfl rfl (by decide) rfl (fun ls hl => ?_)
      refine lv_goto (tgt := 11) hx hb dX11_append_40 (by decide) ?_
      exact ih_11 _ _ _ _ (ty_decn hc_3) ⟨ws, (y_1 + 1), (y_2 + Int32.ofInt (-8)), rfl, hT, hP, hD, hS, (lv_sub hl [2, 3, 1, 0] rfl), (ty_ap2 hex_11 hc_3 hc_10)⟩
