set_option maxRecDepth 100000 in
set_option maxHeartbeats 4000000 in
theorem r_put (l : Launch) (D : va_G) (ct : Nat → ClassId) (S : ty_S) (ws : va_W) (ph : va_W → Prop) (xx : Nat → Nat → Nat → Prop) (p1 : Nat) (p2 : Int32) (p3 : Int32) (b : Nat → Int32) (sz : Nat) (hT : ty_V ct S ph ws) (hph : ty_C ph xx) (hy1 : ty_y1 xx) (hix : 0 ≤ p2.toInt ∧ p2.toInt < 800) : Met l yX10_put (ws_ yX10_put cX10_put 3 none) ({ frames := 0, cells := 0, slots := 0, locals := 0 } : Room) (va_Pc [.ref p1, .int p2, .int p3] (cmP D ct sz ([(rf_RW ct 0 p1 800 b)] ++ ws))) (va_Qv (fun (u : va_W × (Nat → Int32)) => match u with | (u9, b1) => ty_V ct S ph u9 ∧ b1 = (upd b p2.toNatClampNeg p3)) (cmB D ([(rf_RW ct 0 p1 800 b)] ++ ws) sz (fun (u : va_W × (Nat → Int32)) => match u with | (u9, b1) => ([(rf_RW ct 0 p1 800 b1)] ++ u9))) (va_A ([(rf_RW ct 0 p1 800 b)] ++ ws) sz)) 0 0 (va_A ([(rf_RW ct 0 p1 800 b)] ++ ws) sz) := by
  refine Met.ofW (cc := cX10_put) (maxL := 3) (ret := none) (by decide) rfl ?_
  intro p e s m args below meth c s₁ B hml hv
  obtain ⟨rfl, hsz, hP, hK, hD0, hX⟩ := hv
  have hx := B.exec
  have hb := B.bytes
  have hr := B.returns
  have hts := ws_all (atoms_spec (ws := ws_ yX10_put cX10_put 3 none) B.pre)
  have hown : s.vm.findClass RX10 = some m.cls := findClass_of_methodNamed B.named
  have hlocks := B.notSynchronized
  subst hsz
  have hD := hD0.self (sz := s.heap.size)
  generalize hAe : va_A ([(rf_RW ct 0 p1 800 b)] ++ ws) s.heap.size = A at hD hX ⊢
  have hA : ∀ q : Nat, s.heap.size ≤ q → A q := fun q h => by rw [← hAe]; exact Or.inr h
  have hS : va_S A s.heap s.heap [] := va_S.rf
  have hl := lv_entry ([.ref p1, .int p2, .int p3]) (n := 3) (Nat.le_of_ble_eq_true rfl)
  rw [lg_entry_eq]
  generalize (lg_sl ([.ref p1, .int p2, .int p3]) ++ List.replicate (3 - (lg_sl ([.ref p1, .int p2, .int p3])).length) Slot.unset).toArray = ls at hl ⊢
  have hl : lv_has ls 3 [(0, .ref p1), (1, .int p2), (2, .int p3)] := hl
  refine lv_iload_n hx hb dX10_put_0 rfl (lv_at hl 1 rfl) ?_
  refine lv_if_lt (tgt := 14) hx hb dX10_put_1 (by decide) (fun hc => absurd hc (ty_nneg hix.1)) (fun _ => ?_)
  refine lv_iload_n hx hb dX10_put_4 rfl (lv_at hl 1 rfl) ?_
  refine lv_aload_n hx hb dX10_put_5 rfl (lv_at hl 0 rfl) ?_
  refine va_alen hx hb hK hP 0 0 rfl rfl (v := 800) (show Int32.ofNat 800 = (800 : Int32) from by decide) dX10_put_6 ?_
  refine lv_icmp_ge (tgt := 14) hx hb dX10_put_7 (by decide) (fun hc => absurd hc (fun q => rp_big q hix.2)) (fun _ => ?_)
  refine lv_aload_n hx hb dX10_put_10 rfl (lv_at hl 0 rfl) ?_
  refine lv_iload_n hx hb dX10_put_11 rfl (lv_at hl 1 rfl) ?_
  refine lv_iload_n hx hb dX10_put_12 rfl (lv_at hl 2 rfl) ?_
  refine va_iast hx hb hK hP hD hS 0 0 rfl rfl (rp_vin hix) dX10_put_13 (fun H locs hP hD hS => ?_)
  have hP : va_P D vwCl ([(rf_RW ct 0 p1 800 (upd b p2.toNatClampNeg p3))] ++ ws) H := hP
  have hD : va_D A ([(rf_RW ct 0 p1 800 (upd b p2.toNatClampNeg p3))] ++ ws) := hD
  exact W.vret hx hb hr (fun t ht hW => ⟨⟨(ws, (upd b p2.toNatClampNeg p3)), rfl, ⟨hT, rfl⟩, by rw [ht]; exact hP, by rw [hAe]; exact hD⟩, hS.F ht⟩) hS.2.2 dX10_put_14
set_option maxRecDepth 100000 in
set_option maxHeartbeats 4000000 in
theorem r_append (l : Launch) (D : va_G) (ct : Nat → ClassId) (S : ty_S) (ws : va_W) (ph : va_W → Prop) (xx : Nat → Nat → Nat → Prop) (x : Nat) (w : Nat) (sp : Nat) (sv : Nat) (bu : Nat) (bl : Int32) (le : Int32) (b : Nat → Int32) (p1 : Int64) (sz : Nat) (hT : ty_V ct S ph ws) (hph : ty_C ph xx) (hy1 : ty_y1 xx) (hbl : 0 ≤ bl.toInt ∧ bl.toInt ≤ 800) : Met l yX10_append (ws_ yX10_append cX10_append 6 (some .int)) ({ frames := 1, cells := 0, slots := 0, locals := 22 } : Room) (va_Pc [.ref x, .long p1] (cmP D ct sz ([(ty_XO x w sp sv bu bl le), (rf_RW ct 0 bu 800 b)] ++ ws))) (va_Qi (fun (r : Int32) (u : va_W × Int32 × (Nat → Int32)) => match u with | (u9, bl1, b1) => ty_V ct S ph u9 ∧ r = ty_apr bl p1 ∧ bl1 = ty_apb bl p1 ∧ b1 = ap_f b bl p1) (cmB D ([(ty_XO x w sp sv bu bl le), (rf_RW ct 0 bu 800 b)] ++ ws) sz (fun (u : va_W × Int32 × (Nat → Int32)) => match u with | (u9, bl1, b1) => ([(ty_XO x w sp sv bu bl1 le), (rf_RW ct 0 bu 800 b1)] ++ u9))) (va_A ([(ty_XO x w sp sv bu bl le), (rf_RW ct 0 bu 800 b)] ++ ws) sz)) 0 0 (va_A ([(ty_XO x w sp sv bu bl le), (rf_RW ct 0 bu 800 b)] ++ ws) sz) := by
  refine Met.ofW (cc := cX10_append) (maxL := 6) (ret := (some .int)) (by decide) rfl ?_
  intro p e s m args below meth c s₁ B hml hv
  obtain ⟨rfl, hsz, hP, hK, hD0, hX⟩ := hv
  have hx := B.exec
  have hb := B.bytes
  have hr := B.returns
  have hts := ws_all (atoms_spec (ws := ws_ yX10_append cX10_append 6 (some .int)) B.pre)
  have hown : s.vm.findClass RX10 = some m.cls := findClass_of_methodNamed B.named
  have hlocks := B.notSynchronized
  subst hsz
  have hD := hD0.self (sz := s.heap.size)
  generalize hAe : va_A ([(ty_XO x w sp sv bu bl le), (rf_RW ct 0 bu 800 b)] ++ ws) s.heap.size = A at hD hX ⊢
  have hA : ∀ q : Nat, s.heap.size ≤ q → A q := fun q h => by rw [← hAe]; exact Or.inr h
  have hS : va_S A s.heap s.heap [] := va_S.rf
  have hl := lv_entry ([.ref x, .long p1]) (n := 6) (Nat.le_of_ble_eq_true rfl)
  rw [lg_entry_eq]
  generalize (lg_sl ([.ref x, .long p1]) ++ List.replicate (6 - (lg_sl ([.ref x, .long p1])).length) Slot.unset).toArray = ls at hl ⊢
  have hl : lv_has ls 6 [(0, .ref x), (1, .long p1)] := hl
  refine lv_iconst (v := 0) hx hb dX10_append_0 (by decide) ?_
  refine lv_istore_n (lv' := [(3, .int 0), (0, .ref x), (1, .long p1)]) hx hb dX10_append_1 rfl hl (by decide) rfl (fun ls hl => ?_)
  refine lv_bipush (v := 56) hx hb dX10_append_2 (by decide) ?_
  refine lv_istore (lv' := [(4, .int 56), (3, .int 0), (0, .ref x), (1, .long p1)]) hx hb dX10_append_4 hl (by decide) rfl (fun ls hl => ?_)
  refine ty_loop (I := fun μ H locs ls => ∃ (ws : va_W) (y_1 : Int32) (y_2 : Int32), μ = (y_2.toInt + 2147483648).toNat ∧ ty_V ct S ph ws ∧ va_P D vwCl ([(ty_XO x w sp sv bu bl le), (rf_RW ct 0 bu 800 b)] ++ ws) H ∧ va_D A ([(ty_XO x w sp sv bu bl le), (rf_RW ct 0 bu 800 b)] ++ ws) ∧ va_S A s.heap H locs ∧ lv_has ls 6 [(0, .ref x), (1, .long p1), (3, .int y_1), (4, .int y_2)] ∧ ∃ i9 : Nat, i9 ≤ 8 ∧ y_2 = cm_sh i9 ∧ y_1 = cm_cnt p1 i9) ⟨_, ws, (0 : Int32), (56 : Int32), rfl, hT, hP, hD, hS, (lv_sub hl [2, 3, 1, 0] rfl), ⟨0, by decide, rfl, rfl⟩⟩ (fun μ H locs ls hI ih_6 => ?_)
  obtain ⟨ws, y_1, y_2, rfl, hT, hP, hD, hS, hl, hex_6⟩ := hI
  refine lv_iload hx hb dX10_append_6 (lv_at hl 3 rfl) ?_
  refine lv_if_lt (tgt := 33) hx hb dX10_append_8 (by decide) (fun hc_3 => ?_) (fun hc_3 => ?_)
  · obtain rfl := ty_ap3 hex_6 hc_3
    have hl : lv_has ls 6 [(0, .ref x), (1, .long p1), (3, .int (cm_cnt p1 8)), (4, .int y_2)] := hl
    refine lv_aload_n hx hb dX10_append_33 rfl (lv_at hl 0 rfl) ?_
    refine va_get (v := .int bl) (D := D) (ci := 10) (C := RX10) (T := TX10) (N := 6) hx hb hts in_X10 hown hK hP 0 rfl rfl 4 (by decide) (hts _ kl_RX10_27) (fun _ h9 => h9) rfl dX10_append_34 ?_
    refine lv_iload_n hx hb dX10_append_37 rfl (lv_at hl 2 rfl) ?_
    refine lv_iadd hx hb dX10_append_38 ?_
    refine lv_sipush (v := 800) hx hb dX10_append_39 (by decide) ?_
    refine lv_icmp_le (tgt := 48) hx hb dX10_append_42 (by decide) (fun hc_4 => ?_) (fun hc_4 => ?_)
    · refine lv_bipush (v := 56) hx hb dX10_append_48 (by decide) ?_
      refine lv_istore (lv' := [(4, .int 56), (0, .ref x), (1, .long p1), (3, .int (cm_cnt p1 8))]) hx hb dX10_append_50 hl (by decide) rfl (fun ls hl => ?_)
      refine ty_loop (I := fun μ H locs ls => ∃ (ws : va_W) (y_5 : Int32) (y_6 : Int32) (g_7 : Nat → Int32), μ = (y_5.toInt + 2147483648).toNat ∧ ty_V ct S ph ws ∧ va_P D vwCl ([(ty_XO x w sp sv bu y_6 le), (rf_RW ct 0 bu 800 g_7)] ++ ws) H ∧ va_D A ([(ty_XO x w sp sv bu y_6 le), (rf_RW ct 0 bu 800 g_7)] ++ ws) ∧ va_S A s.heap H locs ∧ lv_has ls 6 [(0, .ref x), (1, .long p1), (3, .int (cm_cnt p1 8)), (4, .int y_5)] ∧ ∃ i9 : Nat, i9 ≤ 8 ∧ y_5 = cm_sh i9 ∧ y_6 = bl + cm_cn2 p1 i9 ∧ g_7 = cm_bu b bl p1 i9) ⟨_, ws, (56 : Int32), bl, b, rfl, hT, hP, hD, hS, (lv_sub hl [1, 2, 3, 0] rfl), ⟨0, by decide, rfl, (Int32.add_zero _).symm, rfl⟩⟩ (fun μ H locs ls hI ih_52 => ?_)
      obtain ⟨ws, y_5, y_6, g_7, rfl, hT, hP, hD, hS, hl, hex_52⟩ := hI
      refine lv_iload hx hb dX10_append_52 (lv_at hl 3 rfl) ?_
      refine lv_if_lt (tgt := 102) hx hb dX10_append_54 (by decide) (fun hc_8 => ?_) (fun hc_8 => ?_)
      · obtain ⟨rfl, rfl⟩ := ap_6 hex_52 hc_8
        have hP : va_P D vwCl ([(ty_XO x w sp sv bu (bl + cm_cn2 p1 8) le), (rf_RW ct 0 bu 800 (cm_bu b bl p1 8))] ++ ws) H := hP
        have hD : va_D A ([(ty_XO x w sp sv bu (bl + cm_cn2 p1 8) le), (rf_RW ct 0 bu 800 (cm_bu b bl p1 8))] ++ ws) := hD
        refine lv_aload_n hx hb dX10_append_102 rfl (lv_at hl 0 rfl) ?_
        refine va_get (v := .int (bl + cm_cn2 p1 8)) (D := D) (ci := 10) (C := RX10) (T := TX10) (N := 6) hx hb hts in_X10 hown hK hP 0 rfl rfl 4 (by decide) (hts _ kl_RX10_27) (fun _ h9 => h9) rfl dX10_append_103 ?_
        exact W.iret (v := (bl + cm_cn2 p1 8)) hx hb hr (fun t ht hW => ⟨⟨(bl + cm_cn2 p1 8), (ws, (bl + cm_cn2 p1 8), (cm_bu b bl p1 8)), rfl, ⟨hT, ⟨(ty_ap7 hc_4).1, (ty_ap7 hc_4).2, ap_7 hc_4⟩⟩, by rw [ht]; exact hP, by rw [hAe]; exact hD⟩, hS.F ht⟩) hS.2.2 dX10_append_106
      · refine lv_lload_n hx hb dX10_append_57 rfl (lv_at hl 1 rfl) ?_
        refine lv_iload hx hb dX10_append_58 (lv_at hl 3 rfl) ?_
        refine lv_lushr (v := (p1.toUInt64 >>> (y_5.toInt64.toUInt64 &&& Int64.toUInt64 63)).toInt64) hx hb dX10_append_60 rfl ?_
        refine lv_ldc2 hx hb hown (hts _ kl_RX10_34) dX10_append_61 ?_
        refine lv_land hx hb dX10_append_64 ?_
        refine cm_cstl (y := (cm_byte p1 y_5)) rfl ?_
        refine lv_l2i hx hb dX10_append_65 rfl ?_
        refine lv_istore (lv' := [(5, .int ((cm_byte p1 y_5).toInt32)), (0, .ref x), (1, .long p1), (3, .int (cm_cnt p1 8)), (4, .int y_5)]) hx hb dX10_append_66 hl (by decide) rfl (fun ls hl => ?_)
        refine lv_iload hx hb dX10_append_68 (lv_at hl 0 rfl) ?_
        refine lv_if_eq (tgt := 96) hx hb dX10_append_70 (by decide) (fun hc_9 => ?_) (fun hc_9 => ?_)
        · refine lv_iinc (v := (y_5 + Int32.ofInt (-8))) (lv' := [(4, .int (y_5 + Int32.ofInt (-8))), (5, .int ((cm_byte p1 y_5).toInt32)), (0, .ref x), (1, .long p1), (3, .int (cm_cnt p1 8))]) hx hb dX10_append_96 hl (k := 4) rfl rfl (by decide) rfl (fun ls hl => ?_)
          refine lv_goto (tgt := 52) hx hb dX10_append_99 (by decide) ?_
          exact ih_52 _ _ _ _ (ty_decn hc_8) ⟨ws, (y_5 + Int32.ofInt (-8)), y_6, g_7, rfl, hT, hP, hD, hS, (lv_sub hl [2, 3, 4, 0] rfl), (ap_4 hex_52 hc_8 hc_9)⟩
        · refine lv_aload_n hx hb dX10_append_73 rfl (lv_at hl 1 rfl) ?_
          refine va_get (v := .ref bu) (D := D) (ci := 10) (C := RX10) (T := TX10) (N := 6) hx hb hts in_X10 hown hK hP 0 rfl rfl 3 (by decide) (hts _ kl_RX10_23) (fun _ h9 => h9) rfl dX10_append_74 ?_
          refine lv_aload_n hx hb dX10_append_77 rfl (lv_at hl 1 rfl) ?_
          refine va_get (v := .int y_6) (D := D) (ci := 10) (C := RX10) (T := TX10) (N := 6) hx hb hts in_X10 hown hK hP 0 rfl rfl 4 (by decide) (hts _ kl_RX10_27) (fun _ h9 => h9) rfl dX10_append_78 ?_
          refine lv_iload hx hb dX10_append_81 (lv_at hl 0 rfl) ?_
          obtain ⟨hP, hD⟩ := ty_ipPD (E1 := [(ty_XO x w sp sv bu y_6 le)]) (E2 := [(rf_RW ct 0 bu 800 g_7)]) hP hD rfl ty_mv2
          refine ty_Kv hP hD hS hA (va_runS (As := [.ref bu, .int y_6, .int ((cm_byte p1 y_5).toInt32)]) (rest := []) ⟨hx, hb, hml, hown, hts⟩ (r_put l D ct (fun _ => none) [] (fun _ => True) (fun _ _ _ => True) bu y_6 ((cm_byte p1 y_5).toInt32) g_7 _ ty_V0 ty_C0 ty_y10 (ap_r (rf_api hbl hc_4 (ap_x hex_52) hc_8 hc_9))) (cm_S 3 hts kc_X10_put ki_RX10 kl_RX10_36 ks_X10_put kd_X10_put ⟨Nat.le_of_ble_eq_true rfl, Nat.le_of_ble_eq_true rfl⟩) (ty_preS hP hK hD hS hA hX) rfl rfl hl.1 rfl (lv_room (Nat.le_of_ble_eq_true rfl)) dX10_append_83 ⟨Nat.le_of_ble_eq_true rfl, Nat.le_of_ble_eq_true rfl⟩) (fun u H locs hw_11 hP hD hS => ?_)
          obtain ⟨ws_12, b1_13⟩ := u
          obtain ⟨hT9_14, hp_15⟩ := hw_11
          have hp_15 : b1_13 = (upd g_7 y_6.toNatClampNeg ((cm_byte p1 y_5).toInt32)) := hp_15
          obtain ⟨hP, hD⟩ := ty_bkPD (E := [(ty_XO x w sp sv bu y_6 le), (rf_RW ct 0 bu 800 b1_13)]) hP hD rfl
          obtain rfl := hp_15
          refine lv_aload_n hx hb dX10_append_86 rfl (lv_at hl 1 rfl) ?_
          refine lv_dup hx hb dX10_append_87 rfl ?_
          refine va_get (v := .int y_6) (D := D) (ci := 10) (C := RX10) (T := TX10) (N := 6) hx hb hts in_X10 hown hK hP 0 rfl rfl 4 (by decide) (hts _ kl_RX10_27) (fun _ h9 => h9) rfl dX10_append_88 ?_
          refine lv_iconst (v := 1) hx hb dX10_append_91 (by decide) ?_
          refine lv_iadd hx hb dX10_append_92 ?_
          refine va_put (v := .int (y_6 + 1)) (ty := .int) (D := D) (ci := 10) (C := RX10) (T := TX10) (N := 6) hx hb hts in_X10 tyX10 tyX10_ok nmX10 hown hK hP hD hS 0 rfl rfl 4 (by decide) (hts _ kl_RX10_27) (fun _ h9 => h9) rfl (by decide +kernel) rfl rfl (Nat.le_of_ble_eq_true rfl) dX10_append_93 (fun H locs hP hD hS => ?_)
          have hP : va_P D vwCl ([(ty_XO x w sp sv bu (y_6 + 1) le), (rf_RW ct 0 bu 800 (upd g_7 y_6.toNatClampNeg ((cm_byte p1 y_5).toInt32)))] ++ ws) H := hP
          have hD : va_D A ([(ty_XO x w sp sv bu (y_6 + 1) le), (rf_RW ct 0 bu 800 (upd g_7 y_6.toNatClampNeg ((cm_byte p1 y_5).toInt32)))] ++ ws) := hD
          refine lv_iinc (v := (y_5 + Int32.ofInt (-8))) (lv' := [(4, .int (y_5 + Int32.ofInt (-8))), (5, .int ((cm_byte p1 y_5).toInt32)), (0, .ref x), (1, .long p1), (3, .int (cm_cnt p1 8))]) hx hb dX10_append_96 hl (k := 4) rfl rfl (by decide) rfl (fun ls hl => ?_)
          refine lv_goto (tgt := 52) hx hb dX10_append_99 (by decide) ?_
          exact ih_52 _ _ _ _ (ty_decn hc_8) ⟨ws, (y_5 + Int32.ofInt (-8)), (y_6 + 1), (upd g_7 y_6.toNatClampNeg ((cm_byte p1 y_5).toInt32)), rfl, hT, hP, hD, hS, (lv_sub hl [2, 3, 4, 0] rfl), (ap_5 hex_52 hc_8 hc_9)⟩
    · refine lv_bipush (v := (-2)) hx hb dX10_append_45 (by decide) ?_
      exact W.iret (v := (-2)) hx hb hr (fun t ht hW => ⟨⟨(-2), (ws, bl, b), rfl, ⟨hT, ⟨(ty_ap8 hc_4).1, (ty_ap8 hc_4).2, ap_8 hc_4⟩⟩, by rw [ht]; exact hP, by rw [hAe]; exact hD⟩, hS.F ht⟩) hS.2.2 dX10_append_47
  · refine lv_lload_n hx hb dX10_append_11 rfl (lv_at hl 1 rfl) ?_
    refine lv_iload hx hb dX10_append_12 (lv_at hl 3 rfl) ?_
    refine lv_lushr (v := (p1.toUInt64 >>> (y_2.toInt64.toUInt64 &&& Int64.toUInt64 63)).toInt64) hx hb dX10_append_14 rfl ?_
    refine lv_ldc2 hx hb hown (hts _ kl_RX10_34) dX10_append_15 ?_
    refine lv_land hx hb dX10_append_18 ?_
    refine cm_cstl (y := (cm_byte p1 y_2)) rfl ?_
    refine lv_lconst (v := 0) hx hb dX10_append_19 (by decide) ?_
    refine W.lcmp hx hb dX10_append_20 ?_
    refine lv_if_eq (tgt := 27) hx hb dX10_append_21 (by decide) (fun hc_17 => ?_) (fun hc_17 => ?_)
    · refine lv_iinc (v := (y_2 + Int32.ofInt (-8))) (lv' := [(4, .int (y_2 + Int32.ofInt (-8))), (0, .ref x), (1, .long p1), (3, .int y_1)]) hx hb dX10_append_27 hl (k := 3) rfl rfl (by decide) rfl (fun ls hl => ?_)
      refine lv_goto (tgt := 6) hx hb dX10_append_30 (by decide) ?_
      exact ih_6 _ _ _ _ (ty_decn hc_3) ⟨ws, y_1, (y_2 + Int32.ofInt (-8)), rfl, hT, hP, hD, hS, (lv_sub hl [1, 2, 3, 0] rfl), (ty_ap1 hex_6 hc_3 hc_17)⟩
    · refine lv_iinc (v := (y_1 + Int32.ofInt 1)) (lv' := [(3, .int (y_1 + Int32.ofInt 1)), (0, .ref x), (1, .long p1), (4, .int y_2)]) hx hb dX10_append_24 hl (k := 2) rfl rfl (by decide) rfl (fun ls hl => ?_)
      refine lv_iinc (v := (y_2 + Int32.ofInt (-8))) (lv' := [(4, .int (y_2 + Int32.ofInt (-8))), (3, .int (y_1 + Int32.ofInt 1)), (0, .ref x), (1, .long p1)]) hx hb dX10_append_27 hl (k := 3) rfl rfl (by decide) rfl (fun ls hl => ?_)
      refine lv_goto (tgt := 6) hx hb dX10_append_30 (by decide) ?_
      exact ih_6 _ _ _ _ (ty_decn hc_3) ⟨ws, (y_1 + Int32.ofInt 1), (y_2 + Int32.ofInt (-8)), rfl, hT, hP, hD, hS, (lv_sub hl [2, 3, 1, 0] rfl), (ty_ap2 hex_6 hc_3 hc_17)⟩
