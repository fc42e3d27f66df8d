theorem dX0_smallestChargeFor_71 : decode cX0_smallestChargeFor 71 = .ok (.ireturn, 1) := by decide +kernel
set_option maxRecDepth 100000 in
set_option maxHeartbeats 4000000 in
theorem t_X0_smallestChargeFor (l : Launch) (D : va_G) (ct : Nat → ClassId) (S : ty_S) (ws : va_W) (ph : va_W → Prop) (xx : Nat → Nat → Nat → Prop) (h0 : Nat) (p1 : Int32) (sz : Nat) (hT : ty_V ct S ph ws) (h_h0 : S h0 = some (.inl 0)) (hph : ty_C ph xx) (hy1 : ty_y1 xx) : Met l yX0_smallestChargeFor (ws_ yX0_smallestChargeFor cX0_smallestChargeFor 6 (some .int)) ({ frames := 2, cells := 0, slots := 0, locals := 49 } : Room) (va_Pc [.ref h0, .int p1] (cmP D ct sz ([] ++ ws))) (va_Qi (fun (r : Int32) (u9 : va_W) => ty_V ct S ph u9) (cmB D ([] ++ ws) sz (fun (u9 : va_W) => ([] ++ u9))) (va_A ([] ++ ws) sz)) 0 0 (va_A ([] ++ ws) sz) := by
  refine Met.ofW (cc := cX0_smallestChargeFor) (maxL := 6) (ret := (some .int)) (by decide) rfl ?_
  intro p e s m args below meth c s₁ B hml hv
  obtain ⟨rfl, hsz, hP, hK, hD0, hX⟩ := hv
  have hx := B.exec
  have hb := B.bytes
  have hr := B.returns
  have hts := ws_all (atoms_spec (ws := ws_ yX0_smallestChargeFor cX0_smallestChargeFor 6 (some .int)) B.pre)
  have hown : s.vm.findClass RX0 = some m.cls := findClass_of_methodNamed B.named
  have hlocks := B.notSynchronized
  subst hsz
  have hD := hD0.self (sz := s.heap.size)
  generalize hAe : va_A ([] ++ ws) s.heap.size = A at hD hX ⊢
  have hA : ∀ q : Nat, s.heap.size ≤ q → A q := fun q h => by rw [← hAe]; exact Or.inr h
  have hS : va_S A s.heap s.heap [] := va_S.rf
  have hl := lv_entry ([.ref h0, .int p1]) (n := 6) (Nat.le_of_ble_eq_true rfl)
  rw [lg_entry_eq]
  generalize (lg_sl ([.ref h0, .int p1]) ++ List.replicate (6 - (lg_sl ([.ref h0, .int p1])).length) Slot.unset).toArray = ls at hl ⊢
  have hl : lv_has ls 6 [(0, .ref h0), (1, .int p1)] := hl
  refine lv_aload_n hx hb dX0_smallestChargeFor_0 rfl (lv_at hl 0 rfl) ?_
  refine lv_aload_n hx hb dX0_smallestChargeFor_1 rfl (lv_at hl 0 rfl) ?_
  refine ty_get (E := []) (ws := ws) (D := D) (ci := 0) (C := RX0) (T := TX0) (N := 16) hx hb hts in_X0 hown hK hP hT h_h0 rfl 8 (by decide) (hts _ kl_RX0_51) (fun _ h9 => h9) rfl dX0_smallestChargeFor_2 (fun _ hv_1 hf_2 => ?_)
  obtain ⟨x_3, rfl⟩ := hv_1
  refine ty_ki (wr := []) (wc := ([] ++ ws)) (va_runV (As := [.int x_3]) (rest := []) ⟨hx, hb, hml, hown, hts⟩ (t_X0_restVoltageAt l D ct S ws ph xx h0 x_3 _ hT h_h0 hph hy1) (cm_V 1 hts kc_X0_restVoltageAt ki_RX0 kl_RX0_84 kv_X0_restVoltageAt kx_X0_restVoltageAt kd_X0_restVoltageAt ⟨Nat.le_of_ble_eq_true rfl, Nat.le_of_ble_eq_true rfl⟩) (ty_preV (wr := []) (E := []) (ws := ws) (ci := 0) hP hK hD hS hA hX hT rfl h_h0) rfl rfl hl.1 rfl (lv_room (Nat.le_of_ble_eq_true rfl)) dX0_smallestChargeFor_5 ⟨Nat.le_of_ble_eq_true rfl, Nat.le_of_ble_eq_true rfl⟩) hP hD hS hA (fun r_4 u H locs hw_5 hP hD hS => ?_)
  obtain ⟨ws_6, rfl⟩ : ∃ z, z = u := ⟨_, rfl⟩
  have hT := hw_5
  have hP : va_P D vwCl ([] ++ ws_6) H := hP
  have hD : va_D A ([] ++ ws_6) := hD
  refine lv_iload_n hx hb dX0_smallestChargeFor_8 rfl (lv_at hl 1 rfl) ?_
  refine lv_icmp_ge (tgt := 14) hx hb dX0_smallestChargeFor_9 (by decide) (fun hc_7 => ?_) (fun hc_7 => ?_)
  · refine lv_iconst (v := 0) hx hb dX0_smallestChargeFor_14 (by decide) ?_
    refine lv_istore_n (lv' := [(2, .int 0), (0, .ref h0), (1, .int p1)]) hx hb dX0_smallestChargeFor_15 rfl hl (by decide) rfl (fun ls hl => ?_)
    refine lv_aload_n hx hb dX0_smallestChargeFor_16 rfl (lv_at hl 1 rfl) ?_
    refine ty_get (E := []) (ws := ws_6) (D := D) (ci := 0) (C := RX0) (T := TX0) (N := 16) hx hb hts in_X0 hown hK hP hT h_h0 rfl 8 (by decide) (hts _ kl_RX0_51) (fun _ h9 => h9) rfl dX0_smallestChargeFor_17 (fun _ hv_8 hf_9 => ?_)
    obtain ⟨x_10, rfl⟩ := hv_8
    refine lv_istore_n (lv' := [(3, .int x_10), (2, .int 0), (0, .ref h0), (1, .int p1)]) hx hb dX0_smallestChargeFor_20 rfl hl (by decide) rfl (fun ls hl => ?_)
    refine lv_iconst (v := 0) hx hb dX0_smallestChargeFor_21 (by decide) ?_
    refine lv_istore (lv' := [(4, .int 0), (3, .int x_10), (2, .int 0), (0, .ref h0), (1, .int p1)]) hx hb dX0_smallestChargeFor_22 hl (by decide) rfl (fun ls hl => ?_)
    refine ty_loop (I := fun μ H locs ls => ∃ (ws : va_W) (y_11 : Int32) (y_12 : Int32) (y_13 : Int32), μ = (2147483648 - y_13.toInt).toNat ∧ ty_V ct S ph ws ∧ va_P D vwCl ([] ++ ws) H ∧ va_D A ([] ++ ws) ∧ va_S A s.heap H locs ∧ lv_has ls 6 [(0, .ref h0), (1, .int p1), (2, .int y_11), (3, .int y_12), (4, .int y_13)]) ⟨_, ws_6, (0 : Int32), x_10, (0 : Int32), rfl, hT, hP, hD, hS, (lv_sub hl [3, 4, 2, 1, 0] rfl)⟩ (fun μ H locs ls hI ih_24 => ?_)
    obtain ⟨ws, y_11, y_12, y_13, rfl, hT, hP, hD, hS, hl⟩ := hI
    refine lv_iload hx hb dX0_smallestChargeFor_24 (lv_at hl 4 rfl) ?_
    refine lv_bipush (v := 32) hx hb dX0_smallestChargeFor_26 (by decide) ?_
    refine lv_icmp_ge (tgt := 70) hx hb dX0_smallestChargeFor_28 (by decide) (fun hc_14 => ?_) (fun hc_14 => ?_)
    · refine lv_iload_n hx hb dX0_smallestChargeFor_70 rfl (lv_at hl 2 rfl) ?_
      exact W.iret (v := y_11) hx hb hr (fun t ht hW => ⟨⟨y_11, ws, rfl, hT, by rw [ht]; exact hP, by rw [hAe]; exact hD⟩, hS.F ht⟩) hS.2.2 dX0_smallestChargeFor_71
    · refine lv_iload_n hx hb dX0_smallestChargeFor_31 rfl (lv_at hl 2 rfl) ?_
      refine lv_iload_n hx hb dX0_smallestChargeFor_32 rfl (lv_at hl 3 rfl) ?_
      refine lv_icmp_ge (tgt := 70) hx hb dX0_smallestChargeFor_33 (by decide) (fun hc_15 => ?_) (fun hc_15 => ?_)
      · refine lv_iload_n hx hb dX0_smallestChargeFor_70 rfl (lv_at hl 2 rfl) ?_
        exact W.iret (v := y_11) hx hb hr (fun t ht hW => ⟨⟨y_11, ws, rfl, hT, by rw [ht]; exact hP, by rw [hAe]; exact hD⟩, hS.F ht⟩) hS.2.2 dX0_smallestChargeFor_71
      · refine lv_iload_n hx hb dX0_smallestChargeFor_36 rfl (lv_at hl 2 rfl) ?_
        refine lv_iload_n hx hb dX0_smallestChargeFor_37 rfl (lv_at hl 3 rfl) ?_
        refine lv_iadd hx hb dX0_smallestChargeFor_38 ?_
        refine lv_topi (fun x_16 _ => ?_)
        refine lv_iconst (v := 2) hx hb dX0_smallestChargeFor_39 (by decide) ?_
        refine lv_idiv hx hb dX0_smallestChargeFor_40 (by decide) ?_
        refine lv_topi (fun x_17 _ => ?_)
        refine lv_istore (lv' := [(5, .int x_17), (0, .ref h0), (1, .int p1), (2, .int y_11), (3, .int y_12), (4, .int y_13)]) hx hb dX0_smallestChargeFor_41 hl (by decide) rfl (fun ls hl => ?_)
        refine lv_aload_n hx hb dX0_smallestChargeFor_43 rfl (lv_at hl 1 rfl) ?_
        refine lv_iload hx hb dX0_smallestChargeFor_44 (lv_at hl 0 rfl) ?_
        refine ty_ki (wr := []) (wc := ([] ++ ws)) (va_runV (As := [.int x_17]) (rest := []) ⟨hx, hb, hml, hown, hts⟩ (t_X0_restVoltageAt l D ct S ws ph xx h0 x_17 _ hT h_h0 hph hy1) (cm_V 1 hts kc_X0_restVoltageAt ki_RX0 kl_RX0_84 kv_X0_restVoltageAt kx_X0_restVoltageAt kd_X0_restVoltageAt ⟨Nat.le_of_ble_eq_true rfl, Nat.le_of_ble_eq_true rfl⟩) (ty_preV (wr := []) (E := []) (ws := ws) (ci := 0) hP hK hD hS hA hX hT rfl h_h0) rfl rfl hl.1 rfl (lv_room (Nat.le_of_ble_eq_true rfl)) dX0_smallestChargeFor_46 ⟨Nat.le_of_ble_eq_true rfl, Nat.le_of_ble_eq_true rfl⟩) hP hD hS hA (fun r_18 u H locs hw_19 hP hD hS => ?_)
        obtain ⟨ws_20, rfl⟩ : ∃ z, z = u := ⟨_, rfl⟩
        have hT := hw_19
        have hP : va_P D vwCl ([] ++ ws_20) H := hP
        have hD : va_D A ([] ++ ws_20) := hD
        refine lv_iload_n hx hb dX0_smallestChargeFor_49 rfl (lv_at hl 2 rfl) ?_
        refine lv_icmp_ge (tgt := 61) hx hb dX0_smallestChargeFor_50 (by decide) (fun hc_21 => ?_) (fun hc_21 => ?_)
        · refine lv_iload hx hb dX0_smallestChargeFor_61 (lv_at hl 0 rfl) ?_
          refine lv_istore_n (lv' := [(3, .int x_17), (5, .int x_17), (0, .ref h0), (1, .int p1), (2, .int y_11), (4, .int y_13)]) hx hb dX0_smallestChargeFor_63 rfl hl (by decide) rfl (fun ls hl => ?_)
          refine lv_iinc (v := (y_13 + Int32.ofInt 1)) (lv' := [(4, .int (y_13 + Int32.ofInt 1)), (3, .int x_17), (5, .int x_17), (0, .ref h0), (1, .int p1), (2, .int y_11)]) hx hb dX0_smallestChargeFor_64 hl (k := 5) rfl rfl (by decide) rfl (fun ls hl => ?_)
          refine lv_goto (tgt := 24) hx hb dX0_smallestChargeFor_67 (by decide) ?_
          exact ih_24 _ _ _ _ (ty_inc (cm_lt hc_14)) ⟨ws_20, y_11, x_17, (y_13 + Int32.ofInt 1), rfl, hT, hP, hD, hS, (lv_sub hl [3, 4, 5, 1, 0] rfl)⟩
        · refine lv_iload hx hb dX0_smallestChargeFor_53 (lv_at hl 0 rfl) ?_
          refine lv_iconst (v := 1) hx hb dX0_smallestChargeFor_55 (by decide) ?_
          refine lv_iadd hx hb dX0_smallestChargeFor_56 ?_
          refine lv_topi (fun x_22 _ => ?_)
          refine lv_istore_n (lv' := [(2, .int x_22), (5, .int x_17), (0, .ref h0), (1, .int p1), (3, .int y_12), (4, .int y_13)]) hx hb dX0_smallestChargeFor_57 rfl hl (by decide) rfl (fun ls hl => ?_)
          refine lv_goto (tgt := 64) hx hb dX0_smallestChargeFor_58 (by decide) ?_
          refine lv_iinc (v := (y_13 + Int32.ofInt 1)) (lv' := [(4, .int (y_13 + Int32.ofInt 1)), (2, .int x_22), (5, .int x_17), (0, .ref h0), (1, .int p1), (3, .int y_12)]) hx hb dX0_smallestChargeFor_64 hl (k := 5) rfl rfl (by decide) rfl (fun ls hl => ?_)
          refine lv_goto (tgt := 24) hx hb dX0_smallestChargeFor_67 (by decide) ?_
          exact ih_24 _ _ _ _ (ty_inc (cm_lt hc_14)) ⟨ws_20, x_22, y_12, (y_13 + Int32.ofInt 1), rfl, hT, hP, hD, hS, (lv_sub hl [3, 4, 1, 5, 0] rfl)⟩
  · refine lv_iconst (v := (-1)) hx hb dX0_smallestChargeFor_12 (by decide) ?_
    exact W.iret (v := (-1)) hx hb hr (fun t ht hW => ⟨⟨(-1), ws_6, rfl, hT, by rw [ht]; exact hP, by rw [hAe]; exact hD⟩, hS.F ht⟩) hS.2.2 dX0_smallestChargeFor_13
theorem dX0_thousandths_0 : decode cX0_thousandths 0 = .ok (.ldc2_w 88, 3) := by decide +kernel
theorem dX0_thousandths_3 : decode cX0_thousandths 3 = .ok (.aload_n 0, 1) := by decide +kernel
theorem dX0_thousandths_4 : decode cX0_thousandths 4 = .ok (.getfield 42, 3) := by decide +kernel
theorem dX0_thousandths_7 : decode cX0_thousandths 7 = .ok (.i2l, 1) := by decide +kernel
theorem dX0_thousandths_8 : decode cX0_thousandths 8 = .ok (.lmul, 1) := by decide +kernel
theorem dX0_thousandths_9 : decode cX0_thousandths 9 = .ok (.aload_n 0, 1) := by decide +kernel
theorem dX0_thousandths_10 : decode cX0_thousandths 10 = .ok (.getfield 51, 3) := by decide +kernel
theorem dX0_thousandths_13 : decode cX0_thousandths 13 = .ok (.i2l, 1) := by decide +kernel
theorem dX0_thousandths_14 : decode cX0_thousandths 14 = .ok (.invokestatic 75, 3) := by decide +kernel
theorem dX0_thousandths_17 : decode cX0_thousandths 17 = .ok (.l2i, 1) := by decide +kernel
theorem dX0_thousandths_18 : decode cX0_thousandths 18 = .ok (.ireturn, 1) := by decide +kernel
set_option maxRecDepth 100000 in
set_option maxHeartbeats 4000000 in
theorem t_X0_thousandths (l : Launch) (D : va_G) (ct : Nat → ClassId) (S : ty_S) (ws : va_W) (ph : va_W → Prop) (xx : Nat → Nat → Nat → Prop) (h0 : Nat) (sz : Nat) (hT : ty_V ct S ph ws) (h_h0 : S h0 = some (.inl 0)) (hph : ty_C ph xx) (hy1 : ty_y1 xx) : Met l yX0_thousandths (ws_ yX0_thousandths cX0_thousandths 1 (some .int)) ({ frames := 1, cells := 0, slots := 0, locals := 23 } : Room) (va_Pc [.ref h0] (cmP D ct sz ([] ++ ws))) (va_Qi (fun (r : Int32) (u9 : va_W) => ty_V ct S ph u9) (cmB D ([] ++ ws) sz (fun (u9 : va_W) => ([] ++ u9))) (va_A ([] ++ ws) sz)) 0 0 (va_A ([] ++ ws) sz) := by
  refine Met.ofW (cc := cX0_thousandths) (maxL := 1) (ret := (some .int)) (by decide) rfl ?_
  intro p e s m args below meth c s₁ B hml hv
  obtain ⟨rfl, hsz, hP, hK, hD0, hX⟩ := hv
  have hx := B.exec
  have hb := B.bytes
  have hr := B.returns
  have hts := ws_all (atoms_spec (ws := ws_ yX0_thousandths cX0_thousandths 1 (some .int)) B.pre)
  have hown : s.vm.findClass RX0 = some m.cls := findClass_of_methodNamed B.named
  have hlocks := B.notSynchronized
  subst hsz
  have hD := hD0.self (sz := s.heap.size)
  generalize hAe : va_A ([] ++ ws) s.heap.size = A at hD hX ⊢
  have hA : ∀ q : Nat, s.heap.size ≤ q → A q := fun q h => by rw [← hAe]; exact Or.inr h
  have hS : va_S A s.heap s.heap [] := va_S.rf
  have hl := lv_entry ([.ref h0]) (n := 1) (Nat.le_of_ble_eq_true rfl)
  rw [lg_entry_eq]
  generalize (lg_sl ([.ref h0]) ++ List.replicate (1 - (lg_sl ([.ref h0])).length) Slot.unset).toArray = ls at hl ⊢
  have hl : lv_has ls 1 [(0, .ref h0)] := hl
  refine lv_ldc2 hx hb hown (hts _ kl_RX0_88) dX0_thousandths_0 ?_
  refine lv_aload_n hx hb dX0_thousandths_3 rfl (lv_at hl 0 rfl) ?_
  refine ty_get (E := []) (ws := ws) (D := D) (ci := 0) (C := RX0) (T := TX0) (N := 16) hx hb hts in_X0 hown hK hP hT h_h0 rfl 6 (by decide) (hts _ kl_RX0_42) (fun _ h9 => h9) rfl dX0_thousandths_4 (fun _ hv_1 hf_2 => ?_)
  obtain ⟨x_3, rfl⟩ := hv_1
  refine lv_i2l hx hb dX0_thousandths_7 rfl ?_
  refine lv_topl (fun x_4 _ => ?_)
  refine lv_lmul hx hb dX0_thousandths_8 ?_
  refine lv_topl (fun x_5 _ => ?_)
  refine lv_aload_n hx hb dX0_thousandths_9 rfl (lv_at hl 0 rfl) ?_
  refine ty_get (E := []) (ws := ws) (D := D) (ci := 0) (C := RX0) (T := TX0) (N := 16) hx hb hts in_X0 hown hK hP hT h_h0 rfl 8 (by decide) (hts _ kl_RX0_51) (fun _ h9 => h9) rfl dX0_thousandths_10 (fun _ hv_6 hf_7 => ?_)
  obtain ⟨x_8, rfl⟩ := hv_6
  refine lv_i2l hx hb dX0_thousandths_13 rfl ?_
  refine lv_topl (fun x_9 _ => ?_)
  refine ty_kl (wr := []) (wc := ([] ++ ws)) (va_runSN (As := [.long x_5, .long x_9]) (rest := []) ⟨hx, hb, hml, hown, hts⟩ (t_X10_quotient l D ct S ws ph xx x_5 x_9 _ hT hph hy1) (cm_SN 2 hts kc_X10_quotient ki_RX10 kl_RX0_75 ks_X10_quotient kd_X10_quotient ⟨Nat.le_of_ble_eq_true rfl, Nat.le_of_ble_eq_true rfl⟩) (ty_preS (wr := []) (wc := ([] ++ ws)) hP hK hD hS hA hX) rfl rfl hl.1 rfl (lv_room (Nat.le_of_ble_eq_true rfl)) dX0_thousandths_14 ⟨Nat.le_of_ble_eq_true rfl, Nat.le_of_ble_eq_true rfl⟩) hP hD hS hA (fun r_10 u H locs hw_11 hP hD hS => ?_)
  obtain ⟨ws_12, rfl⟩ : ∃ z, z = u := ⟨_, rfl⟩
  have hT := hw_11
  have hP : va_P D vwCl ([] ++ ws_12) H := hP
  have hD : va_D A ([] ++ ws_12) := hD
  refine lv_l2i hx hb dX0_thousandths_17 rfl ?_
  refine lv_topi (fun x_13 _ => ?_)
  exact W.iret (v := x_13) hx hb hr (fun t ht hW => ⟨⟨x_13, ws_12, rfl, hT, by rw [ht]; exact hP, by rw [hAe]; exact hD⟩, hS.F ht⟩) hS.2.2 dX0_thousandths_18
theorem dX0_holding_0 : decode cX0_holding 0 = .ok (.iload_n 1, 1) := by decide +kernel
theorem dX0_holding_1 : decode cX0_holding 1 = .ok (.i2l, 1) := by decide +kernel
theorem dX0_holding_2 : decode cX0_holding 2 = .ok (.aload_n 0, 1) := by decide +kernel
theorem dX0_holding_3 : decode cX0_holding 3 = .ok (.aload_n 0, 1) := by decide +kernel
theorem dX0_holding_4 : decode cX0_holding 4 = .ok (.getfield 42, 3) := by decide +kernel
theorem dX0_holding_7 : decode cX0_holding 7 = .ok (.invokevirtual 84, 3) := by decide +kernel
theorem dX0_holding_10 : decode cX0_holding 10 = .ok (.i2l, 1) := by decide +kernel
theorem dX0_holding_11 : decode cX0_holding 11 = .ok (.lsub, 1) := by decide +kernel
theorem dX0_holding_12 : decode cX0_holding 12 = .ok (.aload_n 0, 1) := by decide +kernel
theorem dX0_holding_13 : decode cX0_holding 13 = .ok (.getfield 57, 3) := by decide +kernel
theorem dX0_holding_16 : decode cX0_holding 16 = .ok (.i2l, 1) := by decide +kernel
theorem dX0_holding_17 : decode cX0_holding 17 = .ok (.lsub, 1) := by decide +kernel
theorem dX0_holding_18 : decode cX0_holding 18 = .ok (.lstore_n 2, 1) := by decide +kernel
theorem dX0_holding_19 : decode cX0_holding 19 = .ok (.lload_n 2, 1) := by decide +kernel
theorem dX0_holding_20 : decode cX0_holding 20 = .ok (.ldc2_w 88, 3) := by decide +kernel
theorem dX0_holding_23 : decode cX0_holding 23 = .ok (.lmul, 1) := by decide +kernel
theorem dX0_holding_24 : decode cX0_holding 24 = .ok (.aload_n 0, 1) := by decide +kernel
theorem dX0_holding_25 : decode cX0_holding 25 = .ok (.getfield 90, 3) := by decide +kernel
theorem dX0_holding_28 : decode cX0_holding 28 = .ok (.i2l, 1) := by decide +kernel
theorem dX0_holding_29 : decode cX0_holding 29 = .ok (.invokestatic 75, 3) := by decide +kernel
theorem dX0_holding_32 : decode cX0_holding 32 = .ok (.lstore 4, 2) := by decide +kernel
theorem dX0_holding_34 : decode cX0_holding 34 = .ok (.lconst 0, 1) := by decide +kernel
theorem dX0_holding_35 : decode cX0_holding 35 = .ok (.lload 4, 2) := by decide +kernel
theorem dX0_holding_37 : decode cX0_holding 37 = .ok (.ldc2_w 93, 3) := by decide +kernel
theorem dX0_holding_40 : decode cX0_holding 40 = .ok (.invokestatic 79, 3) := by decide +kernel
theorem dX0_holding_43 : decode cX0_holding 43 = .ok (.invokestatic 95, 3) := by decide +kernel
theorem dX0_holding_46 : decode cX0_holding 46 = .ok (.l2i, 1) := by decide +kernel
theorem dX0_holding_47 : decode cX0_holding 47 = .ok (.ireturn, 1) := by decide +kernel
set_option maxRecDepth 100000 in
set_option maxHeartbeats 4000000 in
theorem t_X0_holding (l : Launch) (D : va_G) (ct : Nat → ClassId) (S : ty_S) (ws : va_W) (ph : va_W → Prop) (xx : Nat → Nat → Nat → Prop) (h0 : Nat) (p1 : Int32) (sz : Nat) (hT : ty_V ct S ph ws) (h_h0 : S h0 = some (.inl 0)) (hph : ty_C ph xx) (hy1 : ty_y1 xx) : Met l yX0_holding (ws_ yX0_holding cX0_holding 6 (some .int)) ({ frames := 2, cells := 0, slots := 0, locals := 49 } : Room) (va_Pc [.ref h0, .int p1] (cmP D ct sz ([] ++ ws))) (va_Qi (fun (r : Int32) (u9 : va_W) => ty_V ct S ph u9) (cmB D ([] ++ ws) sz (fun (u9 : va_W) => ([] ++ u9))) (va_A ([] ++ ws) sz)) 0 0 (va_A ([] ++ ws) sz) := by
  refine Met.ofW (cc := cX0_holding) (maxL := 6) (ret := (some .int)) (by decide) rfl ?_
  intro p e s m args below meth c s₁ B hml hv
  obtain ⟨rfl, hsz, hP, hK, hD0, hX⟩ := hv
  have hx := B.exec
  have hb := B.bytes
  have hr := B.returns
  have hts := ws_all (atoms_spec (ws := ws_ yX0_holding cX0_holding 6 (some .int)) B.pre)
  have hown : s.vm.findClass RX0 = some m.cls := findClass_of_methodNamed B.named
  have hlocks := B.notSynchronized
  subst hsz
  have hD := hD0.self (sz := s.heap.size)
  generalize hAe : va_A ([] ++ ws) s.heap.size = A at hD hX ⊢
  have hA : ∀ q : Nat, s.heap.size ≤ q → A q := fun q h => by rw [← hAe]; exact Or.inr h
  have hS : va_S A s.heap s.heap [] := va_S.rf
  have hl := lv_entry ([.ref h0, .int p1]) (n := 6) (Nat.le_of_ble_eq_true rfl)
  rw [lg_entry_eq]
  generalize (lg_sl ([.ref h0, .int p1]) ++ List.replicate (6 - (lg_sl ([.ref h0, .int p1])).length) Slot.unset).toArray = ls at hl ⊢
  have hl : lv_has ls 6 [(0, .ref h0), (1, .int p1)] := hl
  refine lv_iload_n hx hb dX0_holding_0 rfl (lv_at hl 1 rfl) ?_
  refine lv_i2l hx hb dX0_holding_1 rfl ?_
  refine lv_topl (fun x_1 _ => ?_)
  refine lv_aload_n hx hb dX0_holding_2 rfl (lv_at hl 0 rfl) ?_
  refine lv_aload_n hx hb dX0_holding_3 rfl (lv_at hl 0 rfl) ?_
  refine ty_get (E := []) (ws := ws) (D := D) (ci := 0) (C := RX0) (T := TX0) (N := 16) hx hb hts in_X0 hown hK hP hT h_h0 rfl 6 (by decide) (hts _ kl_RX0_42) (fun _ h9 => h9) rfl dX0_holding_4 (fun _ hv_2 hf_3 => ?_)
  obtain ⟨x_4, rfl⟩ := hv_2
  refine ty_ki (wr := []) (wc := ([] ++ ws)) (va_runV (As := [.int x_4]) (rest := [.long x_1]) ⟨hx, hb, hml, hown, hts⟩ (t_X0_restVoltageAt l D ct S ws ph xx h0 x_4 _ hT h_h0 hph hy1) (cm_V 1 hts kc_X0_restVoltageAt ki_RX0 kl_RX0_84 kv_X0_restVoltageAt kx_X0_restVoltageAt kd_X0_restVoltageAt ⟨Nat.le_of_ble_eq_true rfl, Nat.le_of_ble_eq_true rfl⟩) (ty_preV (wr := []) (E := []) (ws := ws) (ci := 0) hP hK hD hS hA hX hT rfl h_h0) rfl rfl hl.1 rfl (lv_room (Nat.le_of_ble_eq_true rfl)) dX0_holding_7 ⟨Nat.le_of_ble_eq_true rfl, Nat.le_of_ble_eq_true rfl⟩) hP hD hS hA (fun r_5 u H locs hw_6 hP hD hS => ?_)
  obtain ⟨ws_7, rfl⟩ : ∃ z, z = u := ⟨_, rfl⟩
  have hT := hw_6
  have hP : va_P D vwCl ([] ++ ws_7) H := hP
  have hD : va_D A ([] ++ ws_7) := hD
  refine lv_i2l hx hb dX0_holding_10 rfl ?_
  refine lv_topl (fun x_8 _ => ?_)
  refine lv_lsub hx hb dX0_holding_11 ?_
  refine lv_topl (fun x_9 _ => ?_)
  refine lv_aload_n hx hb dX0_holding_12 rfl (lv_at hl 0 rfl) ?_
  refine ty_get (E := []) (ws := ws_7) (D := D) (ci := 0) (C := RX0) (T := TX0) (N := 16) hx hb hts in_X0 hown hK hP hT h_h0 rfl 10 (by decide) (hts _ kl_RX0_57) (fun _ h9 => h9) rfl dX0_holding_13 (fun _ hv_10 hf_11 => ?_)
  obtain ⟨x_12, rfl⟩ := hv_10
  refine lv_i2l hx hb dX0_holding_16 rfl ?_
  refine lv_topl (fun x_13 _ => ?_)
  refine lv_lsub hx hb dX0_holding_17 ?_
  refine lv_topl (fun x_14 _ => ?_)
  refine lv_lstore_n (lv' := [(2, .long x_14), (0, .ref h0), (1, .int p1)]) hx hb dX0_holding_18 rfl hl (by decide) rfl (fun ls hl => ?_)
  refine lv_lload_n hx hb dX0_holding_19 rfl (lv_at hl 0 rfl) ?_
  refine lv_ldc2 hx hb hown (hts _ kl_RX0_88) dX0_holding_20 ?_
  refine lv_lmul hx hb dX0_holding_23 ?_
  refine lv_topl (fun x_15 _ => ?_)
  refine lv_aload_n hx hb dX0_holding_24 rfl (lv_at hl 1 rfl) ?_
  refine ty_get (E := []) (ws := ws_7) (D := D) (ci := 0) (C := RX0) (T := TX0) (N := 16) hx hb hts in_X0 hown hK hP hT h_h0 rfl 3 (by decide) (hts _ kl_RX0_90) (fun _ h9 => h9) rfl dX0_holding_25 (fun _ hv_16 hf_17 => ?_)
  obtain ⟨x_18, rfl⟩ := hv_16
  refine lv_i2l hx hb dX0_holding_28 rfl ?_
  refine lv_topl (fun x_19 _ => ?_)
  refine ty_kl (wr := []) (wc := ([] ++ ws_7)) (va_runSN (As := [.long x_15, .long x_19]) (rest := []) ⟨hx, hb, hml, hown, hts⟩ (t_X10_quotient l D ct S ws_7 ph xx x_15 x_19 _ hT hph hy1) (cm_SN 2 hts kc_X10_quotient ki_RX10 kl_RX0_75 ks_X10_quotient kd_X10_quotient ⟨Nat.le_of_ble_eq_true rfl, Nat.le_of_ble_eq_true rfl⟩) (ty_preS (wr := []) (wc := ([] ++ ws_7)) hP hK hD hS hA hX) rfl rfl hl.1 rfl (lv_room (Nat.le_of_ble_eq_true rfl)) dX0_holding_29 ⟨Nat.le_of_ble_eq_true rfl, Nat.le_of_ble_eq_true rfl⟩) hP hD hS hA (fun r_20 u H locs hw_21 hP hD hS => ?_)
  obtain ⟨ws_22, rfl⟩ : ∃ z, z = u := ⟨_, rfl⟩
  have hT := hw_21
  have hP : va_P D vwCl ([] ++ ws_22) H := hP
  have hD : va_D A ([] ++ ws_22) := hD
  refine lv_lstore (lv' := [(4, .long r_20), (2, .long x_14), (0, .ref h0), (1, .int p1)]) hx hb dX0_holding_32 hl (by decide) rfl (fun ls hl => ?_)
  refine lv_lconst (v := 0) hx hb dX0_holding_34 (by decide) ?_
  refine lv_lload hx hb dX0_holding_35 (lv_at hl 0 rfl) ?_
  refine lv_ldc2 hx hb hown (hts _ kl_RX0_93) dX0_holding_37 ?_
  refine va_mmin_long hx hb (hml.trans hl.1.symm) hown (hts _ kl_RX0_79) (hts _ jm_min_long_s) (hts _ ki_RJ9) (hts _ jm_min_long_c) (Nat.le_of_ble_eq_true rfl) (Nat.le_of_ble_eq_true rfl) (Nat.le_of_ble_eq_true rfl) (Nat.le_of_ble_eq_true rfl) dX0_holding_40 ?_
  refine lv_topl (fun x_23 _ => ?_)
  refine va_mmax_long hx hb (hml.trans hl.1.symm) hown (hts _ kl_RX0_95) (hts _ jm_max_long_s) (hts _ ki_RJ9) (hts _ jm_max_long_c) (Nat.le_of_ble_eq_true rfl) (Nat.le_of_ble_eq_true rfl) (Nat.le_of_ble_eq_true rfl) (Nat.le_of_ble_eq_true rfl) dX0_holding_43 ?_
  refine lv_topl (fun x_24 _ => ?_)
  refine lv_l2i hx hb dX0_holding_46 rfl ?_
  refine lv_topi (fun x_25 _ => ?_)
  exact W.iret (v := x_25) hx hb hr (fun t ht hW => ⟨⟨x_25, ws_22, rfl, hT, by rw [ht]; exact hP, by rw [hAe]; exact hD⟩, hS.F ht⟩) hS.2.2 dX0_holding_47
theorem dX0_allowed_0 : decode cX0_allowed 0 = .ok (.iload_n 1, 1) := by decide +kernel
theorem dX0_allowed_1 : decode cX0_allowed 1 = .ok (.istore_n 3, 1) := by decide +kernel
theorem dX0_allowed_2 : decode cX0_allowed 2 = .ok (.aload_n 2, 1) := by decide +kernel
theorem dX0_allowed_3 : decode cX0_allowed 3 = .ok (.getfield 98, 3) := by decide +kernel
theorem dX0_allowed_6 : decode cX0_allowed 6 = .ok (.ifCond .eq 50, 3) := by decide +kernel
theorem dX0_allowed_9 : decode cX0_allowed 9 = .ok (.aload_n 0, 1) := by decide +kernel
theorem dX0_allowed_10 : decode cX0_allowed 10 = .ok (.getfield 60, 3) := by decide +kernel
theorem dX0_allowed_13 : decode cX0_allowed 13 = .ok (.aload_n 2, 1) := by decide +kernel
theorem dX0_allowed_14 : decode cX0_allowed 14 = .ok (.getfield 103, 3) := by decide +kernel
theorem dX0_allowed_17 : decode cX0_allowed 17 = .ok (.aload_n 2, 1) := by decide +kernel
theorem dX0_allowed_18 : decode cX0_allowed 18 = .ok (.getfield 98, 3) := by decide +kernel
theorem dX0_allowed_21 : decode cX0_allowed 21 = .ok (.isub, 1) := by decide +kernel
theorem dX0_allowed_22 : decode cX0_allowed 22 = .ok (.if_icmp .le 34, 3) := by decide +kernel
theorem dX0_allowed_25 : decode cX0_allowed 25 = .ok (.iconst 0, 1) := by decide +kernel
theorem dX0_allowed_26 : decode cX0_allowed 26 = .ok (.aload_n 2, 1) := by decide +kernel
theorem dX0_allowed_27 : decode cX0_allowed 27 = .ok (.getfield 103, 3) := by decide +kernel
theorem dX0_allowed_30 : decode cX0_allowed 30 = .ok (.aload_n 0, 1) := by decide +kernel
theorem dX0_allowed_31 : decode cX0_allowed 31 = .ok (.getfield 60, 3) := by decide +kernel
theorem dX0_allowed_34 : decode cX0_allowed 34 = .ok (.isub, 1) := by decide +kernel
theorem dX0_allowed_35 : decode cX0_allowed 35 = .ok (.invokestatic 106, 3) := by decide +kernel
theorem dX0_allowed_38 : decode cX0_allowed 38 = .ok (.i2l, 1) := by decide +kernel
theorem dX0_allowed_39 : decode cX0_allowed 39 = .ok (.lstore 4, 2) := by decide +kernel
theorem dX0_allowed_41 : decode cX0_allowed 41 = .ok (.iload_n 3, 1) := by decide +kernel
theorem dX0_allowed_42 : decode cX0_allowed 42 = .ok (.i2l, 1) := by decide +kernel
theorem dX0_allowed_43 : decode cX0_allowed 43 = .ok (.lload 4, 2) := by decide +kernel
theorem dX0_allowed_45 : decode cX0_allowed 45 = .ok (.lmul, 1) := by decide +kernel
theorem dX0_allowed_46 : decode cX0_allowed 46 = .ok (.aload_n 2, 1) := by decide +kernel
theorem dX0_allowed_47 : decode cX0_allowed 47 = .ok (.getfield 98, 3) := by decide +kernel
theorem dX0_allowed_50 : decode cX0_allowed 50 = .ok (.i2l, 1) := by decide +kernel
theorem dX0_allowed_51 : decode cX0_allowed 51 = .ok (.invokestatic 75, 3) := by decide +kernel
theorem dX0_allowed_54 : decode cX0_allowed 54 = .ok (.l2i, 1) := by decide +kernel
theorem dX0_allowed_55 : decode cX0_allowed 55 = .ok (.istore_n 3, 1) := by decide +kernel
theorem dX0_allowed_56 : decode cX0_allowed 56 = .ok (.iload_n 3, 1) := by decide +kernel
theorem dX0_allowed_57 : decode cX0_allowed 57 = .ok (.ifCond .ge 20, 3) := by decide +kernel
theorem dX0_allowed_60 : decode cX0_allowed 60 = .ok (.iload_n 3, 1) := by decide +kernel
theorem dX0_allowed_61 : decode cX0_allowed 61 = .ok (.ineg, 1) := by decide +kernel
theorem dX0_allowed_62 : decode cX0_allowed 62 = .ok (.aload_n 0, 1) := by decide +kernel
theorem dX0_allowed_63 : decode cX0_allowed 63 = .ok (.getfield 42, 3) := by decide +kernel
theorem dX0_allowed_66 : decode cX0_allowed 66 = .ok (.if_icmp .le 11, 3) := by decide +kernel
theorem dX0_allowed_69 : decode cX0_allowed 69 = .ok (.aload_n 0, 1) := by decide +kernel
theorem dX0_allowed_70 : decode cX0_allowed 70 = .ok (.getfield 42, 3) := by decide +kernel
theorem dX0_allowed_73 : decode cX0_allowed 73 = .ok (.ineg, 1) := by decide +kernel
theorem dX0_allowed_74 : decode cX0_allowed 74 = .ok (.goto 4, 3) := by decide +kernel
theorem dX0_allowed_77 : decode cX0_allowed 77 = .ok (.iload_n 3, 1) := by decide +kernel
theorem dX0_allowed_78 : decode cX0_allowed 78 = .ok (.ireturn, 1) := by decide +kernel
set_option maxRecDepth 100000 in
set_option maxHeartbeats 4000000 in
theorem t_X0_allowed (l : Launch) (D : va_G) (ct : Nat → ClassId) (S : ty_S) (ws : va_W) (ph : va_W → Prop) (xx : Nat → Nat → Nat → Prop) (h0 : Nat) (p1 : Int32) (p2 : Nat) (sz : Nat) (hT : ty_V ct S ph ws) (h_h0 : S h0 = some (.inl 0)) (h_p2 : S p2 = some (.inl 7)) (hph : ty_C ph xx) (hy1 : ty_y1 xx) : Met l yX0_allowed (ws_ yX0_allowed cX0_allowed 6 (some .int)) ({ frames := 1, cells := 0, slots := 0, locals := 23 } : Room) (va_Pc [.ref h0, .int p1, .ref p2] (cmP D ct sz ([] ++ ws))) (va_Qi (fun (r : Int32) (u9 : va_W) => ty_V ct S ph u9) (cmB D ([] ++ ws) sz (fun (u9 : va_W) => ([] ++ u9))) (va_A ([] ++ ws) sz)) 0 0 (va_A ([] ++ ws) sz) := by
  refine Met.ofW (cc := cX0_allowed) (maxL := 6) (ret := (some .int)) (by decide) rfl ?_
  intro p e s m args below meth c s₁ B hml hv
  obtain ⟨rfl, hsz, hP, hK, hD0, hX⟩ := hv
  have hx := B.exec
  have hb := B.bytes
  have hr := B.returns
  have hts := ws_all (atoms_spec (ws := ws_ yX0_allowed cX0_allowed 6 (some .int)) B.pre)
  have hown : s.vm.findClass RX0 = some m.cls := findClass_of_methodNamed B.named
  have hlocks := B.notSynchronized
  subst hsz
  have hD := hD0.self (sz := s.heap.size)
  generalize hAe : va_A ([] ++ ws) s.heap.size = A at hD hX ⊢
  have hA : ∀ q : Nat, s.heap.size ≤ q → A q := fun q h => by rw [← hAe]; exact Or.inr h
  have hS : va_S A s.heap s.heap [] := va_S.rf
  have hl := lv_entry ([.ref h0, .int p1, .ref p2]) (n := 6) (Nat.le_of_ble_eq_true rfl)
  rw [lg_entry_eq]
  generalize (lg_sl ([.ref h0, .int p1, .ref p2]) ++ List.replicate (6 - (lg_sl ([.ref h0, .int p1, .ref p2])).length) Slot.unset).toArray = ls at hl ⊢
  have hl : lv_has ls 6 [(0, .ref h0), (1, .int p1), (2, .ref p2)] := hl
  refine lv_iload_n hx hb dX0_allowed_0 rfl (lv_at hl 1 rfl) ?_
  refine lv_istore_n (lv' := [(3, .int p1), (0, .ref h0), (1, .int p1), (2, .ref p2)]) hx hb dX0_allowed_1 rfl hl (by decide) rfl (fun ls hl => ?_)
  refine lv_aload_n hx hb dX0_allowed_2 rfl (lv_at hl 3 rfl) ?_
  refine ty_getN (E := []) (ws := ws) (D := D) (ci := 7) (C := RX7) (T := TX7) (N := 12) hx hb hts in_X7 hown hK hP hT h_p2 rfl 11 (by decide) (hts _ kl_RX0_98) (fun _ h9 => h9) rfl dX0_allowed_3 (fun _ hv_1 hf_2 => ?_)
  obtain ⟨x_3, rfl⟩ := hv_1
  refine lv_if_eq (tgt := 56) hx hb dX0_allowed_6 (by decide) (fun hc_4 => ?_) (fun hc_4 => ?_)
  · refine lv_iload_n hx hb dX0_allowed_56 rfl (lv_at hl 0 rfl) ?_
    refine lv_if_ge (tgt := 77) hx hb dX0_allowed_57 (by decide) (fun hc_5 => ?_) (fun hc_5 => ?_)
    · refine lv_iload_n hx hb dX0_allowed_77 rfl (lv_at hl 0 rfl) ?_
      exact W.iret (v := p1) hx hb hr (fun t ht hW => ⟨⟨p1, ws, rfl, hT, by rw [ht]; exact hP, by rw [hAe]; exact hD⟩, hS.F ht⟩) hS.2.2 dX0_allowed_78
    · refine lv_iload_n hx hb dX0_allowed_60 rfl (lv_at hl 0 rfl) ?_
      refine lv_ineg hx hb dX0_allowed_61 ?_
      refine lv_topi (fun x_6 _ => ?_)
      refine lv_aload_n hx hb dX0_allowed_62 rfl (lv_at hl 1 rfl) ?_
      refine ty_get (E := []) (ws := ws) (D := D) (ci := 0) (C := RX0) (T := TX0) (N := 16) hx hb hts in_X0 hown hK hP hT h_h0 rfl 6 (by decide) (hts _ kl_RX0_42) (fun _ h9 => h9) rfl dX0_allowed_63 (fun _ hv_7 hf_8 => ?_)
      obtain ⟨x_9, rfl⟩ := hv_7
      refine lv_icmp_le (tgt := 77) hx hb dX0_allowed_66 (by decide) (fun hc_10 => ?_) (fun hc_10 => ?_)
      · refine lv_iload_n hx hb dX0_allowed_77 rfl (lv_at hl 0 rfl) ?_
        exact W.iret (v := p1) hx hb hr (fun t ht hW => ⟨⟨p1, ws, rfl, hT, by rw [ht]; exact hP, by rw [hAe]; exact hD⟩, hS.F ht⟩) hS.2.2 dX0_allowed_78
      · refine lv_aload_n hx hb dX0_allowed_69 rfl (lv_at hl 1 rfl) ?_
        refine ty_get (E := []) (ws := ws) (D := D) (ci := 0) (C := RX0) (T := TX0) (N := 16) hx hb hts in_X0 hown hK hP hT h_h0 rfl 6 (by decide) (hts _ kl_RX0_42) (fun _ h9 => h9) rfl dX0_allowed_70 (fun _ hv_11 hf_12 => ?_)
        obtain ⟨x_13, rfl⟩ := hv_11
        refine lv_ineg hx hb dX0_allowed_73 ?_
        refine lv_topi (fun x_14 _ => ?_)
        refine lv_goto (tgt := 78) hx hb dX0_allowed_74 (by decide) ?_
        exact W.iret (v := x_14) hx hb hr (fun t ht hW => ⟨⟨x_14, ws, rfl, hT, by rw [ht]; exact hP, by rw [hAe]; exact hD⟩, hS.F ht⟩) hS.2.2 dX0_allowed_78
  · refine lv_aload_n hx hb dX0_allowed_9 rfl (lv_at hl 1 rfl) ?_
    refine ty_get (E := []) (ws := ws) (D := D) (ci := 0) (C := RX0) (T := TX0) (N := 16) hx hb hts in_X0 hown hK hP hT h_h0 rfl 11 (by decide) (hts _ kl_RX0_60) (fun _ h9 => h9) rfl dX0_allowed_10 (fun _ hv_15 hf_16 => ?_)
    obtain ⟨x_17, rfl⟩ := hv_15
    refine lv_aload_n hx hb dX0_allowed_13 rfl (lv_at hl 3 rfl) ?_
    refine ty_getN (E := []) (ws := ws) (D := D) (ci := 7) (C := RX7) (T := TX7) (N := 12) hx hb hts in_X7 hown hK hP hT h_p2 rfl 6 (by decide) (hts _ kl_RX0_103) (fun _ h9 => h9) rfl dX0_allowed_14 (fun _ hv_18 hf_19 => ?_)
    obtain ⟨x_20, rfl⟩ := hv_18
    refine lv_aload_n hx hb dX0_allowed_17 rfl (lv_at hl 3 rfl) ?_
    refine ty_getN (E := []) (ws := ws) (D := D) (ci := 7) (C := RX7) (T := TX7) (N := 12) hx hb hts in_X7 hown hK hP hT h_p2 rfl 11 (by decide) (hts _ kl_RX0_98) (fun _ h9 => h9) rfl dX0_allowed_18 (fun _ hv_21 hf_22 => ?_)
    obtain ⟨x_23, rfl⟩ := hv_21
    refine lv_isub hx hb dX0_allowed_21 ?_
    refine lv_topi (fun x_24 _ => ?_)
    refine lv_icmp_le (tgt := 56) hx hb dX0_allowed_22 (by decide) (fun hc_25 => ?_) (fun hc_25 => ?_)
    · refine lv_iload_n hx hb dX0_allowed_56 rfl (lv_at hl 0 rfl) ?_
      refine lv_if_ge (tgt := 77) hx hb dX0_allowed_57 (by decide) (fun hc_26 => ?_) (fun hc_26 => ?_)
      · refine lv_iload_n hx hb dX0_allowed_77 rfl (lv_at hl 0 rfl) ?_
        exact W.iret (v := p1) hx hb hr (fun t ht hW => ⟨⟨p1, ws, rfl, hT, by rw [ht]; exact hP, by rw [hAe]; exact hD⟩, hS.F ht⟩) hS.2.2 dX0_allowed_78
      · refine lv_iload_n hx hb dX0_allowed_60 rfl (lv_at hl 0 rfl) ?_
        refine lv_ineg hx hb dX0_allowed_61 ?_
        refine lv_topi (fun x_27 _ => ?_)
        refine lv_aload_n hx hb dX0_allowed_62 rfl (lv_at hl 1 rfl) ?_
        refine ty_get (E := []) (ws := ws) (D := D) (ci := 0) (C := RX0) (T := TX0) (N := 16) hx hb hts in_X0 hown hK hP hT h_h0 rfl 6 (by decide) (hts _ kl_RX0_42) (fun _ h9 => h9) rfl dX0_allowed_63 (fun _ hv_28 hf_29 => ?_)
        obtain ⟨x_30, rfl⟩ := hv_28
        refine lv_icmp_le (tgt := 77) hx hb dX0_allowed_66 (by decide) (fun hc_31 => ?_) (fun hc_31 => ?_)
        · refine lv_iload_n hx hb dX0_allowed_77 rfl (lv_at hl 0 rfl) ?_
          exact W.iret (v := p1) hx hb hr (fun t ht hW => ⟨⟨p1, ws, rfl, hT, by rw [ht]; exact hP, by rw [hAe]; exact hD⟩, hS.F ht⟩) hS.2.2 dX0_allowed_78
        · refine lv_aload_n hx hb dX0_allowed_69 rfl (lv_at hl 1 rfl) ?_
          refine ty_get (E := []) (ws := ws) (D := D) (ci := 0) (C := RX0) (T := TX0) (N := 16) hx hb hts in_X0 hown hK hP hT h_h0 rfl 6 (by decide) (hts _ kl_RX0_42) (fun _ h9 => h9) rfl dX0_allowed_70 (fun _ hv_32 hf_33 => ?_)
          obtain ⟨x_34, rfl⟩ := hv_32
          refine lv_ineg hx hb dX0_allowed_73 ?_
          refine lv_topi (fun x_35 _ => ?_)
          refine lv_goto (tgt := 78) hx hb dX0_allowed_74 (by decide) ?_
          exact W.iret (v := x_35) hx hb hr (fun t ht hW => ⟨⟨x_35, ws, rfl, hT, by rw [ht]; exact hP, by rw [hAe]; exact hD⟩, hS.F ht⟩) hS.2.2 dX0_allowed_78
    · refine lv_iconst (v := 0) hx hb dX0_allowed_25 (by decide) ?_
      refine lv_aload_n hx hb dX0_allowed_26 rfl (lv_at hl 3 rfl) ?_
      refine ty_getN (E := []) (ws := ws) (D := D) (ci := 7) (C := RX7) (T := TX7) (N := 12) hx hb hts in_X7 hown hK hP hT h_p2 rfl 6 (by decide) (hts _ kl_RX0_103) (fun _ h9 => h9) rfl dX0_allowed_27 (fun _ hv_36 hf_37 => ?_)
      obtain ⟨x_38, rfl⟩ := hv_36
      refine lv_aload_n hx hb dX0_allowed_30 rfl (lv_at hl 1 rfl) ?_
      refine ty_get (E := []) (ws := ws) (D := D) (ci := 0) (C := RX0) (T := TX0) (N := 16) hx hb hts in_X0 hown hK hP hT h_h0 rfl 11 (by decide) (hts _ kl_RX0_60) (fun _ h9 => h9) rfl dX0_allowed_31 (fun _ hv_39 hf_40 => ?_)
      obtain ⟨x_41, rfl⟩ := hv_39
      refine lv_isub hx hb dX0_allowed_34 ?_
      refine lv_topi (fun x_42 _ => ?_)
      refine va_mmax hx hb (hml.trans hl.1.symm) hown (hts _ kl_RX0_106) (hts _ jm_max_s) (hts _ ki_RJ9) (hts _ jm_max_c) (Nat.le_of_ble_eq_true rfl) (Nat.le_of_ble_eq_true rfl) (Nat.le_of_ble_eq_true rfl) (Nat.le_of_ble_eq_true rfl) dX0_allowed_35 ?_
      refine lv_topi (fun x_43 _ => ?_)
      refine lv_i2l hx hb dX0_allowed_38 rfl ?_
      refine lv_topl (fun x_44 _ => ?_)
      refine lv_lstore (lv' := [(4, .long x_44), (3, .int p1), (0, .ref h0), (1, .int p1), (2, .ref p2)]) hx hb dX0_allowed_39 hl (by decide) rfl (fun ls hl => ?_)
      refine lv_iload_n hx hb dX0_allowed_41 rfl (lv_at hl 1 rfl) ?_
      refine lv_i2l hx hb dX0_allowed_42 rfl ?_
      refine lv_topl (fun x_45 _ => ?_)
      refine lv_lload hx hb dX0_allowed_43 (lv_at hl 0 rfl) ?_
      refine lv_lmul hx hb dX0_allowed_45 ?_
      refine lv_topl (fun x_46 _ => ?_)
      refine lv_aload_n hx hb dX0_allowed_46 rfl (lv_at hl 4 rfl) ?_
      refine ty_getN (E := []) (ws := ws) (D := D) (ci := 7) (C := RX7) (T := TX7) (N := 12) hx hb hts in_X7 hown hK hP hT h_p2 rfl 11 (by decide) (hts _ kl_RX0_98) (fun _ h9 => h9) rfl dX0_allowed_47 (fun _ hv_47 hf_48 => ?_)
      obtain ⟨x_49, rfl⟩ := hv_47
      refine lv_i2l hx hb dX0_allowed_50 rfl ?_
      refine lv_topl (fun x_50 _ => ?_)
      refine ty_kl (wr := []) (wc := ([] ++ ws)) (va_runSN (As := [.long x_46, .long x_50]) (rest := []) ⟨hx, hb, hml, hown, hts⟩ (t_X10_quotient l D ct S ws ph xx x_46 x_50 _ hT hph hy1) (cm_SN 2 hts kc_X10_quotient ki_RX10 kl_RX0_75 ks_X10_quotient kd_X10_quotient ⟨Nat.le_of_ble_eq_true rfl, Nat.le_of_ble_eq_true rfl⟩) (ty_preS (wr := []) (wc := ([] ++ ws)) hP hK hD hS hA hX) rfl rfl hl.1 rfl (lv_room (Nat.le_of_ble_eq_true rfl)) dX0_allowed_51 ⟨Nat.le_of_ble_eq_true rfl, Nat.le_of_ble_eq_true rfl⟩) hP hD hS hA (fun r_51 u H locs hw_52 hP hD hS => ?_)
      obtain ⟨ws_53, rfl⟩ : ∃ z, z = u := ⟨_, rfl⟩
      have hT := hw_52
      have hP : va_P D vwCl ([] ++ ws_53) H := hP
      have hD : va_D A ([] ++ ws_53) := hD
      refine lv_l2i hx hb dX0_allowed_54 rfl ?_
      refine lv_topi (fun x_54 _ => ?_)
      refine lv_istore_n (lv' := [(3, .int x_54), (4, .long x_44), (0, .ref h0), (1, .int p1), (2, .ref p2)]) hx hb dX0_allowed_55 rfl hl (by decide) rfl (fun ls hl => ?_)
      refine lv_iload_n hx hb dX0_allowed_56 rfl (lv_at hl 0 rfl) ?_
      refine lv_if_ge (tgt := 77) hx hb dX0_allowed_57 (by decide) (fun hc_55 => ?_) (fun hc_55 => ?_)
      · refine lv_iload_n hx hb dX0_allowed_77 rfl (lv_at hl 0 rfl) ?_
        exact W.iret (v := x_54) hx hb hr (fun t ht hW => ⟨⟨x_54, ws_53, rfl, hT, by rw [ht]; exact hP, by rw [hAe]; exact hD⟩, hS.F ht⟩) hS.2.2 dX0_allowed_78
      · refine lv_iload_n hx hb dX0_allowed_60 rfl (lv_at hl 0 rfl) ?_
        refine lv_ineg hx hb dX0_allowed_61 ?_
        refine lv_topi (fun x_56 _ => ?_)
        refine lv_aload_n hx hb dX0_allowed_62 rfl (lv_at hl 2 rfl) ?_
        refine ty_get (E := []) (ws := ws_53) (D := D) (ci := 0) (C := RX0) (T := TX0) (N := 16) hx hb hts in_X0 hown hK hP hT h_h0 rfl 6 (by decide) (hts _ kl_RX0_42) (fun _ h9 => h9) rfl dX0_allowed_63 (fun _ hv_57 hf_58 => ?_)
        obtain ⟨x_59, rfl⟩ := hv_57
        refine lv_icmp_le (tgt := 77) hx hb dX0_allowed_66 (by decide) (fun hc_60 => ?_) (fun hc_60 => ?_)
        · refine lv_iload_n hx hb dX0_allowed_77 rfl (lv_at hl 0 rfl) ?_
          exact W.iret (v := x_54) hx hb hr (fun t ht hW => ⟨⟨x_54, ws_53, rfl, hT, by rw [ht]; exact hP, by rw [hAe]; exact hD⟩, hS.F ht⟩) hS.2.2 dX0_allowed_78
        · refine lv_aload_n hx hb dX0_allowed_69 rfl (lv_at hl 2 rfl) ?_
          refine ty_get (E := []) (ws := ws_53) (D := D) (ci := 0) (C := RX0) (T := TX0) (N := 16) hx hb hts in_X0 hown hK hP hT h_h0 rfl 6 (by decide) (hts _ kl_RX0_42) (fun _ h9 => h9) rfl dX0_allowed_70 (fun _ hv_61 hf_62 => ?_)
          obtain ⟨x_63, rfl⟩ := hv_61
          refine lv_ineg hx hb dX0_allowed_73 ?_
          refine lv_topi (fun x_64 _ => ?_)
          refine lv_goto (tgt := 78) hx hb dX0_allowed_74 (by decide) ?_
          exact W.iret (v := x_64) hx hb hr (fun t ht hW => ⟨⟨x_64, ws_53, rfl, hT, by rw [ht]; exact hP, by rw [hAe]; exact hD⟩, hS.F ht⟩) hS.2.2 dX0_allowed_78
theorem dX0_polarize_0 : decode cX0_polarize 0 = .ok (.iload_n 1, 1) := by decide +kernel
theorem dX0_polarize_1 : decode cX0_polarize 1 = .ok (.aload_n 0, 1) := by decide +kernel
theorem dX0_polarize_2 : decode cX0_polarize 2 = .ok (.getfield 129, 3) := by decide +kernel
theorem dX0_polarize_5 : decode cX0_polarize 5 = .ok (.imul, 1) := by decide +kernel
theorem dX0_polarize_6 : decode cX0_polarize 6 = .ok (.sipush 1000, 3) := by decide +kernel
theorem dX0_polarize_9 : decode cX0_polarize 9 = .ok (.idiv, 1) := by decide +kernel
theorem dX0_polarize_10 : decode cX0_polarize 10 = .ok (.istore_n 2, 1) := by decide +kernel
theorem dX0_polarize_11 : decode cX0_polarize 11 = .ok (.iload_n 2, 1) := by decide +kernel
theorem dX0_polarize_12 : decode cX0_polarize 12 = .ok (.aload_n 0, 1) := by decide +kernel
theorem dX0_polarize_13 : decode cX0_polarize 13 = .ok (.getfield 57, 3) := by decide +kernel
theorem dX0_polarize_16 : decode cX0_polarize 16 = .ok (.isub, 1) := by decide +kernel
theorem dX0_polarize_17 : decode cX0_polarize 17 = .ok (.i2l, 1) := by decide +kernel
theorem dX0_polarize_18 : decode cX0_polarize 18 = .ok (.aload_n 0, 1) := by decide +kernel
theorem dX0_polarize_19 : decode cX0_polarize 19 = .ok (.getfield 132, 3) := by decide +kernel
theorem dX0_polarize_22 : decode cX0_polarize 22 = .ok (.i2l, 1) := by decide +kernel
theorem dX0_polarize_23 : decode cX0_polarize 23 = .ok (.invokestatic 75, 3) := by decide +kernel
theorem dX0_polarize_26 : decode cX0_polarize 26 = .ok (.l2i, 1) := by decide +kernel
theorem dX0_polarize_27 : decode cX0_polarize 27 = .ok (.istore_n 3, 1) := by decide +kernel
theorem dX0_polarize_28 : decode cX0_polarize 28 = .ok (.iload_n 3, 1) := by decide +kernel
theorem dX0_polarize_29 : decode cX0_polarize 29 = .ok (.ifCond .ne 12, 3) := by decide +kernel
theorem dX0_polarize_32 : decode cX0_polarize 32 = .ok (.iload_n 2, 1) := by decide +kernel
theorem dX0_polarize_33 : decode cX0_polarize 33 = .ok (.aload_n 0, 1) := by decide +kernel
theorem dX0_polarize_34 : decode cX0_polarize 34 = .ok (.getfield 57, 3) := by decide +kernel
theorem dX0_polarize_37 : decode cX0_polarize 37 = .ok (.invokestatic 135, 3) := by decide +kernel
theorem dX0_polarize_40 : decode cX0_polarize 40 = .ok (.istore_n 3, 1) := by decide +kernel
theorem dX0_polarize_41 : decode cX0_polarize 41 = .ok (.aload_n 0, 1) := by decide +kernel
theorem dX0_polarize_42 : decode cX0_polarize 42 = .ok (.dup, 1) := by decide +kernel
theorem dX0_polarize_43 : decode cX0_polarize 43 = .ok (.getfield 57, 3) := by decide +kernel
theorem dX0_polarize_46 : decode cX0_polarize 46 = .ok (.iload_n 3, 1) := by decide +kernel
theorem dX0_polarize_47 : decode cX0_polarize 47 = .ok (.iadd, 1) := by decide +kernel
theorem dX0_polarize_48 : decode cX0_polarize 48 = .ok (.putfield 57, 3) := by decide +kernel
theorem dX0_polarize_51 : decode cX0_polarize 51 = .ok (.return_, 1) := by decide +kernel
set_option maxRecDepth 100000 in
set_option maxHeartbeats 4000000 in
theorem t_X0_polarize (l : Launch) (D : va_G) (ct : Nat → ClassId) (S : ty_S) (ws : va_W) (ph : va_W → Prop) (xx : Nat → Nat → Nat → Prop) (h0 : Nat) (p1 : Int32) (sz : Nat) (hT : ty_V ct S ph ws) (h_h0 : S h0 = some (.inl 0)) (hph : ty_C ph xx) (hy1 : ty_y1 xx) : Met l yX0_polarize (ws_ yX0_polarize cX0_polarize 4 none) ({ frames := 1, cells := 0, slots := 0, locals := 23 } : Room) (va_Pc [.ref h0, .int p1] (cmP D ct sz ([] ++ ws))) (va_Qv (fun (u9 : va_W) => ty_V ct S ph u9) (cmB D ([] ++ ws) sz (fun (u9 : va_W) => ([] ++ u9))) (va_A ([] ++ ws) sz)) 0 0 (va_A ([] ++ ws) sz) := by
  refine Met.ofW (cc := cX0_polarize) (maxL := 4) (ret := none) (by decide) rfl ?_
  intro p e s m args below meth c s₁ B hml hv
  obtain ⟨rfl, hsz, hP, hK, hD0, hX⟩ := hv
  have hx := B.exec
  have hb := B.bytes
  have hr := B.returns
  have hts := ws_all (atoms_spec (ws := ws_ yX0_polarize cX0_polarize 4 none) B.pre)
  have hown : s.vm.findClass RX0 = some m.cls := findClass_of_methodNamed B.named
  have hlocks := B.notSynchronized
  subst hsz
  have hD := hD0.self (sz := s.heap.size)
  generalize hAe : va_A ([] ++ ws) s.heap.size = A at hD hX ⊢
  have hA : ∀ q : Nat, s.heap.size ≤ q → A q := fun q h => by rw [← hAe]; exact Or.inr h
  have hS : va_S A s.heap s.heap [] := va_S.rf
  have hl := lv_entry ([.ref h0, .int p1]) (n := 4) (Nat.le_of_ble_eq_true rfl)
  rw [lg_entry_eq]
  generalize (lg_sl ([.ref h0, .int p1]) ++ List.replicate (4 - (lg_sl ([.ref h0, .int p1])).length) Slot.unset).toArray = ls at hl ⊢
  have hl : lv_has ls 4 [(0, .ref h0), (1, .int p1)] := hl
  refine lv_iload_n hx hb dX0_polarize_0 rfl (lv_at hl 1 rfl) ?_
  refine lv_aload_n hx hb dX0_polarize_1 rfl (lv_at hl 0 rfl) ?_
  refine ty_get (E := []) (ws := ws) (D := D) (ci := 0) (C := RX0) (T := TX0) (N := 16) hx hb hts in_X0 hown hK hP hT h_h0 rfl 4 (by decide) (hts _ kl_RX0_129) (fun _ h9 => h9) rfl dX0_polarize_2 (fun _ hv_1 hf_2 => ?_)
  obtain ⟨x_3, rfl⟩ := hv_1
  refine lv_imul hx hb dX0_polarize_5 ?_
  refine lv_topi (fun x_4 _ => ?_)
  refine lv_sipush (v := 1000) hx hb dX0_polarize_6 (by decide) ?_
  refine lv_idiv hx hb dX0_polarize_9 (by decide) ?_
  refine lv_topi (fun x_5 _ => ?_)
  refine lv_istore_n (lv' := [(2, .int x_5), (0, .ref h0), (1, .int p1)]) hx hb dX0_polarize_10 rfl hl (by decide) rfl (fun ls hl => ?_)
  refine lv_iload_n hx hb dX0_polarize_11 rfl (lv_at hl 0 rfl) ?_
  refine lv_aload_n hx hb dX0_polarize_12 rfl (lv_at hl 1 rfl) ?_
  refine ty_get (E := []) (ws := ws) (D := D) (ci := 0) (C := RX0) (T := TX0) (N := 16) hx hb hts in_X0 hown hK hP hT h_h0 rfl 10 (by decide) (hts _ kl_RX0_57) (fun _ h9 => h9) rfl dX0_polarize_13 (fun _ hv_6 hf_7 => ?_)
  obtain ⟨x_8, rfl⟩ := hv_6
  refine lv_isub hx hb dX0_polarize_16 ?_
  refine lv_topi (fun x_9 _ => ?_)
  refine lv_i2l hx hb dX0_polarize_17 rfl ?_
  refine lv_topl (fun x_10 _ => ?_)
  refine lv_aload_n hx hb dX0_polarize_18 rfl (lv_at hl 1 rfl) ?_
  refine ty_get (E := []) (ws := ws) (D := D) (ci := 0) (C := RX0) (T := TX0) (N := 16) hx hb hts in_X0 hown hK hP hT h_h0 rfl 5 (by decide) (hts _ kl_RX0_132) (fun _ h9 => h9) rfl dX0_polarize_19 (fun _ hv_11 hf_12 => ?_)
  obtain ⟨x_13, rfl⟩ := hv_11
  refine lv_i2l hx hb dX0_polarize_22 rfl ?_
  refine lv_topl (fun x_14 _ => ?_)
  refine ty_kl (wr := []) (wc := ([] ++ ws)) (va_runSN (As := [.long x_10, .long x_14]) (rest := []) ⟨hx, hb, hml, hown, hts⟩ (t_X10_quotient l D ct S ws ph xx x_10 x_14 _ hT hph hy1) (cm_SN 2 hts kc_X10_quotient ki_RX10 kl_RX0_75 ks_X10_quotient kd_X10_quotient ⟨Nat.le_of_ble_eq_true rfl, Nat.le_of_ble_eq_true rfl⟩) (ty_preS (wr := []) (wc := ([] ++ ws)) hP hK hD hS hA hX) rfl rfl hl.1 rfl (lv_room (Nat.le_of_ble_eq_true rfl)) dX0_polarize_23 ⟨Nat.le_of_ble_eq_true rfl, Nat.le_of_ble_eq_true rfl⟩) hP hD hS hA (fun r_15 u H locs hw_16 hP hD hS => ?_)
  obtain ⟨ws_17, rfl⟩ : ∃ z, z = u := ⟨_, rfl⟩
  have hT := hw_16
  have hP : va_P D vwCl ([] ++ ws_17) H := hP
  have hD : va_D A ([] ++ ws_17) := hD
  refine lv_l2i hx hb dX0_polarize_26 rfl ?_
  refine lv_topi (fun x_18 _ => ?_)
  refine lv_istore_n (lv' := [(3, .int x_18), (2, .int x_5), (0, .ref h0), (1, .int p1)]) hx hb dX0_polarize_27 rfl hl (by decide) rfl (fun ls hl => ?_)
  refine lv_iload_n hx hb dX0_polarize_28 rfl (lv_at hl 0 rfl) ?_
  refine lv_if_ne (tgt := 41) hx hb dX0_polarize_29 (by decide) (fun hc_19 => ?_) (fun hc_19 => ?_)
  · refine lv_aload_n hx hb dX0_polarize_41 rfl (lv_at hl 2 rfl) ?_
    refine lv_dup hx hb dX0_polarize_42 rfl ?_
    refine ty_get (E := []) (ws := ws_17) (D := D) (ci := 0) (C := RX0) (T := TX0) (N := 16) hx hb hts in_X0 hown hK hP hT h_h0 rfl 10 (by decide) (hts _ kl_RX0_57) (fun _ h9 => h9) rfl dX0_polarize_43 (fun _ hv_20 hf_21 => ?_)
    obtain ⟨x_22, rfl⟩ := hv_20
    refine lv_iload_n hx hb dX0_polarize_46 rfl (lv_at hl 0 rfl) ?_
    refine lv_iadd hx hb dX0_polarize_47 ?_
    refine lv_topi (fun x_23 _ => ?_)
    refine ty_put (v := .int x_23) (ty := .int) (E := []) (ws := ws_17) (D := D) (ci := 0) (C := RX0) (T := TX0) (N := 16) hx hb hts in_X0 tyX0 tyX0_ok nmX0 hown hK hP hD hS hT h_h0 rfl 10 (by decide) (hts _ kl_RX0_57) (fun _ h9 => h9) rfl (by decide +kernel) rfl rfl rfl ⟨_, rfl⟩ dX0_polarize_48 hph (hy1 0 10 h0 rfl) (fun ws_24 H locs hT hP hD hS => ?_)
    exact W.vret hx hb hr (fun t ht hW => ⟨⟨ws_24, rfl, hT, by rw [ht]; exact hP, by rw [hAe]; exact hD⟩, hS.F ht⟩) hS.2.2 dX0_polarize_51
  · refine lv_iload_n hx hb dX0_polarize_32 rfl (lv_at hl 1 rfl) ?_
    refine lv_aload_n hx hb dX0_polarize_33 rfl (lv_at hl 2 rfl) ?_
    refine ty_get (E := []) (ws := ws_17) (D := D) (ci := 0) (C := RX0) (T := TX0) (N := 16) hx hb hts in_X0 hown hK hP hT h_h0 rfl 10 (by decide) (hts _ kl_RX0_57) (fun _ h9 => h9) rfl dX0_polarize_34 (fun _ hv_25 hf_26 => ?_)
    obtain ⟨x_27, rfl⟩ := hv_25
    refine ty_ki (wr := []) (wc := ([] ++ ws_17)) (va_runS (As := [.int x_5, .int x_27]) (rest := []) ⟨hx, hb, hml, hown, hts⟩ (t_J6_compare_7cf53 l D ct S ws_17 ph xx x_5 x_27 _ hT hph hy1) (cm_S 2 hts kc_J6_compare_7cf53 ki_RJ6 kl_RX0_135 ks_J6_compare_7cf53 kd_J6_compare_7cf53 ⟨Nat.le_of_ble_eq_true rfl, Nat.le_of_ble_eq_true rfl⟩) (ty_preS (wr := []) (wc := ([] ++ ws_17)) hP hK hD hS hA hX) rfl rfl hl.1 rfl (lv_room (Nat.le_of_ble_eq_true rfl)) dX0_polarize_37 ⟨Nat.le_of_ble_eq_true rfl, Nat.le_of_ble_eq_true rfl⟩) hP hD hS hA (fun r_28 u H locs hw_29 hP hD hS => ?_)
    obtain ⟨ws_30, rfl⟩ : ∃ z, z = u := ⟨_, rfl⟩
    have hT := hw_29
    have hP : va_P D vwCl ([] ++ ws_30) H := hP
    have hD : va_D A ([] ++ ws_30) := hD
    refine lv_istore_n (lv' := [(3, .int r_28), (2, .int x_5), (0, .ref h0), (1, .int p1)]) hx hb dX0_polarize_40 rfl hl (by decide) rfl (fun ls hl => ?_)
    refine lv_aload_n hx hb dX0_polarize_41 rfl (lv_at hl 2 rfl) ?_
    refine lv_dup hx hb dX0_polarize_42 rfl ?_
    refine ty_get (E := []) (ws := ws_30) (D := D) (ci := 0) (C := RX0) (T := TX0) (N := 16) hx hb hts in_X0 hown hK hP hT h_h0 rfl 10 (by decide) (hts _ kl_RX0_57) (fun _ h9 => h9) rfl dX0_polarize_43 (fun _ hv_31 hf_32 => ?_)
    obtain ⟨x_33, rfl⟩ := hv_31
    refine lv_iload_n hx hb dX0_polarize_46 rfl (lv_at hl 0 rfl) ?_
    refine lv_iadd hx hb dX0_polarize_47 ?_
    refine lv_topi (fun x_34 _ => ?_)
    refine ty_put (v := .int x_34) (ty := .int) (E := []) (ws := ws_30) (D := D) (ci := 0) (C := RX0) (T := TX0) (N := 16) hx hb hts in_X0 tyX0 tyX0_ok nmX0 hown hK hP hD hS hT h_h0 rfl 10 (by decide) (hts _ kl_RX0_57) (fun _ h9 => h9) rfl (by decide +kernel) rfl rfl rfl ⟨_, rfl⟩ dX0_polarize_48 hph (hy1 0 10 h0 rfl) (fun ws_35 H locs hT hP hD hS => ?_)
    exact W.vret hx hb hr (fun t ht hW => ⟨⟨ws_35, rfl, hT, by rw [ht]; exact hP, by rw [hAe]; exact hD⟩, hS.F ht⟩) hS.2.2 dX0_polarize_51
theorem dX0_wear_0 : decode cX0_wear 0 = .ok (.aload_n 0, 1) := by decide +kernel
theorem dX0_wear_1 : decode cX0_wear 1 = .ok (.dup, 1) := by decide +kernel
theorem dX0_wear_2 : decode cX0_wear 2 = .ok (.getfield 54, 3) := by decide +kernel
theorem dX0_wear_5 : decode cX0_wear 5 = .ok (.iload_n 1, 1) := by decide +kernel
theorem dX0_wear_6 : decode cX0_wear 6 = .ok (.ifCond .ge 8, 3) := by decide +kernel
theorem dX0_wear_9 : decode cX0_wear 9 = .ok (.iload_n 1, 1) := by decide +kernel
theorem dX0_wear_10 : decode cX0_wear 10 = .ok (.ineg, 1) := by decide +kernel
theorem dX0_wear_11 : decode cX0_wear 11 = .ok (.goto 4, 3) := by decide +kernel
theorem dX0_wear_14 : decode cX0_wear 14 = .ok (.iload_n 1, 1) := by decide +kernel
theorem dX0_wear_15 : decode cX0_wear 15 = .ok (.iadd, 1) := by decide +kernel
theorem dX0_wear_16 : decode cX0_wear 16 = .ok (.putfield 54, 3) := by decide +kernel
theorem dX0_wear_19 : decode cX0_wear 19 = .ok (.aload_n 0, 1) := by decide +kernel
theorem dX0_wear_20 : decode cX0_wear 20 = .ok (.getfield 54, 3) := by decide +kernel
theorem dX0_wear_23 : decode cX0_wear 23 = .ok (.i2l, 1) := by decide +kernel
theorem dX0_wear_24 : decode cX0_wear 24 = .ok (.aload_n 2, 1) := by decide +kernel
theorem dX0_wear_25 : decode cX0_wear 25 = .ok (.getfield 151, 3) := by decide +kernel
theorem dX0_wear_28 : decode cX0_wear 28 = .ok (.i2l, 1) := by decide +kernel
theorem dX0_wear_29 : decode cX0_wear 29 = .ok (.invokestatic 75, 3) := by decide +kernel
theorem dX0_wear_32 : decode cX0_wear 32 = .ok (.l2i, 1) := by decide +kernel
theorem dX0_wear_33 : decode cX0_wear 33 = .ok (.istore_n 3, 1) := by decide +kernel
theorem dX0_wear_34 : decode cX0_wear 34 = .ok (.aload_n 0, 1) := by decide +kernel
theorem dX0_wear_35 : decode cX0_wear 35 = .ok (.aload_n 0, 1) := by decide +kernel
theorem dX0_wear_36 : decode cX0_wear 36 = .ok (.getfield 51, 3) := by decide +kernel
theorem dX0_wear_39 : decode cX0_wear 39 = .ok (.iload_n 3, 1) := by decide +kernel
theorem dX0_wear_40 : decode cX0_wear 40 = .ok (.isub, 1) := by decide +kernel
theorem dX0_wear_41 : decode cX0_wear 41 = .ok (.aload_n 0, 1) := by decide +kernel
theorem dX0_wear_42 : decode cX0_wear 42 = .ok (.getfield 48, 3) := by decide +kernel
theorem dX0_wear_45 : decode cX0_wear 45 = .ok (.iconst 2, 1) := by decide +kernel
theorem dX0_wear_46 : decode cX0_wear 46 = .ok (.idiv, 1) := by decide +kernel
theorem dX0_wear_47 : decode cX0_wear 47 = .ok (.invokestatic 106, 3) := by decide +kernel
theorem dX0_wear_50 : decode cX0_wear 50 = .ok (.putfield 51, 3) := by decide +kernel
theorem dX0_wear_53 : decode cX0_wear 53 = .ok (.aload_n 0, 1) := by decide +kernel
theorem dX0_wear_54 : decode cX0_wear 54 = .ok (.aload_n 0, 1) := by decide +kernel
theorem dX0_wear_55 : decode cX0_wear 55 = .ok (.getfield 54, 3) := by decide +kernel
theorem dX0_wear_58 : decode cX0_wear 58 = .ok (.i2l, 1) := by decide +kernel
theorem dX0_wear_59 : decode cX0_wear 59 = .ok (.aload_n 2, 1) := by decide +kernel
theorem dX0_wear_60 : decode cX0_wear 60 = .ok (.getfield 151, 3) := by decide +kernel
theorem dX0_wear_63 : decode cX0_wear 63 = .ok (.i2l, 1) := by decide +kernel
theorem dX0_wear_64 : decode cX0_wear 64 = .ok (.invokestatic 154, 3) := by decide +kernel
theorem dX0_wear_67 : decode cX0_wear 67 = .ok (.l2i, 1) := by decide +kernel
theorem dX0_wear_68 : decode cX0_wear 68 = .ok (.putfield 54, 3) := by decide +kernel
theorem dX0_wear_71 : decode cX0_wear 71 = .ok (.return_, 1) := by decide +kernel
set_option maxRecDepth 100000 in
set_option maxHeartbeats 4000000 in
theorem t_X0_wear (l : Launch) (D : va_G) (ct : Nat → ClassId) (S : ty_S) (ws : va_W) (ph : va_W → Prop) (xx : Nat → Nat → Nat → Prop) (h0 : Nat) (p1 : Int32) (p2 : Nat) (sz : Nat) (hT : ty_V ct S ph ws) (h_h0 : S h0 = some (.inl 0)) (h_p2 : S p2 = some (.inl 7)) (hph : ty_C ph xx) (hy1 : ty_y1 xx) : Met l yX0_wear (ws_ yX0_wear cX0_wear 4 none) ({ frames := 1, cells := 0, slots := 0, locals := 23 } : Room) (va_Pc [.ref h0, .int p1, .ref p2] (cmP D ct sz ([] ++ ws))) (va_Qv (fun (u9 : va_W) => ty_V ct S ph u9) (cmB D ([] ++ ws) sz (fun (u9 : va_W) => ([] ++ u9))) (va_A ([] ++ ws) sz)) 0 0 (va_A ([] ++ ws) sz) := by
  refine Met.ofW (cc := cX0_wear) (maxL := 4) (ret := none) (by decide) rfl ?_
  intro p e s m args below meth c s₁ B hml hv
  obtain ⟨rfl, hsz, hP, hK, hD0, hX⟩ := hv
  have hx := B.exec
  have hb := B.bytes
  have hr := B.returns
  have hts := ws_all (atoms_spec (ws := ws_ yX0_wear cX0_wear 4 none) B.pre)
  have hown : s.vm.findClass RX0 = some m.cls := findClass_of_methodNamed B.named
  have hlocks := B.notSynchronized
  subst hsz
  have hD := hD0.self (sz := s.heap.size)
  generalize hAe : va_A ([] ++ ws) s.heap.size = A at hD hX ⊢
  have hA : ∀ q : Nat, s.heap.size ≤ q → A q := fun q h => by rw [← hAe]; exact Or.inr h
  have hS : va_S A s.heap s.heap [] := va_S.rf
  have hl := lv_entry ([.ref h0, .int p1, .ref p2]) (n := 4) (Nat.le_of_ble_eq_true rfl)
  rw [lg_entry_eq]
  generalize (lg_sl ([.ref h0, .int p1, .ref p2]) ++ List.replicate (4 - (lg_sl ([.ref h0, .int p1, .ref p2])).length) Slot.unset).toArray = ls at hl ⊢
  have hl : lv_has ls 4 [(0, .ref h0), (1, .int p1), (2, .ref p2)] := hl
  refine lv_aload_n hx hb dX0_wear_0 rfl (lv_at hl 0 rfl) ?_
  refine lv_dup hx hb dX0_wear_1 rfl ?_
  refine ty_get (E := []) (ws := ws) (D := D) (ci := 0) (C := RX0) (T := TX0) (N := 16) hx hb hts in_X0 hown hK hP hT h_h0 rfl 9 (by decide) (hts _ kl_RX0_54) (fun _ h9 => h9) rfl dX0_wear_2 (fun _ hv_1 hf_2 => ?_)
  obtain ⟨x_3, rfl⟩ := hv_1
  refine lv_iload_n hx hb dX0_wear_5 rfl (lv_at hl 1 rfl) ?_
  refine lv_if_ge (tgt := 14) hx hb dX0_wear_6 (by decide) (fun hc_4 => ?_) (fun hc_4 => ?_)
  · refine lv_iload_n hx hb dX0_wear_14 rfl (lv_at hl 1 rfl) ?_
    refine lv_iadd hx hb dX0_wear_15 ?_
    refine lv_topi (fun x_5 _ => ?_)
    refine ty_put (v := .int x_5) (ty := .int) (E := []) (ws := ws) (D := D) (ci := 0) (C := RX0) (T := TX0) (N := 16) hx hb hts in_X0 tyX0 tyX0_ok nmX0 hown hK hP hD hS hT h_h0 rfl 9 (by decide) (hts _ kl_RX0_54) (fun _ h9 => h9) rfl (by decide +kernel) rfl rfl rfl ⟨_, rfl⟩ dX0_wear_16 hph (hy1 0 9 h0 rfl) (fun ws_6 H locs hT hP hD hS => ?_)
    refine lv_aload_n hx hb dX0_wear_19 rfl (lv_at hl 0 rfl) ?_
    refine ty_get (E := []) (ws := ws_6) (D := D) (ci := 0) (C := RX0) (T := TX0) (N := 16) hx hb hts in_X0 hown hK hP hT h_h0 rfl 9 (by decide) (hts _ kl_RX0_54) (fun _ h9 => h9) rfl dX0_wear_20 (fun _ hv_7 hf_8 => ?_)
    obtain ⟨x_9, rfl⟩ := hv_7
    refine lv_i2l hx hb dX0_wear_23 rfl ?_
    refine lv_topl (fun x_10 _ => ?_)
    refine lv_aload_n hx hb dX0_wear_24 rfl (lv_at hl 2 rfl) ?_
    refine ty_getN (E := []) (ws := ws_6) (D := D) (ci := 7) (C := RX7) (T := TX7) (N := 12) hx hb hts in_X7 hown hK hP hT h_p2 rfl 1 (by decide) (hts _ kl_RX0_151) (fun _ h9 => h9) rfl dX0_wear_25 (fun _ hv_11 hf_12 => ?_)
    obtain ⟨x_13, rfl⟩ := hv_11
    refine lv_i2l hx hb dX0_wear_28 rfl ?_
    refine lv_topl (fun x_14 _ => ?_)
    refine ty_kl (wr := []) (wc := ([] ++ ws_6)) (va_runSN (As := [.long x_10, .long x_14]) (rest := []) ⟨hx, hb, hml, hown, hts⟩ (t_X10_quotient l D ct S ws_6 ph xx x_10 x_14 _ hT hph hy1) (cm_SN 2 hts kc_X10_quotient ki_RX10 kl_RX0_75 ks_X10_quotient kd_X10_quotient ⟨Nat.le_of_ble_eq_true rfl, Nat.le_of_ble_eq_true rfl⟩) (ty_preS (wr := []) (wc := ([] ++ ws_6)) hP hK hD hS hA hX) rfl rfl hl.1 rfl (lv_room (Nat.le_of_ble_eq_true rfl)) dX0_wear_29 ⟨Nat.le_of_ble_eq_true rfl, Nat.le_of_ble_eq_true rfl⟩) hP hD hS hA (fun r_15 u H locs hw_16 hP hD hS => ?_)
    obtain ⟨ws_17, rfl⟩ : ∃ z, z = u := ⟨_, rfl⟩
    have hT := hw_16
    have hP : va_P D vwCl ([] ++ ws_17) H := hP
    have hD : va_D A ([] ++ ws_17) := hD
    refine lv_l2i hx hb dX0_wear_32 rfl ?_
    refine lv_topi (fun x_18 _ => ?_)
    refine lv_istore_n (lv' := [(3, .int x_18), (0, .ref h0), (1, .int p1), (2, .ref p2)]) hx hb dX0_wear_33 rfl hl (by decide) rfl (fun ls hl => ?_)
    refine lv_aload_n hx hb dX0_wear_34 rfl (lv_at hl 1 rfl) ?_
    refine lv_aload_n hx hb dX0_wear_35 rfl (lv_at hl 1 rfl) ?_
    refine ty_get (E := []) (ws := ws_17) (D := D) (ci := 0) (C := RX0) (T := TX0) (N := 16) hx hb hts in_X0 hown hK hP hT h_h0 rfl 8 (by decide) (hts _ kl_RX0_51) (fun _ h9 => h9) rfl dX0_wear_36 (fun _ hv_19 hf_20 => ?_)
    obtain ⟨x_21, rfl⟩ := hv_19
    refine lv_iload_n hx hb dX0_wear_39 rfl (lv_at hl 0 rfl) ?_
    refine lv_isub hx hb dX0_wear_40 ?_
    refine lv_topi (fun x_22 _ => ?_)
    refine lv_aload_n hx hb dX0_wear_41 rfl (lv_at hl 1 rfl) ?_
    refine ty_get (E := []) (ws := ws_17) (D := D) (ci := 0) (C := RX0) (T := TX0) (N := 16) hx hb hts in_X0 hown hK hP hT h_h0 rfl 2 (by decide) (hts _ kl_RX0_48) (fun _ h9 => h9) rfl dX0_wear_42 (fun _ hv_23 hf_24 => ?_)
    obtain ⟨x_25, rfl⟩ := hv_23
    refine lv_iconst (v := 2) hx hb dX0_wear_45 (by decide) ?_
    refine lv_idiv hx hb dX0_wear_46 (by decide) ?_
    refine lv_topi (fun x_26 _ => ?_)
    refine va_mmax hx hb (hml.trans hl.1.symm) hown (hts _ kl_RX0_106) (hts _ jm_max_s) (hts _ ki_RJ9) (hts _ jm_max_c) (Nat.le_of_ble_eq_true rfl) (Nat.le_of_ble_eq_true rfl) (Nat.le_of_ble_eq_true rfl) (Nat.le_of_ble_eq_true rfl) dX0_wear_47 ?_
    refine lv_topi (fun x_27 _ => ?_)
    refine ty_put (v := .int x_27) (ty := .int) (E := []) (ws := ws_17) (D := D) (ci := 0) (C := RX0) (T := TX0) (N := 16) hx hb hts in_X0 tyX0 tyX0_ok nmX0 hown hK hP hD hS hT h_h0 rfl 8 (by decide) (hts _ kl_RX0_51) (fun _ h9 => h9) rfl (by decide +kernel) rfl rfl rfl ⟨_, rfl⟩ dX0_wear_50 hph (hy1 0 8 h0 rfl) (fun ws_28 H locs hT hP hD hS => ?_)
    refine lv_aload_n hx hb dX0_wear_53 rfl (lv_at hl 1 rfl) ?_
    refine lv_aload_n hx hb dX0_wear_54 rfl (lv_at hl 1 rfl) ?_
    refine ty_get (E := []) (ws := ws_28) (D := D) (ci := 0) (C := RX0) (T := TX0) (N := 16) hx hb hts in_X0 hown hK hP hT h_h0 rfl 9 (by decide) (hts _ kl_RX0_54) (fun _ h9 => h9) rfl dX0_wear_55 (fun _ hv_29 hf_30 => ?_)
    obtain ⟨x_31, rfl⟩ := hv_29
    refine lv_i2l hx hb dX0_wear_58 rfl ?_
    refine lv_topl (fun x_32 _ => ?_)
    refine lv_aload_n hx hb dX0_wear_59 rfl (lv_at hl 3 rfl) ?_
    refine ty_getN (E := []) (ws := ws_28) (D := D) (ci := 7) (C := RX7) (T := TX7) (N := 12) hx hb hts in_X7 hown hK hP hT h_p2 rfl 1 (by decide) (hts _ kl_RX0_151) (fun _ h9 => h9) rfl dX0_wear_60 (fun _ hv_33 hf_34 => ?_)
    obtain ⟨x_35, rfl⟩ := hv_33
    refine lv_i2l hx hb dX0_wear_63 rfl ?_
    refine lv_topl (fun x_36 _ => ?_)
    refine ty_kl (wr := []) (wc := ([] ++ ws_28)) (va_runSN (As := [.long x_32, .long x_36]) (rest := [.ref h0]) ⟨hx, hb, hml, hown, hts⟩ (t_X10_remainder l D ct S ws_28 ph xx x_32 x_36 _ hT hph hy1) (cm_SN 2 hts kc_X10_remainder ki_RX10 kl_RX0_154 ks_X10_remainder kd_X10_remainder ⟨Nat.le_of_ble_eq_true rfl, Nat.le_of_ble_eq_true rfl⟩) (ty_preS (wr := []) (wc := ([] ++ ws_28)) hP hK hD hS hA hX) rfl rfl hl.1 rfl (lv_room (Nat.le_of_ble_eq_true rfl)) dX0_wear_64 ⟨Nat.le_of_ble_eq_true rfl, Nat.le_of_ble_eq_true rfl⟩) hP hD hS hA (fun r_37 u H locs hw_38 hP hD hS => ?_)
    obtain ⟨ws_39, rfl⟩ : ∃ z, z = u := ⟨_, rfl⟩
    have hT := hw_38
    have hP : va_P D vwCl ([] ++ ws_39) H := hP
    have hD : va_D A ([] ++ ws_39) := hD
    refine lv_l2i hx hb dX0_wear_67 rfl ?_
    refine lv_topi (fun x_40 _ => ?_)
    refine ty_put (v := .int x_40) (ty := .int) (E := []) (ws := ws_39) (D := D) (ci := 0) (C := RX0) (T := TX0) (N := 16) hx hb hts in_X0 tyX0 tyX0_ok nmX0 hown hK hP hD hS hT h_h0 rfl 9 (by decide) (hts _ kl_RX0_54) (fun _ h9 => h9) rfl (by decide +kernel) rfl rfl rfl ⟨_, rfl⟩ dX0_wear_68 hph (hy1 0 9 h0 rfl) (fun ws_41 H locs hT hP hD hS => ?_)
    exact W.vret hx hb hr (fun t ht hW => ⟨⟨ws_41, rfl, hT, by rw [ht]; exact hP, by rw [hAe]; exact hD⟩, hS.F ht⟩) hS.2.2 dX0_wear_71
  · refine lv_iload_n hx hb dX0_wear_9 rfl (lv_at hl 1 rfl) ?_
    refine lv_ineg hx hb dX0_wear_10 ?_
    refine lv_topi (fun x_42 _ => ?_)
    refine lv_goto (tgt := 15) hx hb dX0_wear_11 (by decide) ?_
    refine lv_iadd hx hb dX0_wear_15 ?_
    refine lv_topi (fun x_43 _ => ?_)
    refine ty_put (v := .int x_43) (ty := .int) (E := []) (ws := ws) (D := D) (ci := 0) (C := RX0) (T := TX0) (N := 16) hx hb hts in_X0 tyX0 tyX0_ok nmX0 hown hK hP hD hS hT h_h0 rfl 9 (by decide) (hts _ kl_RX0_54) (fun _ h9 => h9) rfl (by decide +kernel) rfl rfl rfl ⟨_, rfl⟩ dX0_wear_16 hph (hy1 0 9 h0 rfl) (fun ws_44 H locs hT hP hD hS => ?_)
    refine lv_aload_n hx hb dX0_wear_19 rfl (lv_at hl 0 rfl) ?_
    refine ty_get (E := []) (ws := ws_44) (D := D) (ci := 0) (C := RX0) (T := TX0) (N := 16) hx hb hts in_X0 hown hK hP hT h_h0 rfl 9 (by decide) (hts _ kl_RX0_54) (fun _ h9 => h9) rfl dX0_wear_20 (fun _ hv_45 hf_46 => ?_)
    obtain ⟨x_47, rfl⟩ := hv_45
    refine lv_i2l hx hb dX0_wear_23 rfl ?_
    refine lv_topl (fun x_48 _ => ?_)
    refine lv_aload_n hx hb dX0_wear_24 rfl (lv_at hl 2 rfl) ?_
    refine ty_getN (E := []) (ws := ws_44) (D := D) (ci := 7) (C := RX7) (T := TX7) (N := 12) hx hb hts in_X7 hown hK hP hT h_p2 rfl 1 (by decide) (hts _ kl_RX0_151) (fun _ h9 => h9) rfl dX0_wear_25 (fun _ hv_49 hf_50 => ?_)
    obtain ⟨x_51, rfl⟩ := hv_49
    refine lv_i2l hx hb dX0_wear_28 rfl ?_
    refine lv_topl (fun x_52 _ => ?_)
    refine ty_kl (wr := []) (wc := ([] ++ ws_44)) (va_runSN (As := [.long x_48, .long x_52]) (rest := []) ⟨hx, hb, hml, hown, hts⟩ (t_X10_quotient l D ct S ws_44 ph xx x_48 x_52 _ hT hph hy1) (cm_SN 2 hts kc_X10_quotient ki_RX10 kl_RX0_75 ks_X10_quotient kd_X10_quotient ⟨Nat.le_of_ble_eq_true rfl, Nat.le_of_ble_eq_true rfl⟩) (ty_preS (wr := []) (wc := ([] ++ ws_44)) hP hK hD hS hA hX) rfl rfl hl.1 rfl (lv_room (Nat.le_of_ble_eq_true rfl)) dX0_wear_29 ⟨Nat.le_of_ble_eq_true rfl, Nat.le_of_ble_eq_true rfl⟩) hP hD hS hA (fun r_53 u H locs hw_54 hP hD hS => ?_)
    obtain ⟨ws_55, rfl⟩ : ∃ z, z = u := ⟨_, rfl⟩
    have hT := hw_54
    have hP : va_P D vwCl ([] ++ ws_55) H := hP
    have hD : va_D A ([] ++ ws_55) := hD
    refine lv_l2i hx hb dX0_wear_32 rfl ?_
    refine lv_topi (fun x_56 _ => ?_)
    refine lv_istore_n (lv' := [(3, .int x_56), (0, .ref h0), (1, .int p1), (2, .ref p2)]) hx hb dX0_wear_33 rfl hl (by decide) rfl (fun ls hl => ?_)
    refine lv_aload_n hx hb dX0_wear_34 rfl (lv_at hl 1 rfl) ?_
    refine lv_aload_n hx hb dX0_wear_35 rfl (lv_at hl 1 rfl) ?_
    refine ty_get (E := []) (ws := ws_55) (D := D) (ci := 0) (C := RX0) (T := TX0) (N := 16) hx hb hts in_X0 hown hK hP hT h_h0 rfl 8 (by decide) (hts _ kl_RX0_51) (fun _ h9 => h9) rfl dX0_wear_36 (fun _ hv_57 hf_58 => ?_)
    obtain ⟨x_59, rfl⟩ := hv_57
    refine lv_iload_n hx hb dX0_wear_39 rfl (lv_at hl 0 rfl) ?_
    refine lv_isub hx hb dX0_wear_40 ?_
    refine lv_topi (fun x_60 _ => ?_)
    refine lv_aload_n hx hb dX0_wear_41 rfl (lv_at hl 1 rfl) ?_
    refine ty_get (E := []) (ws := ws_55) (D := D) (ci := 0) (C := RX0) (T := TX0) (N := 16) hx hb hts in_X0 hown hK hP hT h_h0 rfl 2 (by decide) (hts _ kl_RX0_48) (fun _ h9 => h9) rfl dX0_wear_42 (fun _ hv_61 hf_62 => ?_)
    obtain ⟨x_63, rfl⟩ := hv_61
    refine lv_iconst (v := 2) hx hb dX0_wear_45 (by decide) ?_
    refine lv_idiv hx hb dX0_wear_46 (by decide) ?_
    refine lv_topi (fun x_64 _ => ?_)
    refine va_mmax hx hb (hml.trans hl.1.symm) hown (hts _ kl_RX0_106) (hts _ jm_max_s) (hts _ ki_RJ9) (hts _ jm_max_c) (Nat.le_of_ble_eq_true rfl) (Nat.le_of_ble_eq_true rfl) (Nat.le_of_ble_eq_true rfl) (Nat.le_of_ble_eq_true rfl) dX0_wear_47 ?_
    refine lv_topi (fun x_65 _ => ?_)
    refine ty_put (v := .int x_65) (ty := .int) (E := []) (ws := ws_55) (D := D) (ci := 0) (C := RX0) (T := TX0) (N := 16) hx hb hts in_X0 tyX0 tyX0_ok nmX0 hown hK hP hD hS hT h_h0 rfl 8 (by decide) (hts _ kl_RX0_51) (fun _ h9 => h9) rfl (by decide +kernel) rfl rfl rfl ⟨_, rfl⟩ dX0_wear_50 hph (hy1 0 8 h0 rfl) (fun ws_66 H locs hT hP hD hS => ?_)
    refine lv_aload_n hx hb dX0_wear_53 rfl (lv_at hl 1 rfl) ?_
    refine lv_aload_n hx hb dX0_wear_54 rfl (lv_at hl 1 rfl) ?_
    refine ty_get (E := []) (ws := ws_66) (D := D) (ci := 0) (C := RX0) (T := TX0) (N := 16) hx hb hts in_X0 hown hK hP hT h_h0 rfl 9 (by decide) (hts _ kl_RX0_54) (fun _ h9 => h9) rfl dX0_wear_55 (fun _ hv_67 hf_68 => ?_)
    obtain ⟨x_69, rfl⟩ := hv_67
    refine lv_i2l hx hb dX0_wear_58 rfl ?_
    refine lv_topl (fun x_70 _ => ?_)
    refine lv_aload_n hx hb dX0_wear_59 rfl (lv_at hl 3 rfl) ?_
    refine ty_getN (E := []) (ws := ws_66) (D := D) (ci := 7) (C := RX7) (T := TX7) (N := 12) hx hb hts in_X7 hown hK hP hT h_p2 rfl 1 (by decide) (hts _ kl_RX0_151) (fun _ h9 => h9) rfl dX0_wear_60 (fun _ hv_71 hf_72 => ?_)
    obtain ⟨x_73, rfl⟩ := hv_71
    refine lv_i2l hx hb dX0_wear_63 rfl ?_
    refine lv_topl (fun x_74 _ => ?_)
    refine ty_kl (wr := []) (wc := ([] ++ ws_66)) (va_runSN (As := [.long x_70, .long x_74]) (rest := [.ref h0]) ⟨hx, hb, hml, hown, hts⟩ (t_X10_remainder l D ct S ws_66 ph xx x_70 x_74 _ hT hph hy1) (cm_SN 2 hts kc_X10_remainder ki_RX10 kl_RX0_154 ks_X10_remainder kd_X10_remainder ⟨Nat.le_of_ble_eq_true rfl, Nat.le_of_ble_eq_true rfl⟩) (ty_preS (wr := []) (wc := ([] ++ ws_66)) hP hK hD hS hA hX) rfl rfl hl.1 rfl (lv_room (Nat.le_of_ble_eq_true rfl)) dX0_wear_64 ⟨Nat.le_of_ble_eq_true rfl, Nat.le_of_ble_eq_true rfl⟩) hP hD hS hA (fun r_75 u H locs hw_76 hP hD hS => ?_)
    obtain ⟨ws_77, rfl⟩ : ∃ z, z = u := ⟨_, rfl⟩
    have hT := hw_76
    have hP : va_P D vwCl ([] ++ ws_77) H := hP
    have hD : va_D A ([] ++ ws_77) := hD
    refine lv_l2i hx hb dX0_wear_67 rfl ?_
    refine lv_topi (fun x_78 _ => ?_)
    refine ty_put (v := .int x_78) (ty := .int) (E := []) (ws := ws_77) (D := D) (ci := 0) (C := RX0) (T := TX0) (N := 16) hx hb hts in_X0 tyX0 tyX0_ok nmX0 hown hK hP hD hS hT h_h0 rfl 9 (by decide) (hts _ kl_RX0_54) (fun _ h9 => h9) rfl (by decide +kernel) rfl rfl rfl ⟨_, rfl⟩ dX0_wear_68 hph (hy1 0 9 h0 rfl) (fun ws_79 H locs hT hP hD hS => ?_)
    exact W.vret hx hb hr (fun t ht hW => ⟨⟨ws_79, rfl, hT, by rw [ht]; exact hP, by rw [hAe]; exact hD⟩, hS.F ht⟩) hS.2.2 dX0_wear_71
theorem dX0_warm_0 : decode cX0_warm 0 = .ok (.aload_n 0, 1) := by decide +kernel
theorem dX0_warm_1 : decode cX0_warm 1 = .ok (.dup, 1) := by decide +kernel
theorem dX0_warm_2 : decode cX0_warm 2 = .ok (.getfield 63, 3) := by decide +kernel
theorem dX0_warm_5 : decode cX0_warm 5 = .ok (.iload_n 1, 1) := by decide +kernel
theorem dX0_warm_6 : decode cX0_warm 6 = .ok (.iload_n 1, 1) := by decide +kernel
theorem dX0_warm_7 : decode cX0_warm 7 = .ok (.imul, 1) := by decide +kernel
theorem dX0_warm_8 : decode cX0_warm 8 = .ok (.sipush 1000, 3) := by decide +kernel
theorem dX0_warm_11 : decode cX0_warm 11 = .ok (.idiv, 1) := by decide +kernel
theorem dX0_warm_12 : decode cX0_warm 12 = .ok (.aload_n 0, 1) := by decide +kernel
theorem dX0_warm_13 : decode cX0_warm 13 = .ok (.getfield 90, 3) := by decide +kernel
theorem dX0_warm_16 : decode cX0_warm 16 = .ok (.imul, 1) := by decide +kernel
theorem dX0_warm_17 : decode cX0_warm 17 = .ok (.sipush 1000, 3) := by decide +kernel
theorem dX0_warm_20 : decode cX0_warm 20 = .ok (.idiv, 1) := by decide +kernel
theorem dX0_warm_21 : decode cX0_warm 21 = .ok (.aload_n 0, 1) := by decide +kernel
theorem dX0_warm_22 : decode cX0_warm 22 = .ok (.getfield 60, 3) := by decide +kernel
theorem dX0_warm_25 : decode cX0_warm 25 = .ok (.aload_n 2, 1) := by decide +kernel
theorem dX0_warm_26 : decode cX0_warm 26 = .ok (.getfield 157, 3) := by decide +kernel
theorem dX0_warm_29 : decode cX0_warm 29 = .ok (.isub, 1) := by decide +kernel
theorem dX0_warm_30 : decode cX0_warm 30 = .ok (.aload_n 2, 1) := by decide +kernel
theorem dX0_warm_31 : decode cX0_warm 31 = .ok (.getfield 160, 3) := by decide +kernel
theorem dX0_warm_34 : decode cX0_warm 34 = .ok (.imul, 1) := by decide +kernel
theorem dX0_warm_35 : decode cX0_warm 35 = .ok (.isub, 1) := by decide +kernel
theorem dX0_warm_36 : decode cX0_warm 36 = .ok (.iadd, 1) := by decide +kernel
theorem dX0_warm_37 : decode cX0_warm 37 = .ok (.putfield 63, 3) := by decide +kernel
theorem dX0_warm_40 : decode cX0_warm 40 = .ok (.aload_n 0, 1) := by decide +kernel
theorem dX0_warm_41 : decode cX0_warm 41 = .ok (.dup, 1) := by decide +kernel
theorem dX0_warm_42 : decode cX0_warm 42 = .ok (.getfield 60, 3) := by decide +kernel
theorem dX0_warm_45 : decode cX0_warm 45 = .ok (.aload_n 0, 1) := by decide +kernel
theorem dX0_warm_46 : decode cX0_warm 46 = .ok (.getfield 63, 3) := by decide +kernel
theorem dX0_warm_49 : decode cX0_warm 49 = .ok (.i2l, 1) := by decide +kernel
theorem dX0_warm_50 : decode cX0_warm 50 = .ok (.aload_n 2, 1) := by decide +kernel
theorem dX0_warm_51 : decode cX0_warm 51 = .ok (.getfield 163, 3) := by decide +kernel
theorem dX0_warm_54 : decode cX0_warm 54 = .ok (.i2l, 1) := by decide +kernel
theorem dX0_warm_55 : decode cX0_warm 55 = .ok (.invokestatic 75, 3) := by decide +kernel
theorem dX0_warm_58 : decode cX0_warm 58 = .ok (.l2i, 1) := by decide +kernel
theorem dX0_warm_59 : decode cX0_warm 59 = .ok (.iadd, 1) := by decide +kernel
theorem dX0_warm_60 : decode cX0_warm 60 = .ok (.putfield 60, 3) := by decide +kernel
theorem dX0_warm_63 : decode cX0_warm 63 = .ok (.aload_n 0, 1) := by decide +kernel
theorem dX0_warm_64 : decode cX0_warm 64 = .ok (.aload_n 0, 1) := by decide +kernel
theorem dX0_warm_65 : decode cX0_warm 65 = .ok (.getfield 63, 3) := by decide +kernel
theorem dX0_warm_68 : decode cX0_warm 68 = .ok (.i2l, 1) := by decide +kernel
theorem dX0_warm_69 : decode cX0_warm 69 = .ok (.aload_n 2, 1) := by decide +kernel
theorem dX0_warm_70 : decode cX0_warm 70 = .ok (.getfield 163, 3) := by decide +kernel
theorem dX0_warm_73 : decode cX0_warm 73 = .ok (.i2l, 1) := by decide +kernel
theorem dX0_warm_74 : decode cX0_warm 74 = .ok (.invokestatic 154, 3) := by decide +kernel
theorem dX0_warm_77 : decode cX0_warm 77 = .ok (.l2i, 1) := by decide +kernel
theorem dX0_warm_78 : decode cX0_warm 78 = .ok (.putfield 63, 3) := by decide +kernel
theorem dX0_warm_81 : decode cX0_warm 81 = .ok (.return_, 1) := by decide +kernel
set_option maxRecDepth 100000 in
set_option maxHeartbeats 4000000 in
theorem t_X0_warm (l : Launch) (D : va_G) (ct : Nat → ClassId) (S : ty_S) (ws : va_W) (ph : va_W → Prop) (xx : Nat → Nat → Nat → Prop) (h0 : Nat) (p1 : Int32) (p2 : Nat) (sz : Nat) (hT : ty_V ct S ph ws) (h_h0 : S h0 = some (.inl 0)) (h_p2 : S p2 = some (.inl 7)) (hph : ty_C ph xx) (hy1 : ty_y1 xx) : Met l yX0_warm (ws_ yX0_warm cX0_warm 3 none) ({ frames := 1, cells := 0, slots := 0, locals := 23 } : Room) (va_Pc [.ref h0, .int p1, .ref p2] (cmP D ct sz ([] ++ ws))) (va_Qv (fun (u9 : va_W) => ty_V ct S ph u9) (cmB D ([] ++ ws) sz (fun (u9 : va_W) => ([] ++ u9))) (va_A ([] ++ ws) sz)) 0 0 (va_A ([] ++ ws) sz) := by
  refine Met.ofW (cc := cX0_warm) (maxL := 3) (ret := none) (by decide) rfl ?_
  intro p e s m args below meth c s₁ B hml hv
  obtain ⟨rfl, hsz, hP, hK, hD0, hX⟩ := hv
  have hx := B.exec
  have hb := B.bytes
  have hr := B.returns
  have hts := ws_all (atoms_spec (ws := ws_ yX0_warm cX0_warm 3 none) B.pre)
  have hown : s.vm.findClass RX0 = some m.cls := findClass_of_methodNamed B.named
  have hlocks := B.notSynchronized
  subst hsz
  have hD := hD0.self (sz := s.heap.size)
  generalize hAe : va_A ([] ++ ws) s.heap.size = A at hD hX ⊢
  have hA : ∀ q : Nat, s.heap.size ≤ q → A q := fun q h => by rw [← hAe]; exact Or.inr h
  have hS : va_S A s.heap s.heap [] := va_S.rf
  have hl := lv_entry ([.ref h0, .int p1, .ref p2]) (n := 3) (Nat.le_of_ble_eq_true rfl)
  rw [lg_entry_eq]
  generalize (lg_sl ([.ref h0, .int p1, .ref p2]) ++ List.replicate (3 - (lg_sl ([.ref h0, .int p1, .ref p2])).length) Slot.unset).toArray = ls at hl ⊢
  have hl : lv_has ls 3 [(0, .ref h0), (1, .int p1), (2, .ref p2)] := hl
  refine lv_aload_n hx hb dX0_warm_0 rfl (lv_at hl 0 rfl) ?_
  refine lv_dup hx hb dX0_warm_1 rfl ?_
  refine ty_get (E := []) (ws := ws) (D := D) (ci := 0) (C := RX0) (T := TX0) (N := 16) hx hb hts in_X0 hown hK hP hT h_h0 rfl 12 (by decide) (hts _ kl_RX0_63) (fun _ h9 => h9) rfl dX0_warm_2 (fun _ hv_1 hf_2 => ?_)
  obtain ⟨x_3, rfl⟩ := hv_1
  refine lv_iload_n hx hb dX0_warm_5 rfl (lv_at hl 1 rfl) ?_
  refine lv_iload_n hx hb dX0_warm_6 rfl (lv_at hl 1 rfl) ?_
  refine lv_imul hx hb dX0_warm_7 ?_
  refine lv_topi (fun x_4 _ => ?_)
  refine lv_sipush (v := 1000) hx hb dX0_warm_8 (by decide) ?_
  refine lv_idiv hx hb dX0_warm_11 (by decide) ?_
  refine lv_topi (fun x_5 _ => ?_)
  refine lv_aload_n hx hb dX0_warm_12 rfl (lv_at hl 0 rfl) ?_
  refine ty_get (E := []) (ws := ws) (D := D) (ci := 0) (C := RX0) (T := TX0) (N := 16) hx hb hts in_X0 hown hK hP hT h_h0 rfl 3 (by decide) (hts _ kl_RX0_90) (fun _ h9 => h9) rfl dX0_warm_13 (fun _ hv_6 hf_7 => ?_)
  obtain ⟨x_8, rfl⟩ := hv_6
  refine lv_imul hx hb dX0_warm_16 ?_
  refine lv_topi (fun x_9 _ => ?_)
  refine lv_sipush (v := 1000) hx hb dX0_warm_17 (by decide) ?_
  refine lv_idiv hx hb dX0_warm_20 (by decide) ?_
  refine lv_topi (fun x_10 _ => ?_)
  refine lv_aload_n hx hb dX0_warm_21 rfl (lv_at hl 0 rfl) ?_
  refine ty_get (E := []) (ws := ws) (D := D) (ci := 0) (C := RX0) (T := TX0) (N := 16) hx hb hts in_X0 hown hK hP hT h_h0 rfl 11 (by decide) (hts _ kl_RX0_60) (fun _ h9 => h9) rfl dX0_warm_22 (fun _ hv_11 hf_12 => ?_)
  obtain ⟨x_13, rfl⟩ := hv_11
  refine lv_aload_n hx hb dX0_warm_25 rfl (lv_at hl 2 rfl) ?_
  refine ty_getN (E := []) (ws := ws) (D := D) (ci := 7) (C := RX7) (T := TX7) (N := 12) hx hb hts in_X7 hown hK hP hT h_p2 rfl 7 (by decide) (hts _ kl_RX0_157) (fun _ h9 => h9) rfl dX0_warm_26 (fun _ hv_14 hf_15 => ?_)
  obtain ⟨x_16, rfl⟩ := hv_14
  refine lv_isub hx hb dX0_warm_29 ?_
  refine lv_topi (fun x_17 _ => ?_)
  refine lv_aload_n hx hb dX0_warm_30 rfl (lv_at hl 2 rfl) ?_
  refine ty_getN (E := []) (ws := ws) (D := D) (ci := 7) (C := RX7) (T := TX7) (N := 12) hx hb hts in_X7 hown hK hP hT h_p2 rfl 3 (by decide) (hts _ kl_RX0_160) (fun _ h9 => h9) rfl dX0_warm_31 (fun _ hv_18 hf_19 => ?_)
  obtain ⟨x_20, rfl⟩ := hv_18
  refine lv_imul hx hb dX0_warm_34 ?_
  refine lv_topi (fun x_21 _ => ?_)
  refine lv_isub hx hb dX0_warm_35 ?_
  refine lv_topi (fun x_22 _ => ?_)
  refine lv_iadd hx hb dX0_warm_36 ?_
  refine lv_topi (fun x_23 _ => ?_)
  refine ty_put (v := .int x_23) (ty := .int) (E := []) (ws := ws) (D := D) (ci := 0) (C := RX0) (T := TX0) (N := 16) hx hb hts in_X0 tyX0 tyX0_ok nmX0 hown hK hP hD hS hT h_h0 rfl 12 (by decide) (hts _ kl_RX0_63) (fun _ h9 => h9) rfl (by decide +kernel) rfl rfl rfl ⟨_, rfl⟩ dX0_warm_37 hph (hy1 0 12 h0 rfl) (fun ws_24 H locs hT hP hD hS => ?_)
  refine lv_aload_n hx hb dX0_warm_40 rfl (lv_at hl 0 rfl) ?_
  refine lv_dup hx hb dX0_warm_41 rfl ?_
  refine ty_get (E := []) (ws := ws_24) (D := D) (ci := 0) (C := RX0) (T := TX0) (N := 16) hx hb hts in_X0 hown hK hP hT h_h0 rfl 11 (by decide) (hts _ kl_RX0_60) (fun _ h9 => h9) rfl dX0_warm_42 (fun _ hv_25 hf_26 => ?_)
  obtain ⟨x_27, rfl⟩ := hv_25
  refine lv_aload_n hx hb dX0_warm_45 rfl (lv_at hl 0 rfl) ?_
  refine ty_get (E := []) (ws := ws_24) (D := D) (ci := 0) (C := RX0) (T := TX0) (N := 16) hx hb hts in_X0 hown hK hP hT h_h0 rfl 12 (by decide) (hts _ kl_RX0_63) (fun _ h9 => h9) rfl dX0_warm_46 (fun _ hv_28 hf_29 => ?_)
  obtain ⟨x_30, rfl⟩ := hv_28
  refine lv_i2l hx hb dX0_warm_49 rfl ?_
  refine lv_topl (fun x_31 _ => ?_)
  refine lv_aload_n hx hb dX0_warm_50 rfl (lv_at hl 2 rfl) ?_
  refine ty_getN (E := []) (ws := ws_24) (D := D) (ci := 7) (C := RX7) (T := TX7) (N := 12) hx hb hts in_X7 hown hK hP hT h_p2 rfl 2 (by decide) (hts _ kl_RX0_163) (fun _ h9 => h9) rfl dX0_warm_51 (fun _ hv_32 hf_33 => ?_)
  obtain ⟨x_34, rfl⟩ := hv_32
  refine lv_i2l hx hb dX0_warm_54 rfl ?_
  refine lv_topl (fun x_35 _ => ?_)
  refine ty_kl (wr := []) (wc := ([] ++ ws_24)) (va_runSN (As := [.long x_31, .long x_35]) (rest := [.int x_27, .ref h0]) ⟨hx, hb, hml, hown, hts⟩ (t_X10_quotient l D ct S ws_24 ph xx x_31 x_35 _ hT hph hy1) (cm_SN 2 hts kc_X10_quotient ki_RX10 kl_RX0_75 ks_X10_quotient kd_X10_quotient ⟨Nat.le_of_ble_eq_true rfl, Nat.le_of_ble_eq_true rfl⟩) (ty_preS (wr := []) (wc := ([] ++ ws_24)) hP hK hD hS hA hX) rfl rfl hl.1 rfl (lv_room (Nat.le_of_ble_eq_true rfl)) dX0_warm_55 ⟨Nat.le_of_ble_eq_true rfl, Nat.le_of_ble_eq_true rfl⟩) hP hD hS hA (fun r_36 u H locs hw_37 hP hD hS => ?_)
  obtain ⟨ws_38, rfl⟩ : ∃ z, z = u := ⟨_, rfl⟩
  have hT := hw_37
  have hP : va_P D vwCl ([] ++ ws_38) H := hP
  have hD : va_D A ([] ++ ws_38) := hD
  refine lv_l2i hx hb dX0_warm_58 rfl ?_
  refine lv_topi (fun x_39 _ => ?_)
  refine lv_iadd hx hb dX0_warm_59 ?_
  refine lv_topi (fun x_40 _ => ?_)
  refine ty_put (v := .int x_40) (ty := .int) (E := []) (ws := ws_38) (D := D) (ci := 0) (C := RX0) (T := TX0) (N := 16) hx hb hts in_X0 tyX0 tyX0_ok nmX0 hown hK hP hD hS hT h_h0 rfl 11 (by decide) (hts _ kl_RX0_60) (fun _ h9 => h9) rfl (by decide +kernel) rfl rfl rfl ⟨_, rfl⟩ dX0_warm_60 hph (hy1 0 11 h0 rfl) (fun ws_41 H locs hT hP hD hS => ?_)
  refine lv_aload_n hx hb dX0_warm_63 rfl (lv_at hl 0 rfl) ?_
  refine lv_aload_n hx hb dX0_warm_64 rfl (lv_at hl 0 rfl) ?_
  refine ty_get (E := []) (ws := ws_41) (D := D) (ci := 0) (C := RX0) (T := TX0) (N := 16) hx hb hts in_X0 hown hK hP hT h_h0 rfl 12 (by decide) (hts _ kl_RX0_63) (fun _ h9 => h9) rfl dX0_warm_65 (fun _ hv_42 hf_43 => ?_)
  obtain ⟨x_44, rfl⟩ := hv_42
  refine lv_i2l hx hb dX0_warm_68 rfl ?_
  refine lv_topl (fun x_45 _ => ?_)
  refine lv_aload_n hx hb dX0_warm_69 rfl (lv_at hl 2 rfl) ?_
  refine ty_getN (E := []) (ws := ws_41) (D := D) (ci := 7) (C := RX7) (T := TX7) (N := 12) hx hb hts in_X7 hown hK hP hT h_p2 rfl 2 (by decide) (hts _ kl_RX0_163) (fun _ h9 => h9) rfl dX0_warm_70 (fun _ hv_46 hf_47 => ?_)
  obtain ⟨x_48, rfl⟩ := hv_46
  refine lv_i2l hx hb dX0_warm_73 rfl ?_
  refine lv_topl (fun x_49 _ => ?_)
  refine ty_kl (wr := []) (wc := ([] ++ ws_41)) (va_runSN (As := [.long x_45, .long x_49]) (rest := [.ref h0]) ⟨hx, hb, hml, hown, hts⟩ (t_X10_remainder l D ct S ws_41 ph xx x_45 x_49 _ hT hph hy1) (cm_SN 2 hts kc_X10_remainder ki_RX10 kl_RX0_154 ks_X10_remainder kd_X10_remainder ⟨Nat.le_of_ble_eq_true rfl, Nat.le_of_ble_eq_true rfl⟩) (ty_preS (wr := []) (wc := ([] ++ ws_41)) hP hK hD hS hA hX) rfl rfl hl.1 rfl (lv_room (Nat.le_of_ble_eq_true rfl)) dX0_warm_74 ⟨Nat.le_of_ble_eq_true rfl, Nat.le_of_ble_eq_true rfl⟩) hP hD hS hA (fun r_50 u H locs hw_51 hP hD hS => ?_)
  obtain ⟨ws_52, rfl⟩ : ∃ z, z = u := ⟨_, rfl⟩
  have hT := hw_51
  have hP : va_P D vwCl ([] ++ ws_52) H := hP
  have hD : va_D A ([] ++ ws_52) := hD
  refine lv_l2i hx hb dX0_warm_77 rfl ?_
  refine lv_topi (fun x_53 _ => ?_)
  refine ty_put (v := .int x_53) (ty := .int) (E := []) (ws := ws_52) (D := D) (ci := 0) (C := RX0) (T := TX0) (N := 16) hx hb hts in_X0 tyX0 tyX0_ok nmX0 hown hK hP hD hS hT h_h0 rfl 12 (by decide) (hts _ kl_RX0_63) (fun _ h9 => h9) rfl (by decide +kernel) rfl rfl rfl ⟨_, rfl⟩ dX0_warm_78 hph (hy1 0 12 h0 rfl) (fun ws_54 H locs hT hP hD hS => ?_)
  exact W.vret hx hb hr (fun t ht hW => ⟨⟨ws_54, rfl, hT, by rw [ht]; exact hP, by rw [hAe]; exact hD⟩, hS.F ht⟩) hS.2.2 dX0_warm_81
theorem dX0_copyFrom_0 : decode cX0_copyFrom 0 = .ok (.aload_n 1, 1) := by decide +kernel
theorem dX0_copyFrom_1 : decode cX0_copyFrom 1 = .ok (.getfield 9, 3) := by decide +kernel
theorem dX0_copyFrom_4 : decode cX0_copyFrom 4 = .ok (.aload_n 0, 1) := by decide +kernel
theorem dX0_copyFrom_5 : decode cX0_copyFrom 5 = .ok (.getfield 9, 3) := by decide +kernel
theorem dX0_copyFrom_8 : decode cX0_copyFrom 8 = .ok (.invokestatic 164, 3) := by decide +kernel
theorem dX0_copyFrom_11 : decode cX0_copyFrom 11 = .ok (.aload_n 0, 1) := by decide +kernel
theorem dX0_copyFrom_12 : decode cX0_copyFrom 12 = .ok (.aload_n 1, 1) := by decide +kernel
theorem dX0_copyFrom_13 : decode cX0_copyFrom 13 = .ok (.getfield 31, 3) := by decide +kernel
theorem dX0_copyFrom_16 : decode cX0_copyFrom 16 = .ok (.putfield 31, 3) := by decide +kernel
theorem dX0_copyFrom_19 : decode cX0_copyFrom 19 = .ok (.aload_n 0, 1) := by decide +kernel
theorem dX0_copyFrom_20 : decode cX0_copyFrom 20 = .ok (.aload_n 1, 1) := by decide +kernel
theorem dX0_copyFrom_21 : decode cX0_copyFrom 21 = .ok (.getfield 48, 3) := by decide +kernel
theorem dX0_copyFrom_24 : decode cX0_copyFrom 24 = .ok (.putfield 48, 3) := by decide +kernel
theorem dX0_copyFrom_27 : decode cX0_copyFrom 27 = .ok (.aload_n 0, 1) := by decide +kernel
theorem dX0_copyFrom_28 : decode cX0_copyFrom 28 = .ok (.aload_n 1, 1) := by decide +kernel
theorem dX0_copyFrom_29 : decode cX0_copyFrom 29 = .ok (.getfield 90, 3) := by decide +kernel
theorem dX0_copyFrom_32 : decode cX0_copyFrom 32 = .ok (.putfield 90, 3) := by decide +kernel
theorem dX0_copyFrom_35 : decode cX0_copyFrom 35 = .ok (.aload_n 0, 1) := by decide +kernel
theorem dX0_copyFrom_36 : decode cX0_copyFrom 36 = .ok (.aload_n 1, 1) := by decide +kernel
theorem dX0_copyFrom_37 : decode cX0_copyFrom 37 = .ok (.getfield 129, 3) := by decide +kernel
theorem dX0_copyFrom_40 : decode cX0_copyFrom 40 = .ok (.putfield 129, 3) := by decide +kernel
theorem dX0_copyFrom_43 : decode cX0_copyFrom 43 = .ok (.aload_n 0, 1) := by decide +kernel
theorem dX0_copyFrom_44 : decode cX0_copyFrom 44 = .ok (.aload_n 1, 1) := by decide +kernel
theorem dX0_copyFrom_45 : decode cX0_copyFrom 45 = .ok (.getfield 132, 3) := by decide +kernel
theorem dX0_copyFrom_48 : decode cX0_copyFrom 48 = .ok (.putfield 132, 3) := by decide +kernel
theorem dX0_copyFrom_51 : decode cX0_copyFrom 51 = .ok (.aload_n 0, 1) := by decide +kernel
theorem dX0_copyFrom_52 : decode cX0_copyFrom 52 = .ok (.aload_n 1, 1) := by decide +kernel
theorem dX0_copyFrom_53 : decode cX0_copyFrom 53 = .ok (.getfield 42, 3) := by decide +kernel
theorem dX0_copyFrom_56 : decode cX0_copyFrom 56 = .ok (.putfield 42, 3) := by decide +kernel
theorem dX0_copyFrom_59 : decode cX0_copyFrom 59 = .ok (.aload_n 0, 1) := by decide +kernel
theorem dX0_copyFrom_60 : decode cX0_copyFrom 60 = .ok (.aload_n 1, 1) := by decide +kernel
theorem dX0_copyFrom_61 : decode cX0_copyFrom 61 = .ok (.getfield 45, 3) := by decide +kernel
theorem dX0_copyFrom_64 : decode cX0_copyFrom 64 = .ok (.putfield 45, 3) := by decide +kernel
theorem dX0_copyFrom_67 : decode cX0_copyFrom 67 = .ok (.aload_n 0, 1) := by decide +kernel
theorem dX0_copyFrom_68 : decode cX0_copyFrom 68 = .ok (.aload_n 1, 1) := by decide +kernel
theorem dX0_copyFrom_69 : decode cX0_copyFrom 69 = .ok (.getfield 51, 3) := by decide +kernel
theorem dX0_copyFrom_72 : decode cX0_copyFrom 72 = .ok (.putfield 51, 3) := by decide +kernel
theorem dX0_copyFrom_75 : decode cX0_copyFrom 75 = .ok (.aload_n 0, 1) := by decide +kernel
theorem dX0_copyFrom_76 : decode cX0_copyFrom 76 = .ok (.aload_n 1, 1) := by decide +kernel
theorem dX0_copyFrom_77 : decode cX0_copyFrom 77 = .ok (.getfield 54, 3) := by decide +kernel
theorem dX0_copyFrom_80 : decode cX0_copyFrom 80 = .ok (.putfield 54, 3) := by decide +kernel
theorem dX0_copyFrom_83 : decode cX0_copyFrom 83 = .ok (.aload_n 0, 1) := by decide +kernel
theorem dX0_copyFrom_84 : decode cX0_copyFrom 84 = .ok (.aload_n 1, 1) := by decide +kernel
theorem dX0_copyFrom_85 : decode cX0_copyFrom 85 = .ok (.getfield 57, 3) := by decide +kernel
theorem dX0_copyFrom_88 : decode cX0_copyFrom 88 = .ok (.putfield 57, 3) := by decide +kernel
theorem dX0_copyFrom_91 : decode cX0_copyFrom 91 = .ok (.aload_n 0, 1) := by decide +kernel
theorem dX0_copyFrom_92 : decode cX0_copyFrom 92 = .ok (.aload_n 1, 1) := by decide +kernel
theorem dX0_copyFrom_93 : decode cX0_copyFrom 93 = .ok (.getfield 60, 3) := by decide +kernel
theorem dX0_copyFrom_96 : decode cX0_copyFrom 96 = .ok (.putfield 60, 3) := by decide +kernel
theorem dX0_copyFrom_99 : decode cX0_copyFrom 99 = .ok (.aload_n 0, 1) := by decide +kernel
theorem dX0_copyFrom_100 : decode cX0_copyFrom 100 = .ok (.aload_n 1, 1) := by decide +kernel
theorem dX0_copyFrom_101 : decode cX0_copyFrom 101 = .ok (.getfield 63, 3) := by decide +kernel
theorem dX0_copyFrom_104 : decode cX0_copyFrom 104 = .ok (.putfield 63, 3) := by decide +kernel
theorem dX0_copyFrom_107 : decode cX0_copyFrom 107 = .ok (.aload_n 0, 1) := by decide +kernel
theorem dX0_copyFrom_108 : decode cX0_copyFrom 108 = .ok (.aload_n 1, 1) := by decide +kernel
theorem dX0_copyFrom_109 : decode cX0_copyFrom 109 = .ok (.getfield 66, 3) := by decide +kernel
theorem dX0_copyFrom_112 : decode cX0_copyFrom 112 = .ok (.putfield 66, 3) := by decide +kernel
theorem dX0_copyFrom_115 : decode cX0_copyFrom 115 = .ok (.aload_n 0, 1) := by decide +kernel
theorem dX0_copyFrom_116 : decode cX0_copyFrom 116 = .ok (.aload_n 1, 1) := by decide +kernel
theorem dX0_copyFrom_117 : decode cX0_copyFrom 117 = .ok (.getfield 69, 3) := by decide +kernel
theorem dX0_copyFrom_120 : decode cX0_copyFrom 120 = .ok (.putfield 69, 3) := by decide +kernel
theorem dX0_copyFrom_123 : decode cX0_copyFrom 123 = .ok (.aload_n 0, 1) := by decide +kernel
theorem dX0_copyFrom_124 : decode cX0_copyFrom 124 = .ok (.getfield 18, 3) := by decide +kernel
theorem dX0_copyFrom_127 : decode cX0_copyFrom 127 = .ok (.aload_n 1, 1) := by decide +kernel
theorem dX0_copyFrom_128 : decode cX0_copyFrom 128 = .ok (.getfield 18, 3) := by decide +kernel
theorem dX0_copyFrom_131 : decode cX0_copyFrom 131 = .ok (.invokevirtual 168, 3) := by decide +kernel
theorem dX0_copyFrom_134 : decode cX0_copyFrom 134 = .ok (.return_, 1) := by decide +kernel
set_option maxRecDepth 100000 in
set_option maxHeartbeats 4000000 in
theorem t_X0_copyFrom (l : Launch) (D : va_G) (ct : Nat → ClassId) (S : ty_S) (ws : va_W) (ph : va_W → Prop) (xx : Nat → Nat → Nat → Prop) (h0 : Nat) (p1 : Nat) (sz : Nat) (hT : ty_V ct S ph ws) (h_h0 : S h0 = some (.inl 0)) (h_p1 : S p1 = some (.inl 0)) (hph : ty_C ph xx) (hy1 : ty_y1 xx) : Met l yX0_copyFrom (ws_ yX0_copyFrom cX0_copyFrom 2 none) ({ frames := 2, cells := 0, slots := 0, locals := 101 } : Room) (va_Pc [.ref h0, .ref p1] (cmP D ct sz ([] ++ ws))) (va_Qv (fun (u9 : va_W) => ty_V ct S ph u9) (cmB D ([] ++ ws) sz (fun (u9 : va_W) => ([] ++ u9))) (va_A ([] ++ ws) sz)) 0 0 (va_A ([] ++ ws) sz) := by
  refine Met.ofW (cc := cX0_copyFrom) (maxL := 2) (ret := none) (by decide) rfl ?_
  intro p e s m args below meth c s₁ B hml hv
  obtain ⟨rfl, hsz, hP, hK, hD0, hX⟩ := hv
  have hx := B.exec
  have hb := B.bytes
  have hr := B.returns
  have hts := ws_all (atoms_spec (ws := ws_ yX0_copyFrom cX0_copyFrom 2 none) B.pre)
  have hown : s.vm.findClass RX0 = some m.cls := findClass_of_methodNamed B.named
  have hlocks := B.notSynchronized
  subst hsz
  have hD := hD0.self (sz := s.heap.size)
  generalize hAe : va_A ([] ++ ws) s.heap.size = A at hD hX ⊢
  have hA : ∀ q : Nat, s.heap.size ≤ q → A q := fun q h => by rw [← hAe]; exact Or.inr h
  have hS : va_S A s.heap s.heap [] := va_S.rf
  have hl := lv_entry ([.ref h0, .ref p1]) (n := 2) (Nat.le_of_ble_eq_true rfl)
  rw [lg_entry_eq]
  generalize (lg_sl ([.ref h0, .ref p1]) ++ List.replicate (2 - (lg_sl ([.ref h0, .ref p1])).length) Slot.unset).toArray = ls at hl ⊢
  have hl : lv_has ls 2 [(0, .ref h0), (1, .ref p1)] := hl
  refine lv_aload_n hx hb dX0_copyFrom_0 rfl (lv_at hl 1 rfl) ?_
  refine ty_get (E := []) (ws := ws) (D := D) (ci := 0) (C := RX0) (T := TX0) (N := 16) hx hb hts in_X0 hown hK hP hT h_p1 rfl 0 (by decide) (hts _ kl_RX0_9) (fun _ h9 => h9) rfl dX0_copyFrom_1 (fun _ hv_1 hf_2 => ?_)
  obtain ⟨a_3, n_4, rfl, ha_5⟩ := hv_1
  refine lv_aload_n hx hb dX0_copyFrom_4 rfl (lv_at hl 0 rfl) ?_
  refine ty_get (E := []) (ws := ws) (D := D) (ci := 0) (C := RX0) (T := TX0) (N := 16) hx hb hts in_X0 hown hK hP hT h_h0 rfl 0 (by decide) (hts _ kl_RX0_9) (fun _ h9 => h9) rfl dX0_copyFrom_5 (fun _ hv_6 hf_7 => ?_)
  obtain ⟨a_8, n_9, rfl, ha_10⟩ := hv_6
  refine ty_kv (wr := []) (wc := ([] ++ ws)) (va_runSN (As := [.ref a_3, .ref a_8]) (rest := []) ⟨hx, hb, hml, hown, hts⟩ (t_X10_copyRow l D ct S ws ph xx a_3 n_4 a_8 n_9 _ hT ha_5 ha_10 hph hy1) (cm_SN 2 hts kc_X10_copyRow ki_RX10 kl_RX0_164 ks_X10_copyRow kd_X10_copyRow ⟨Nat.le_of_ble_eq_true rfl, Nat.le_of_ble_eq_true rfl⟩) (ty_preS (wr := []) (wc := ([] ++ ws)) hP hK hD hS hA hX) rfl rfl hl.1 rfl (lv_room (Nat.le_of_ble_eq_true rfl)) dX0_copyFrom_8 ⟨Nat.le_of_ble_eq_true rfl, Nat.le_of_ble_eq_true rfl⟩) hP hD hS hA (fun u H locs hw_12 hP hD hS => ?_)
  obtain ⟨ws_13, rfl⟩ : ∃ z, z = u := ⟨_, rfl⟩
  have hT := hw_12
  have hP : va_P D vwCl ([] ++ ws_13) H := hP
  have hD : va_D A ([] ++ ws_13) := hD
  refine lv_aload_n hx hb dX0_copyFrom_11 rfl (lv_at hl 0 rfl) ?_
  refine lv_aload_n hx hb dX0_copyFrom_12 rfl (lv_at hl 1 rfl) ?_
  refine ty_get (E := []) (ws := ws_13) (D := D) (ci := 0) (C := RX0) (T := TX0) (N := 16) hx hb hts in_X0 hown hK hP hT h_p1 rfl 1 (by decide) (hts _ kl_RX0_31) (fun _ h9 => h9) rfl dX0_copyFrom_13 (fun _ hv_14 hf_15 => ?_)
  obtain ⟨x_16, rfl⟩ := hv_14
  refine ty_put (v := .int x_16) (ty := .int) (E := []) (ws := ws_13) (D := D) (ci := 0) (C := RX0) (T := TX0) (N := 16) hx hb hts in_X0 tyX0 tyX0_ok nmX0 hown hK hP hD hS hT h_h0 rfl 1 (by decide) (hts _ kl_RX0_31) (fun _ h9 => h9) rfl (by decide +kernel) rfl rfl rfl ⟨_, rfl⟩ dX0_copyFrom_16 hph (hy1 0 1 h0 rfl) (fun ws_17 H locs hT hP hD hS => ?_)
  refine lv_aload_n hx hb dX0_copyFrom_19 rfl (lv_at hl 0 rfl) ?_
  refine lv_aload_n hx hb dX0_copyFrom_20 rfl (lv_at hl 1 rfl) ?_
  refine ty_get (E := []) (ws := ws_17) (D := D) (ci := 0) (C := RX0) (T := TX0) (N := 16) hx hb hts in_X0 hown hK hP hT h_p1 rfl 2 (by decide) (hts _ kl_RX0_48) (fun _ h9 => h9) rfl dX0_copyFrom_21 (fun _ hv_18 hf_19 => ?_)
  obtain ⟨x_20, rfl⟩ := hv_18
  refine ty_put (v := .int x_20) (ty := .int) (E := []) (ws := ws_17) (D := D) (ci := 0) (C := RX0) (T := TX0) (N := 16) hx hb hts in_X0 tyX0 tyX0_ok nmX0 hown hK hP hD hS hT h_h0 rfl 2 (by decide) (hts _ kl_RX0_48) (fun _ h9 => h9) rfl (by decide +kernel) rfl rfl rfl ⟨_, rfl⟩ dX0_copyFrom_24 hph (hy1 0 2 h0 rfl) (fun ws_21 H locs hT hP hD hS => ?_)
  refine lv_aload_n hx hb dX0_copyFrom_27 rfl (lv_at hl 0 rfl) ?_
  refine lv_aload_n hx hb dX0_copyFrom_28 rfl (lv_at hl 1 rfl) ?_
  refine ty_get (E := []) (ws := ws_21) (D := D) (ci := 0) (C := RX0) (T := TX0) (N := 16) hx hb hts in_X0 hown hK hP hT h_p1 rfl 3 (by decide) (hts _ kl_RX0_90) (fun _ h9 => h9) rfl dX0_copyFrom_29 (fun _ hv_22 hf_23 => ?_)
  obtain ⟨x_24, rfl⟩ := hv_22
  refine ty_put (v := .int x_24) (ty := .int) (E := []) (ws := ws_21) (D := D) (ci := 0) (C := RX0) (T := TX0) (N := 16) hx hb hts in_X0 tyX0 tyX0_ok nmX0 hown hK hP hD hS hT h_h0 rfl 3 (by decide) (hts _ kl_RX0_90) (fun _ h9 => h9) rfl (by decide +kernel) rfl rfl rfl ⟨_, rfl⟩ dX0_copyFrom_32 hph (hy1 0 3 h0 rfl) (fun ws_25 H locs hT hP hD hS => ?_)
  refine lv_aload_n hx hb dX0_copyFrom_35 rfl (lv_at hl 0 rfl) ?_
  refine lv_aload_n hx hb dX0_copyFrom_36 rfl (lv_at hl 1 rfl) ?_
  refine ty_get (E := []) (ws := ws_25) (D := D) (ci := 0) (C := RX0) (T := TX0) (N := 16) hx hb hts in_X0 hown hK hP hT h_p1 rfl 4 (by decide) (hts _ kl_RX0_129) (fun _ h9 => h9) rfl dX0_copyFrom_37 (fun _ hv_26 hf_27 => ?_)
  obtain ⟨x_28, rfl⟩ := hv_26
  refine ty_put (v := .int x_28) (ty := .int) (E := []) (ws := ws_25) (D := D) (ci := 0) (C := RX0) (T := TX0) (N := 16) hx hb hts in_X0 tyX0 tyX0_ok nmX0 hown hK hP hD hS hT h_h0 rfl 4 (by decide) (hts _ kl_RX0_129) (fun _ h9 => h9) rfl (by decide +kernel) rfl rfl rfl ⟨_, rfl⟩ dX0_copyFrom_40 hph (hy1 0 4 h0 rfl) (fun ws_29 H locs hT hP hD hS => ?_)
  refine lv_aload_n hx hb dX0_copyFrom_43 rfl (lv_at hl 0 rfl) ?_
  refine lv_aload_n hx hb dX0_copyFrom_44 rfl (lv_at hl 1 rfl) ?_
  refine ty_get (E := []) (ws := ws_29) (D := D) (ci := 0) (C := RX0) (T := TX0) (N := 16) hx hb hts in_X0 hown hK hP hT h_p1 rfl 5 (by decide) (hts _ kl_RX0_132) (fun _ h9 => h9) rfl dX0_copyFrom_45 (fun _ hv_30 hf_31 => ?_)
  obtain ⟨x_32, rfl⟩ := hv_30
  refine ty_put (v := .int x_32) (ty := .int) (E := []) (ws := ws_29) (D := D) (ci := 0) (C := RX0) (T := TX0) (N := 16) hx hb hts in_X0 tyX0 tyX0_ok nmX0 hown hK hP hD hS hT h_h0 rfl 5 (by decide) (hts _ kl_RX0_132) (fun _ h9 => h9) rfl (by decide +kernel) rfl rfl rfl ⟨_, rfl⟩ dX0_copyFrom_48 hph (hy1 0 5 h0 rfl) (fun ws_33 H locs hT hP hD hS => ?_)
  refine lv_aload_n hx hb dX0_copyFrom_51 rfl (lv_at hl 0 rfl) ?_
  refine lv_aload_n hx hb dX0_copyFrom_52 rfl (lv_at hl 1 rfl) ?_
  refine ty_get (E := []) (ws := ws_33) (D := D) (ci := 0) (C := RX0) (T := TX0) (N := 16) hx hb hts in_X0 hown hK hP hT h_p1 rfl 6 (by decide) (hts _ kl_RX0_42) (fun _ h9 => h9) rfl dX0_copyFrom_53 (fun _ hv_34 hf_35 => ?_)
  obtain ⟨x_36, rfl⟩ := hv_34
  refine ty_put (v := .int x_36) (ty := .int) (E := []) (ws := ws_33) (D := D) (ci := 0) (C := RX0) (T := TX0) (N := 16) hx hb hts in_X0 tyX0 tyX0_ok nmX0 hown hK hP hD hS hT h_h0 rfl 6 (by decide) (hts _ kl_RX0_42) (fun _ h9 => h9) rfl (by decide +kernel) rfl rfl rfl ⟨_, rfl⟩ dX0_copyFrom_56 hph (hy1 0 6 h0 rfl) (fun ws_37 H locs hT hP hD hS => ?_)
  refine lv_aload_n hx hb dX0_copyFrom_59 rfl (lv_at hl 0 rfl) ?_
  refine lv_aload_n hx hb dX0_copyFrom_60 rfl (lv_at hl 1 rfl) ?_
  refine ty_get (E := []) (ws := ws_37) (D := D) (ci := 0) (C := RX0) (T := TX0) (N := 16) hx hb hts in_X0 hown hK hP hT h_p1 rfl 7 (by decide) (hts _ kl_RX0_45) (fun _ h9 => h9) rfl dX0_copyFrom_61 (fun _ hv_38 hf_39 => ?_)
  obtain ⟨x_40, rfl⟩ := hv_38
  refine ty_put (v := .int x_40) (ty := .int) (E := []) (ws := ws_37) (D := D) (ci := 0) (C := RX0) (T := TX0) (N := 16) hx hb hts in_X0 tyX0 tyX0_ok nmX0 hown hK hP hD hS hT h_h0 rfl 7 (by decide) (hts _ kl_RX0_45) (fun _ h9 => h9) rfl (by decide +kernel) rfl rfl rfl ⟨_, rfl⟩ dX0_copyFrom_64 hph (hy1 0 7 h0 rfl) (fun ws_41 H locs hT hP hD hS => ?_)
  refine lv_aload_n hx hb dX0_copyFrom_67 rfl (lv_at hl 0 rfl) ?_
  refine lv_aload_n hx hb dX0_copyFrom_68 rfl (lv_at hl 1 rfl) ?_
  refine ty_get (E := []) (ws := ws_41) (D := D) (ci := 0) (C := RX0) (T := TX0) (N := 16) hx hb hts in_X0 hown hK hP hT h_p1 rfl 8 (by decide) (hts _ kl_RX0_51) (fun _ h9 => h9) rfl dX0_copyFrom_69 (fun _ hv_42 hf_43 => ?_)
  obtain ⟨x_44, rfl⟩ := hv_42
  refine ty_put (v := .int x_44) (ty := .int) (E := []) (ws := ws_41) (D := D) (ci := 0) (C := RX0) (T := TX0) (N := 16) hx hb hts in_X0 tyX0 tyX0_ok nmX0 hown hK hP hD hS hT h_h0 rfl 8 (by decide) (hts _ kl_RX0_51) (fun _ h9 => h9) rfl (by decide +kernel) rfl rfl rfl ⟨_, rfl⟩ dX0_copyFrom_72 hph (hy1 0 8 h0 rfl) (fun ws_45 H locs hT hP hD hS => ?_)
  refine lv_aload_n hx hb dX0_copyFrom_75 rfl (lv_at hl 0 rfl) ?_
  refine lv_aload_n hx hb dX0_copyFrom_76 rfl (lv_at hl 1 rfl) ?_
  refine ty_get (E := []) (ws := ws_45) (D := D) (ci := 0) (C := RX0) (T := TX0) (N := 16) hx hb hts in_X0 hown hK hP hT h_p1 rfl 9 (by decide) (hts _ kl_RX0_54) (fun _ h9 => h9) rfl dX0_copyFrom_77 (fun _ hv_46 hf_47 => ?_)
  obtain ⟨x_48, rfl⟩ := hv_46
  refine ty_put (v := .int x_48) (ty := .int) (E := []) (ws := ws_45) (D := D) (ci := 0) (C := RX0) (T := TX0) (N := 16) hx hb hts in_X0 tyX0 tyX0_ok nmX0 hown hK hP hD hS hT h_h0 rfl 9 (by decide) (hts _ kl_RX0_54) (fun _ h9 => h9) rfl (by decide +kernel) rfl rfl rfl ⟨_, rfl⟩ dX0_copyFrom_80 hph (hy1 0 9 h0 rfl) (fun ws_49 H locs hT hP hD hS => ?_)
  refine lv_aload_n hx hb dX0_copyFrom_83 rfl (lv_at hl 0 rfl) ?_
  refine lv_aload_n hx hb dX0_copyFrom_84 rfl (lv_at hl 1 rfl) ?_
  refine ty_get (E := []) (ws := ws_49) (D := D) (ci := 0) (C := RX0) (T := TX0) (N := 16) hx hb hts in_X0 hown hK hP hT h_p1 rfl 10 (by decide) (hts _ kl_RX0_57) (fun _ h9 => h9) rfl dX0_copyFrom_85 (fun _ hv_50 hf_51 => ?_)
  obtain ⟨x_52, rfl⟩ := hv_50
  refine ty_put (v := .int x_52) (ty := .int) (E := []) (ws := ws_49) (D := D) (ci := 0) (C := RX0) (T := TX0) (N := 16) hx hb hts in_X0 tyX0 tyX0_ok nmX0 hown hK hP hD hS hT h_h0 rfl 10 (by decide) (hts _ kl_RX0_57) (fun _ h9 => h9) rfl (by decide +kernel) rfl rfl rfl ⟨_, rfl⟩ dX0_copyFrom_88 hph (hy1 0 10 h0 rfl) (fun ws_53 H locs hT hP hD hS => ?_)
  refine lv_aload_n hx hb dX0_copyFrom_91 rfl (lv_at hl 0 rfl) ?_
  refine lv_aload_n hx hb dX0_copyFrom_92 rfl (lv_at hl 1 rfl) ?_
  refine ty_get (E := []) (ws := ws_53) (D := D) (ci := 0) (C := RX0) (T := TX0) (N := 16) hx hb hts in_X0 hown hK hP hT h_p1 rfl 11 (by decide) (hts _ kl_RX0_60) (fun _ h9 => h9) rfl dX0_copyFrom_93 (fun _ hv_54 hf_55 => ?_)
  obtain ⟨x_56, rfl⟩ := hv_54
  refine ty_put (v := .int x_56) (ty := .int) (E := []) (ws := ws_53) (D := D) (ci := 0) (C := RX0) (T := TX0) (N := 16) hx hb hts in_X0 tyX0 tyX0_ok nmX0 hown hK hP hD hS hT h_h0 rfl 11 (by decide) (hts _ kl_RX0_60) (fun _ h9 => h9) rfl (by decide +kernel) rfl rfl rfl ⟨_, rfl⟩ dX0_copyFrom_96 hph (hy1 0 11 h0 rfl) (fun ws_57 H locs hT hP hD hS => ?_)
  refine lv_aload_n hx hb dX0_copyFrom_99 rfl (lv_at hl 0 rfl) ?_
  refine lv_aload_n hx hb dX0_copyFrom_100 rfl (lv_at hl 1 rfl) ?_
  refine ty_get (E := []) (ws := ws_57) (D := D) (ci := 0) (C := RX0) (T := TX0) (N := 16) hx hb hts in_X0 hown hK hP hT h_p1 rfl 12 (by decide) (hts _ kl_RX0_63) (fun _ h9 => h9) rfl dX0_copyFrom_101 (fun _ hv_58 hf_59 => ?_)
  obtain ⟨x_60, rfl⟩ := hv_58
  refine ty_put (v := .int x_60) (ty := .int) (E := []) (ws := ws_57) (D := D) (ci := 0) (C := RX0) (T := TX0) (N := 16) hx hb hts in_X0 tyX0 tyX0_ok nmX0 hown hK hP hD hS hT h_h0 rfl 12 (by decide) (hts _ kl_RX0_63) (fun _ h9 => h9) rfl (by decide +kernel) rfl rfl rfl ⟨_, rfl⟩ dX0_copyFrom_104 hph (hy1 0 12 h0 rfl) (fun ws_61 H locs hT hP hD hS => ?_)
  refine lv_aload_n hx hb dX0_copyFrom_107 rfl (lv_at hl 0 rfl) ?_
  refine lv_aload_n hx hb dX0_copyFrom_108 rfl (lv_at hl 1 rfl) ?_
  refine ty_get (E := []) (ws := ws_61) (D := D) (ci := 0) (C := RX0) (T := TX0) (N := 16) hx hb hts in_X0 hown hK hP hT h_p1 rfl 13 (by decide) (hts _ kl_RX0_66) (fun _ h9 => h9) rfl dX0_copyFrom_109 (fun _ hv_62 hf_63 => ?_)
  obtain ⟨x_64, rfl⟩ := hv_62
  refine ty_put (v := .int x_64) (ty := .int) (E := []) (ws := ws_61) (D := D) (ci := 0) (C := RX0) (T := TX0) (N := 16) hx hb hts in_X0 tyX0 tyX0_ok nmX0 hown hK hP hD hS hT h_h0 rfl 13 (by decide) (hts _ kl_RX0_66) (fun _ h9 => h9) rfl (by decide +kernel) rfl rfl rfl ⟨_, rfl⟩ dX0_copyFrom_112 hph (hy1 0 13 h0 rfl) (fun ws_65 H locs hT hP hD hS => ?_)
  refine lv_aload_n hx hb dX0_copyFrom_115 rfl (lv_at hl 0 rfl) ?_
  refine lv_aload_n hx hb dX0_copyFrom_116 rfl (lv_at hl 1 rfl) ?_
  refine ty_get (E := []) (ws := ws_65) (D := D) (ci := 0) (C := RX0) (T := TX0) (N := 16) hx hb hts in_X0 hown hK hP hT h_p1 rfl 14 (by decide) (hts _ kl_RX0_69) (fun _ h9 => h9) rfl dX0_copyFrom_117 (fun _ hv_66 hf_67 => ?_)
  obtain ⟨x_68, rfl⟩ := hv_66
  refine ty_put (v := .int x_68) (ty := .int) (E := []) (ws := ws_65) (D := D) (ci := 0) (C := RX0) (T := TX0) (N := 16) hx hb hts in_X0 tyX0 tyX0_ok nmX0 hown hK hP hD hS hT h_h0 rfl 14 (by decide) (hts _ kl_RX0_69) (fun _ h9 => h9) rfl (by decide +kernel) rfl rfl rfl ⟨_, rfl⟩ dX0_copyFrom_120 hph (hy1 0 14 h0 rfl) (fun ws_69 H locs hT hP hD hS => ?_)
  refine lv_aload_n hx hb dX0_copyFrom_123 rfl (lv_at hl 0 rfl) ?_
  refine ty_get (E := []) (ws := ws_69) (D := D) (ci := 0) (C := RX0) (T := TX0) (N := 16) hx hb hts in_X0 hown hK hP hT h_h0 rfl 15 (by decide) (hts _ kl_RX0_18) (fun _ h9 => h9) rfl dX0_copyFrom_124 (fun _ hv_70 hf_71 => ?_)
  obtain ⟨a_72, rfl, ha_73⟩ := hv_70
  refine lv_aload_n hx hb dX0_copyFrom_127 rfl (lv_at hl 1 rfl) ?_
  refine ty_get (E := []) (ws := ws_69) (D := D) (ci := 0) (C := RX0) (T := TX0) (N := 16) hx hb hts in_X0 hown hK hP hT h_p1 rfl 15 (by decide) (hts _ kl_RX0_18) (fun _ h9 => h9) rfl dX0_copyFrom_128 (fun _ hv_74 hf_75 => ?_)
  obtain ⟨a_76, rfl, ha_77⟩ := hv_74
  refine ty_kv (wr := []) (wc := ([] ++ ws_69)) (va_runVN (As := [.ref a_76]) (rest := []) ⟨hx, hb, hml, hown, hts⟩ (t_X3_copyFrom l D ct S ws_69 ph xx a_72 a_76 _ hT ha_73 ha_77 hph hy1) (cm_VN 1 hts kc_X3_copyFrom ki_RX3 kl_RX0_168 kv_X3_copyFrom kx_X3_copyFrom kd_X3_copyFrom ⟨Nat.le_of_ble_eq_true rfl, Nat.le_of_ble_eq_true rfl⟩) (ty_preV (wr := []) (E := []) (ws := ws_69) (ci := 3) hP hK hD hS hA hX hT rfl ha_73) rfl rfl hl.1 rfl (lv_room (Nat.le_of_ble_eq_true rfl)) dX0_copyFrom_131 ⟨Nat.le_of_ble_eq_true rfl, Nat.le_of_ble_eq_true rfl⟩) hP hD hS hA (fun u H locs hw_79 hP hD hS => ?_)
  obtain ⟨ws_80, rfl⟩ : ∃ z, z = u := ⟨_, rfl⟩
  have hT := hw_79
  have hP : va_P D vwCl ([] ++ ws_80) H := hP
  have hD : va_D A ([] ++ ws_80) := hD
  exact W.vret hx hb hr (fun t ht hW => ⟨⟨ws_80, rfl, hT, by rw [ht]; exact hP, by rw [hAe]; exact hD⟩, hS.F ht⟩) hS.2.2 dX0_copyFrom_134
theorem dX1_takeWaiting_0 : decode cX1_takeWaiting 0 = .ok (.aload_n 0, 1) := by decide +kernel
theorem dX1_takeWaiting_1 : decode cX1_takeWaiting 1 = .ok (.getfield 33, 3) := by decide +kernel
theorem dX1_takeWaiting_4 : decode cX1_takeWaiting 4 = .ok (.iconst 0, 1) := by decide +kernel
theorem dX1_takeWaiting_5 : decode cX1_takeWaiting 5 = .ok (.invokestatic 122, 3) := by decide +kernel
theorem dX1_takeWaiting_8 : decode cX1_takeWaiting 8 = .ok (.istore_n 1, 1) := by decide +kernel
theorem dX1_takeWaiting_9 : decode cX1_takeWaiting 9 = .ok (.iconst 1, 1) := by decide +kernel
theorem dX1_takeWaiting_10 : decode cX1_takeWaiting 10 = .ok (.istore_n 2, 1) := by decide +kernel
theorem dX1_takeWaiting_11 : decode cX1_takeWaiting 11 = .ok (.iload_n 2, 1) := by decide +kernel
theorem dX1_takeWaiting_12 : decode cX1_takeWaiting 12 = .ok (.aload_n 0, 1) := by decide +kernel
theorem dX1_takeWaiting_13 : decode cX1_takeWaiting 13 = .ok (.getfield 59, 3) := by decide +kernel
theorem dX1_takeWaiting_16 : decode cX1_takeWaiting 16 = .ok (.if_icmp .ge 27, 3) := by decide +kernel
theorem dX1_takeWaiting_19 : decode cX1_takeWaiting 19 = .ok (.aload_n 0, 1) := by decide +kernel
theorem dX1_takeWaiting_20 : decode cX1_takeWaiting 20 = .ok (.getfield 33, 3) := by decide +kernel
theorem dX1_takeWaiting_23 : decode cX1_takeWaiting 23 = .ok (.iload_n 2, 1) := by decide +kernel
theorem dX1_takeWaiting_24 : decode cX1_takeWaiting 24 = .ok (.iconst 1, 1) := by decide +kernel
theorem dX1_takeWaiting_25 : decode cX1_takeWaiting 25 = .ok (.isub, 1) := by decide +kernel
theorem dX1_takeWaiting_26 : decode cX1_takeWaiting 26 = .ok (.aload_n 0, 1) := by decide +kernel
theorem dX1_takeWaiting_27 : decode cX1_takeWaiting 27 = .ok (.getfield 33, 3) := by decide +kernel
theorem dX1_takeWaiting_30 : decode cX1_takeWaiting 30 = .ok (.iload_n 2, 1) := by decide +kernel
theorem dX1_takeWaiting_31 : decode cX1_takeWaiting 31 = .ok (.invokestatic 122, 3) := by decide +kernel
theorem dX1_takeWaiting_34 : decode cX1_takeWaiting 34 = .ok (.invokestatic 126, 3) := by decide +kernel
theorem dX1_takeWaiting_37 : decode cX1_takeWaiting 37 = .ok (.iinc 2 1, 3) := by decide +kernel
theorem dX1_takeWaiting_40 : decode cX1_takeWaiting 40 = .ok (.goto (-29), 3) := by decide +kernel
theorem dX1_takeWaiting_43 : decode cX1_takeWaiting 43 = .ok (.aload_n 0, 1) := by decide +kernel
theorem dX1_takeWaiting_44 : decode cX1_takeWaiting 44 = .ok (.iconst 0, 1) := by decide +kernel
theorem dX1_takeWaiting_45 : decode cX1_takeWaiting 45 = .ok (.aload_n 0, 1) := by decide +kernel
theorem dX1_takeWaiting_46 : decode cX1_takeWaiting 46 = .ok (.getfield 59, 3) := by decide +kernel
theorem dX1_takeWaiting_49 : decode cX1_takeWaiting 49 = .ok (.iconst 1, 1) := by decide +kernel
theorem dX1_takeWaiting_50 : decode cX1_takeWaiting 50 = .ok (.isub, 1) := by decide +kernel
theorem dX1_takeWaiting_51 : decode cX1_takeWaiting 51 = .ok (.invokestatic 130, 3) := by decide +kernel
theorem dX1_takeWaiting_54 : decode cX1_takeWaiting 54 = .ok (.putfield 59, 3) := by decide +kernel
theorem dX1_takeWaiting_57 : decode cX1_takeWaiting 57 = .ok (.iload_n 1, 1) := by decide +kernel
theorem dX1_takeWaiting_58 : decode cX1_takeWaiting 58 = .ok (.ireturn, 1) := by decide +kernel
set_option maxRecDepth 100000 in
set_option maxHeartbeats 4000000 in
theorem t_X1_takeWaiting (l : Launch) (D : va_G) (ct : Nat → ClassId) (S : ty_S) (ws : va_W) (ph : va_W → Prop) (xx : Nat → Nat → Nat → Prop) (h0 : Nat) (sz : Nat) (hT : ty_V ct S ph ws) (h_h0 : S h0 = some (.inl 1)) (hph : ty_C ph xx) (hy1 : ty_y1 xx) : Met l yX1_takeWaiting (ws_ yX1_takeWaiting cX1_takeWaiting 3 (some .int)) ({ frames := 1, cells := 0, slots := 0, locals := 22 } : Room) (va_Pc [.ref h0] (cmP D ct sz ([] ++ ws))) (va_Qi (fun (r : Int32) (u9 : va_W) => ty_V ct S ph u9) (cmB D ([] ++ ws) sz (fun (u9 : va_W) => ([] ++ u9))) (va_A ([] ++ ws) sz)) 0 0 (va_A ([] ++ ws) sz) := by
  refine Met.ofW (cc := cX1_takeWaiting) (maxL := 3) (ret := (some .int)) (by decide) rfl ?_
  intro p e s m args below meth c s₁ B hml hv
  obtain ⟨rfl, hsz, hP, hK, hD0, hX⟩ := hv
  have hx := B.exec
  have hb := B.bytes
  have hr := B.returns
  have hts := ws_all (atoms_spec (ws := ws_ yX1_takeWaiting cX1_takeWaiting 3 (some .int)) B.pre)
  have hown : s.vm.findClass RX1 = some m.cls := findClass_of_methodNamed B.named
  have hlocks := B.notSynchronized
  subst hsz
  have hD := hD0.self (sz := s.heap.size)
  generalize hAe : va_A ([] ++ ws) s.heap.size = A at hD hX ⊢
  have hA : ∀ q : Nat, s.heap.size ≤ q → A q := fun q h => by rw [← hAe]; exact Or.inr h
  have hS : va_S A s.heap s.heap [] := va_S.rf
  have hl := lv_entry ([.ref h0]) (n := 3) (Nat.le_of_ble_eq_true rfl)
  rw [lg_entry_eq]
  generalize (lg_sl ([.ref h0]) ++ List.replicate (3 - (lg_sl ([.ref h0])).length) Slot.unset).toArray = ls at hl ⊢
  have hl : lv_has ls 3 [(0, .ref h0)] := hl
  refine lv_aload_n hx hb dX1_takeWaiting_0 rfl (lv_at hl 0 rfl) ?_
  refine ty_get (E := []) (ws := ws) (D := D) (ci := 1) (C := RX1) (T := TX1) (N := 14) hx hb hts in_X1 hown hK hP hT h_h0 rfl 8 (by decide) (hts _ kl_RX1_33) (fun _ h9 => h9) rfl dX1_takeWaiting_1 (fun _ hv_1 hf_2 => ?_)
  obtain ⟨a_3, n_4, rfl, ha_5⟩ := hv_1
  refine lv_iconst (v := 0) hx hb dX1_takeWaiting_4 (by decide) ?_
  refine ty_ki (wr := []) (wc := ([] ++ ws)) (va_runSN (As := [.ref a_3, .int 0]) (rest := []) ⟨hx, hb, hml, hown, hts⟩ (t_X10_at l D ct S ws ph xx a_3 n_4 (0 : Int32) _ hT ha_5 hph hy1) (cm_SN 2 hts kc_X10_at ki_RX10 kl_RX1_122 ks_X10_at kd_X10_at ⟨Nat.le_of_ble_eq_true rfl, Nat.le_of_ble_eq_true rfl⟩) (ty_preS (wr := []) (wc := ([] ++ ws)) hP hK hD hS hA hX) rfl rfl hl.1 rfl (lv_room (Nat.le_of_ble_eq_true rfl)) dX1_takeWaiting_5 ⟨Nat.le_of_ble_eq_true rfl, Nat.le_of_ble_eq_true rfl⟩) hP hD hS hA (fun r_6 u H locs hw_7 hP hD hS => ?_)
  obtain ⟨ws_8, rfl⟩ : ∃ z, z = u := ⟨_, rfl⟩
  have hT := hw_7
  have hP : va_P D vwCl ([] ++ ws_8) H := hP
  have hD : va_D A ([] ++ ws_8) := hD
  refine lv_istore_n (lv' := [(1, .int r_6), (0, .ref h0)]) hx hb dX1_takeWaiting_8 rfl hl (by decide) rfl (fun ls hl => ?_)
  refine lv_iconst (v := 1) hx hb dX1_takeWaiting_9 (by decide) ?_
  refine lv_istore_n (lv' := [(2, .int 1), (1, .int r_6), (0, .ref h0)]) hx hb dX1_takeWaiting_10 rfl hl (by decide) rfl (fun ls hl => ?_)
  refine ty_loop (I := fun μ H locs ls => ∃ (ws : va_W) (y_9 : Int32), μ = (2147483648 - y_9.toInt).toNat ∧ ty_V ct S ph ws ∧ va_P D vwCl ([] ++ ws) H ∧ va_D A ([] ++ ws) ∧ va_S A s.heap H locs ∧ lv_has ls 3 [(0, .ref h0), (1, .int r_6), (2, .int y_9)]) ⟨_, ws_8, (1 : Int32), rfl, hT, hP, hD, hS, (lv_sub hl [2, 1, 0] rfl)⟩ (fun μ H locs ls hI ih_11 => ?_)
  obtain ⟨ws, y_9, rfl, hT, hP, hD, hS, hl⟩ := hI
  refine lv_iload_n hx hb dX1_takeWaiting_11 rfl (lv_at hl 2 rfl) ?_
  refine lv_aload_n hx hb dX1_takeWaiting_12 rfl (lv_at hl 0 rfl) ?_
  refine ty_get (E := []) (ws := ws) (D := D) (ci := 1) (C := RX1) (T := TX1) (N := 14) hx hb hts in_X1 hown hK hP hT h_h0 rfl 9 (by decide) (hts _ kl_RX1_59) (fun _ h9 => h9) rfl dX1_takeWaiting_13 (fun _ hv_10 hf_11 => ?_)
  obtain ⟨x_12, rfl⟩ := hv_10
  refine lv_icmp_ge (tgt := 43) hx hb dX1_takeWaiting_16 (by decide) (fun hc_13 => ?_) (fun hc_13 => ?_)
  · refine lv_aload_n hx hb dX1_takeWaiting_43 rfl (lv_at hl 0 rfl) ?_
    refine lv_iconst (v := 0) hx hb dX1_takeWaiting_44 (by decide) ?_
    refine lv_aload_n hx hb dX1_takeWaiting_45 rfl (lv_at hl 0 rfl) ?_
    refine ty_get (E := []) (ws := ws) (D := D) (ci := 1) (C := RX1) (T := TX1) (N := 14) hx hb hts in_X1 hown hK hP hT h_h0 rfl 9 (by decide) (hts _ kl_RX1_59) (fun _ h9 => h9) rfl dX1_takeWaiting_46 (fun _ hv_14 hf_15 => ?_)
    obtain ⟨x_16, rfl⟩ := hv_14
    refine lv_iconst (v := 1) hx hb dX1_takeWaiting_49 (by decide) ?_
    refine lv_isub hx hb dX1_takeWaiting_50 ?_
    refine lv_topi (fun x_17 _ => ?_)
    refine va_mmax hx hb (hml.trans hl.1.symm) hown (hts _ kl_RX1_130) (hts _ jm_max_s) (hts _ ki_RJ9) (hts _ jm_max_c) (Nat.le_of_ble_eq_true rfl) (Nat.le_of_ble_eq_true rfl) (Nat.le_of_ble_eq_true rfl) (Nat.le_of_ble_eq_true rfl) dX1_takeWaiting_51 ?_
    refine lv_topi (fun x_18 _ => ?_)
    refine ty_put (v := .int x_18) (ty := .int) (E := []) (ws := ws) (D := D) (ci := 1) (C := RX1) (T := TX1) (N := 14) hx hb hts in_X1 tyX1 tyX1_ok nmX1 hown hK hP hD hS hT h_h0 rfl 9 (by decide) (hts _ kl_RX1_59) (fun _ h9 => h9) rfl (by decide +kernel) rfl rfl rfl ⟨_, rfl⟩ dX1_takeWaiting_54 hph (hy1 1 9 h0 rfl) (fun ws_19 H locs hT hP hD hS => ?_)
    refine lv_iload_n hx hb dX1_takeWaiting_57 rfl (lv_at hl 1 rfl) ?_
    exact W.iret (v := r_6) hx hb hr (fun t ht hW => ⟨⟨r_6, ws_19, rfl, hT, by rw [ht]; exact hP, by rw [hAe]; exact hD⟩, hS.F ht⟩) hS.2.2 dX1_takeWaiting_58
  · refine lv_aload_n hx hb dX1_takeWaiting_19 rfl (lv_at hl 0 rfl) ?_
    refine ty_get (E := []) (ws := ws) (D := D) (ci := 1) (C := RX1) (T := TX1) (N := 14) hx hb hts in_X1 hown hK hP hT h_h0 rfl 8 (by decide) (hts _ kl_RX1_33) (fun _ h9 => h9) rfl dX1_takeWaiting_20 (fun _ hv_20 hf_21 => ?_)
    obtain ⟨a_22, n_23, rfl, ha_24⟩ := hv_20
    refine lv_iload_n hx hb dX1_takeWaiting_23 rfl (lv_at hl 2 rfl) ?_
    refine lv_iconst (v := 1) hx hb dX1_takeWaiting_24 (by decide) ?_
    refine lv_isub hx hb dX1_takeWaiting_25 ?_
    refine lv_topi (fun x_25 _ => ?_)
    refine lv_aload_n hx hb dX1_takeWaiting_26 rfl (lv_at hl 0 rfl) ?_
    refine ty_get (E := []) (ws := ws) (D := D) (ci := 1) (C := RX1) (T := TX1) (N := 14) hx hb hts in_X1 hown hK hP hT h_h0 rfl 8 (by decide) (hts _ kl_RX1_33) (fun _ h9 => h9) rfl dX1_takeWaiting_27 (fun _ hv_26 hf_27 => ?_)
    obtain ⟨a_28, n_29, rfl, ha_30⟩ := hv_26
    refine lv_iload_n hx hb dX1_takeWaiting_30 rfl (lv_at hl 2 rfl) ?_
    refine ty_ki (wr := []) (wc := ([] ++ ws)) (va_runSN (As := [.ref a_28, .int y_9]) (rest := [.int x_25, .ref a_22]) ⟨hx, hb, hml, hown, hts⟩ (t_X10_at l D ct S ws ph xx a_28 n_29 y_9 _ hT ha_30 hph hy1) (cm_SN 2 hts kc_X10_at ki_RX10 kl_RX1_122 ks_X10_at kd_X10_at ⟨Nat.le_of_ble_eq_true rfl, Nat.le_of_ble_eq_true rfl⟩) (ty_preS (wr := []) (wc := ([] ++ ws)) hP hK hD hS hA hX) rfl rfl hl.1 rfl (lv_room (Nat.le_of_ble_eq_true rfl)) dX1_takeWaiting_31 ⟨Nat.le_of_ble_eq_true rfl, Nat.le_of_ble_eq_true rfl⟩) hP hD hS hA (fun r_31 u H locs hw_32 hP hD hS => ?_)
    obtain ⟨ws_33, rfl⟩ : ∃ z, z = u := ⟨_, rfl⟩
    have hT := hw_32
    have hP : va_P D vwCl ([] ++ ws_33) H := hP
    have hD : va_D A ([] ++ ws_33) := hD
    refine ty_kv (wr := []) (wc := ([] ++ ws_33)) (va_runSN (As := [.ref a_22, .int x_25, .int r_31]) (rest := []) ⟨hx, hb, hml, hown, hts⟩ (t_X10_put l D ct S ws_33 ph xx a_22 n_23 x_25 r_31 _ hT ha_24 hph hy1) (cm_SN 3 hts kc_X10_put ki_RX10 kl_RX1_126 ks_X10_put kd_X10_put ⟨Nat.le_of_ble_eq_true rfl, Nat.le_of_ble_eq_true rfl⟩) (ty_preS (wr := []) (wc := ([] ++ ws_33)) hP hK hD hS hA hX) rfl rfl hl.1 rfl (lv_room (Nat.le_of_ble_eq_true rfl)) dX1_takeWaiting_34 ⟨Nat.le_of_ble_eq_true rfl, Nat.le_of_ble_eq_true rfl⟩) hP hD hS hA (fun u H locs hw_35 hP hD hS => ?_)
    obtain ⟨ws_36, rfl⟩ : ∃ z, z = u := ⟨_, rfl⟩
    obtain ⟨hT, hp_37⟩ := hw_35
    have hp_37 : ty_fdle ws_33 ws_36 := hp_37
    have hP : va_P D vwCl ([] ++ ws_36) H := hP
    have hD : va_D A ([] ++ ws_36) := hD
    refine lv_iinc (v := (y_9 + Int32.ofInt 1)) (lv' := [(2, .int (y_9 + Int32.ofInt 1)), (0, .ref h0), (1, .int r_6)]) hx hb dX1_takeWaiting_37 hl (k := 2) rfl rfl (by decide) rfl (fun ls hl => ?_)
    refine lv_goto (tgt := 11) hx hb dX1_takeWaiting_40 (by decide) ?_
    exact ih_11 _ _ _ _ (ty_inc (cm_lt hc_13)) ⟨ws_36, (y_9 + Int32.ofInt 1), rfl, hT, hP, hD, hS, (lv_sub hl [1, 2, 0] rfl)⟩
theorem dX2_add_0 : decode cX2_add 0 = .ok (.aload_n 0, 1) := by decide +kernel
theorem dX2_add_1 : decode cX2_add 1 = .ok (.getfield 22, 3) := by decide +kernel
theorem dX2_add_4 : decode cX2_add 4 = .ok (.ifCond .lt 47, 3) := by decide +kernel
theorem dX2_add_7 : decode cX2_add 7 = .ok (.aload_n 0, 1) := by decide +kernel
theorem dX2_add_8 : decode cX2_add 8 = .ok (.getfield 22, 3) := by decide +kernel
theorem dX2_add_11 : decode cX2_add 11 = .ok (.aload_n 0, 1) := by decide +kernel
theorem dX2_add_12 : decode cX2_add 12 = .ok (.getfield 9, 3) := by decide +kernel
theorem dX2_add_15 : decode cX2_add 15 = .ok (.arraylength, 1) := by decide +kernel
theorem dX2_add_16 : decode cX2_add 16 = .ok (.if_icmp .ge 35, 3) := by decide +kernel
theorem dX2_add_19 : decode cX2_add 19 = .ok (.aload_n 0, 1) := by decide +kernel
theorem dX2_add_20 : decode cX2_add 20 = .ok (.getfield 9, 3) := by decide +kernel
theorem dX2_add_23 : decode cX2_add 23 = .ok (.aload_n 0, 1) := by decide +kernel
theorem dX2_add_24 : decode cX2_add 24 = .ok (.getfield 22, 3) := by decide +kernel
theorem dX2_add_27 : decode cX2_add 27 = .ok (.lload_n 1, 1) := by decide +kernel
theorem dX2_add_28 : decode cX2_add 28 = .ok (.lastore, 1) := by decide +kernel
theorem dX2_add_29 : decode cX2_add 29 = .ok (.aload_n 0, 1) := by decide +kernel
theorem dX2_add_30 : decode cX2_add 30 = .ok (.getfield 15, 3) := by decide +kernel
theorem dX2_add_33 : decode cX2_add 33 = .ok (.aload_n 0, 1) := by decide +kernel
theorem dX2_add_34 : decode cX2_add 34 = .ok (.getfield 22, 3) := by decide +kernel
theorem dX2_add_37 : decode cX2_add 37 = .ok (.iconst 0, 1) := by decide +kernel
theorem dX2_add_38 : decode cX2_add 38 = .ok (.invokestatic 26, 3) := by decide +kernel
theorem dX2_add_41 : decode cX2_add 41 = .ok (.aload_n 0, 1) := by decide +kernel
theorem dX2_add_42 : decode cX2_add 42 = .ok (.dup, 1) := by decide +kernel
theorem dX2_add_43 : decode cX2_add 43 = .ok (.getfield 22, 3) := by decide +kernel
theorem dX2_add_46 : decode cX2_add 46 = .ok (.iconst 1, 1) := by decide +kernel
theorem dX2_add_47 : decode cX2_add 47 = .ok (.iadd, 1) := by decide +kernel
theorem dX2_add_48 : decode cX2_add 48 = .ok (.putfield 22, 3) := by decide +kernel
theorem dX2_add_51 : decode cX2_add 51 = .ok (.return_, 1) := by decide +kernel
set_option maxRecDepth 100000 in
set_option maxHeartbeats 4000000 in
theorem t_X2_add (l : Launch) (D : va_G) (ct : Nat → ClassId) (S : ty_S) (ws : va_W) (ph : va_W → Prop) (xx : Nat → Nat → Nat → Prop) (h0 : Nat) (p1 : Int64) (sz : Nat) (hT : ty_V ct S ph ws) (h_h0 : S h0 = some (.inl 2)) (hph : ty_C ph xx) (hy1 : ty_y1 xx) (hy2 : ty_y0 xx 2) (hy11 : ty_y0 xx 11) : Met l yX2_add (ws_ yX2_add cX2_add 3 none) ({ frames := 1, cells := 0, slots := 0, locals := 22 } : Room) (va_Pc [.ref h0, .long p1] (cmP D ct sz ([] ++ ws))) (va_Qv (fun (u9 : va_W) => ty_V ct S ph u9) (cmB D ([] ++ ws) sz (fun (u9 : va_W) => ([] ++ u9))) (va_A ([] ++ ws) sz)) 0 0 (va_A ([] ++ ws) sz) := by
  refine Met.ofW (cc := cX2_add) (maxL := 3) (ret := none) (by decide) rfl ?_
  intro p e s m args below meth c s₁ B hml hv
  obtain ⟨rfl, hsz, hP, hK, hD0, hX⟩ := hv
  have hx := B.exec
  have hb := B.bytes
  have hr := B.returns
  have hts := ws_all (atoms_spec (ws := ws_ yX2_add cX2_add 3 none) B.pre)
  have hown : s.vm.findClass RX2 = some m.cls := findClass_of_methodNamed B.named
  have hlocks := B.notSynchronized
  subst hsz
  have hD := hD0.self (sz := s.heap.size)
  generalize hAe : va_A ([] ++ ws) s.heap.size = A at hD hX ⊢
  have hA : ∀ q : Nat, s.heap.size ≤ q → A q := fun q h => by rw [← hAe]; exact Or.inr h
  have hS : va_S A s.heap s.heap [] := va_S.rf
  have hl := lv_entry ([.ref h0, .long p1]) (n := 3) (Nat.le_of_ble_eq_true rfl)
  rw [lg_entry_eq]
  generalize (lg_sl ([.ref h0, .long p1]) ++ List.replicate (3 - (lg_sl ([.ref h0, .long p1])).length) Slot.unset).toArray = ls at hl ⊢
  have hl : lv_has ls 3 [(0, .ref h0), (1, .long p1)] := hl
  refine lv_aload_n hx hb dX2_add_0 rfl (lv_at hl 0 rfl) ?_
  refine ty_get (E := []) (ws := ws) (D := D) (ci := 2) (C := RX2) (T := TX2) (N := 4) hx hb hts in_X2 hown hK hP hT h_h0 rfl 0 (by decide) (hts _ kl_RX2_22) (fun _ h9 => h9) rfl dX2_add_1 (fun _ hv_1 hf_2 => ?_)
  obtain ⟨x_3, rfl⟩ := hv_1
  refine lv_if_lt (tgt := 51) hx hb dX2_add_4 (by decide) (fun hc_4 => ?_) (fun hc_4 => ?_)
  · exact W.vret hx hb hr (fun t ht hW => ⟨⟨ws, rfl, hT, by rw [ht]; exact hP, by rw [hAe]; exact hD⟩, hS.F ht⟩) hS.2.2 dX2_add_51
  · refine lv_aload_n hx hb dX2_add_7 rfl (lv_at hl 0 rfl) ?_
    refine ty_getD (v := .int x_3) (E := []) (ws := ws) (D := D) (ci := 2) (C := RX2) (T := TX2) (N := 4) hx hb hts in_X2 hown hK hP hD hT h_h0 rfl 0 (by decide) (hts _ kl_RX2_22) (fun _ h9 => h9) hf_2 dX2_add_8 ?_
    refine lv_aload_n hx hb dX2_add_11 rfl (lv_at hl 0 rfl) ?_
    refine ty_get (E := []) (ws := ws) (D := D) (ci := 2) (C := RX2) (T := TX2) (N := 4) hx hb hts in_X2 hown hK hP hT h_h0 rfl 1 (by decide) (hts _ kl_RX2_9) (fun _ h9 => h9) rfl dX2_add_12 (fun _ hv_5 hf_6 => ?_)
    obtain ⟨a_7, n_8, rfl, ha_9⟩ := hv_5
    refine ty_alen1 (E := []) (ws := ws) hx hb hK hP hT ha_9 dX2_add_15 ?_
    refine lv_icmp_ge (tgt := 51) hx hb dX2_add_16 (by decide) (fun hc_10 => ?_) (fun hc_10 => ?_)
    · exact W.vret hx hb hr (fun t ht hW => ⟨⟨ws, rfl, hT, by rw [ht]; exact hP, by rw [hAe]; exact hD⟩, hS.F ht⟩) hS.2.2 dX2_add_51
    · refine lv_aload_n hx hb dX2_add_19 rfl (lv_at hl 0 rfl) ?_
      refine ty_getD (v := .ref a_7) (E := []) (ws := ws) (D := D) (ci := 2) (C := RX2) (T := TX2) (N := 4) hx hb hts in_X2 hown hK hP hD hT h_h0 rfl 1 (by decide) (hts _ kl_RX2_9) (fun _ h9 => h9) hf_6 dX2_add_20 ?_
      refine lv_aload_n hx hb dX2_add_23 rfl (lv_at hl 0 rfl) ?_
      refine ty_getD (v := .int x_3) (E := []) (ws := ws) (D := D) (ci := 2) (C := RX2) (T := TX2) (N := 4) hx hb hts in_X2 hown hK hP hD hT h_h0 rfl 0 (by decide) (hts _ kl_RX2_22) (fun _ h9 => h9) hf_2 dX2_add_24 ?_
      refine lv_lload_n hx hb dX2_add_27 rfl (lv_at hl 1 rfl) ?_
      refine ty_last (E := []) (ws := ws) hx hb hK hP hD hS hT ha_9 (cm_vin2 (ty_lt hT.1 ha_9) hc_4 (cm_lt hc_10)) dX2_add_28 hph (hy11 a_7) (fun ws_11 H locs hT hP hD hS => ?_)
      refine lv_aload_n hx hb dX2_add_29 rfl (lv_at hl 0 rfl) ?_
      refine ty_get (E := []) (ws := ws_11) (D := D) (ci := 2) (C := RX2) (T := TX2) (N := 4) hx hb hts in_X2 hown hK hP hT h_h0 rfl 2 (by decide) (hts _ kl_RX2_15) (fun _ h9 => h9) rfl dX2_add_30 (fun _ hv_12 hf_13 => ?_)
      obtain ⟨a_14, n_15, rfl, ha_16⟩ := hv_12
      refine lv_aload_n hx hb dX2_add_33 rfl (lv_at hl 0 rfl) ?_
      refine ty_get (E := []) (ws := ws_11) (D := D) (ci := 2) (C := RX2) (T := TX2) (N := 4) hx hb hts in_X2 hown hK hP hT h_h0 rfl 0 (by decide) (hts _ kl_RX2_22) (fun _ h9 => h9) rfl dX2_add_34 (fun _ hv_17 hf_18 => ?_)
      obtain ⟨x_19, rfl⟩ := hv_17
      refine lv_iconst (v := 0) hx hb dX2_add_37 (by decide) ?_
      refine ty_kv (wr := []) (wc := ([] ++ ws_11)) (va_runSN (As := [.ref a_14, .int x_19, .int 0]) (rest := []) ⟨hx, hb, hml, hown, hts⟩ (t_X10_put l D ct S ws_11 ph xx a_14 n_15 x_19 (0 : Int32) _ hT ha_16 hph hy1) (cm_SN 3 hts kc_X10_put ki_RX10 kl_RX2_26 ks_X10_put kd_X10_put ⟨Nat.le_of_ble_eq_true rfl, Nat.le_of_ble_eq_true rfl⟩) (ty_preS (wr := []) (wc := ([] ++ ws_11)) hP hK hD hS hA hX) rfl rfl hl.1 rfl (lv_room (Nat.le_of_ble_eq_true rfl)) dX2_add_38 ⟨Nat.le_of_ble_eq_true rfl, Nat.le_of_ble_eq_true rfl⟩) hP hD hS hA (fun u H locs hw_21 hP hD hS => ?_)
      obtain ⟨ws_22, rfl⟩ : ∃ z, z = u := ⟨_, rfl⟩
      obtain ⟨hT, hp_23⟩ := hw_21
      have hp_23 : ty_fdle ws_11 ws_22 := hp_23
      have hP : va_P D vwCl ([] ++ ws_22) H := hP
      have hD : va_D A ([] ++ ws_22) := hD
      refine lv_aload_n hx hb dX2_add_41 rfl (lv_at hl 0 rfl) ?_
      refine lv_dup hx hb dX2_add_42 rfl ?_
      refine ty_get (E := []) (ws := ws_22) (D := D) (ci := 2) (C := RX2) (T := TX2) (N := 4) hx hb hts in_X2 hown hK hP hT h_h0 rfl 0 (by decide) (hts _ kl_RX2_22) (fun _ h9 => h9) rfl dX2_add_43 (fun _ hv_24 hf_25 => ?_)
      obtain ⟨x_26, rfl⟩ := hv_24
      refine lv_iconst (v := 1) hx hb dX2_add_46 (by decide) ?_
      refine lv_iadd hx hb dX2_add_47 ?_
      refine lv_topi (fun x_27 _ => ?_)
      refine ty_put (v := .int x_27) (ty := .int) (E := []) (ws := ws_22) (D := D) (ci := 2) (C := RX2) (T := TX2) (N := 4) hx hb hts in_X2 tyX2 tyX2_ok nmX2 hown hK hP hD hS hT h_h0 rfl 0 (by decide) (hts _ kl_RX2_22) (fun _ h9 => h9) rfl (by decide +kernel) rfl rfl rfl ⟨_, rfl⟩ dX2_add_48 hph (hy2 h0) (fun ws_28 H locs hT hP hD hS => ?_)
      exact W.vret hx hb hr (fun t ht hW => ⟨⟨ws_28, rfl, hT, by rw [ht]; exact hP, by rw [hAe]; exact hD⟩, hS.F ht⟩) hS.2.2 dX2_add_51
theorem dX2_addVoltageToLast_0 : decode cX2_addVoltageToLast 0 = .ok (.aload_n 0, 1) := by decide +kernel
theorem dX2_addVoltageToLast_1 : decode cX2_addVoltageToLast 1 = .ok (.getfield 22, 3) := by decide +kernel
theorem dX2_addVoltageToLast_4 : decode cX2_addVoltageToLast 4 = .ok (.iconst 1, 1) := by decide +kernel
theorem dX2_addVoltageToLast_5 : decode cX2_addVoltageToLast 5 = .ok (.isub, 1) := by decide +kernel
theorem dX2_addVoltageToLast_6 : decode cX2_addVoltageToLast 6 = .ok (.istore_n 2, 1) := by decide +kernel
theorem dX2_addVoltageToLast_7 : decode cX2_addVoltageToLast 7 = .ok (.aload_n 0, 1) := by decide +kernel
theorem dX2_addVoltageToLast_8 : decode cX2_addVoltageToLast 8 = .ok (.getfield 15, 3) := by decide +kernel
theorem dX2_addVoltageToLast_11 : decode cX2_addVoltageToLast 11 = .ok (.iload_n 2, 1) := by decide +kernel
theorem dX2_addVoltageToLast_12 : decode cX2_addVoltageToLast 12 = .ok (.invokestatic 30, 3) := by decide +kernel
theorem dX2_addVoltageToLast_15 : decode cX2_addVoltageToLast 15 = .ok (.istore_n 3, 1) := by decide +kernel
theorem dX2_addVoltageToLast_16 : decode cX2_addVoltageToLast 16 = .ok (.aload_n 0, 1) := by decide +kernel
theorem dX2_addVoltageToLast_17 : decode cX2_addVoltageToLast 17 = .ok (.getfield 19, 3) := by decide +kernel
theorem dX2_addVoltageToLast_20 : decode cX2_addVoltageToLast 20 = .ok (.iload_n 2, 1) := by decide +kernel
theorem dX2_addVoltageToLast_21 : decode cX2_addVoltageToLast 21 = .ok (.bipush 11, 2) := by decide +kernel
theorem dX2_addVoltageToLast_23 : decode cX2_addVoltageToLast 23 = .ok (.imul, 1) := by decide +kernel
theorem dX2_addVoltageToLast_24 : decode cX2_addVoltageToLast 24 = .ok (.iload_n 3, 1) := by decide +kernel
theorem dX2_addVoltageToLast_25 : decode cX2_addVoltageToLast 25 = .ok (.iadd, 1) := by decide +kernel
theorem dX2_addVoltageToLast_26 : decode cX2_addVoltageToLast 26 = .ok (.iload_n 1, 1) := by decide +kernel
theorem dX2_addVoltageToLast_27 : decode cX2_addVoltageToLast 27 = .ok (.invokestatic 26, 3) := by decide +kernel
theorem dX2_addVoltageToLast_30 : decode cX2_addVoltageToLast 30 = .ok (.aload_n 0, 1) := by decide +kernel
theorem dX2_addVoltageToLast_31 : decode cX2_addVoltageToLast 31 = .ok (.getfield 15, 3) := by decide +kernel
theorem dX2_addVoltageToLast_34 : decode cX2_addVoltageToLast 34 = .ok (.iload_n 2, 1) := by decide +kernel
theorem dX2_addVoltageToLast_35 : decode cX2_addVoltageToLast 35 = .ok (.iload_n 3, 1) := by decide +kernel
theorem dX2_addVoltageToLast_36 : decode cX2_addVoltageToLast 36 = .ok (.iconst 1, 1) := by decide +kernel
theorem dX2_addVoltageToLast_37 : decode cX2_addVoltageToLast 37 = .ok (.iadd, 1) := by decide +kernel
theorem dX2_addVoltageToLast_38 : decode cX2_addVoltageToLast 38 = .ok (.invokestatic 26, 3) := by decide +kernel
theorem dX2_addVoltageToLast_41 : decode cX2_addVoltageToLast 41 = .ok (.return_, 1) := by decide +kernel
set_option maxRecDepth 100000 in
set_option maxHeartbeats 4000000 in
theorem t_X2_addVoltageToLast (l : Launch) (D : va_G) (ct : Nat → ClassId) (S : ty_S) (ws : va_W) (ph : va_W → Prop) (xx : Nat → Nat → Nat → Prop) (h0 : Nat) (p1 : Int32) (sz : Nat) (hT : ty_V ct S ph ws) (h_h0 : S h0 = some (.inl 2)) (hph : ty_C ph xx) (hy1 : ty_y1 xx) : Met l yX2_addVoltageToLast (ws_ yX2_addVoltageToLast cX2_addVoltageToLast 4 none) ({ frames := 1, cells := 0, slots := 0, locals := 22 } : Room) (va_Pc [.ref h0, .int p1] (cmP D ct sz ([] ++ ws))) (va_Qv (fun (u9 : va_W) => ty_V ct S ph u9) (cmB D ([] ++ ws) sz (fun (u9 : va_W) => ([] ++ u9))) (va_A ([] ++ ws) sz)) 0 0 (va_A ([] ++ ws) sz) := by
  refine Met.ofW (cc := cX2_addVoltageToLast) (maxL := 4) (ret := none) (by decide) rfl ?_
  intro p e s m args below meth c s₁ B hml hv
  obtain ⟨rfl, hsz, hP, hK, hD0, hX⟩ := hv
  have hx := B.exec
  have hb := B.bytes
  have hr := B.returns
  have hts := ws_all (atoms_spec (ws := ws_ yX2_addVoltageToLast cX2_addVoltageToLast 4 none) B.pre)
  have hown : s.vm.findClass RX2 = some m.cls := findClass_of_methodNamed B.named
  have hlocks := B.notSynchronized
  subst hsz
  have hD := hD0.self (sz := s.heap.size)
  generalize hAe : va_A ([] ++ ws) s.heap.size = A at hD hX ⊢
  have hA : ∀ q : Nat, s.heap.size ≤ q → A q := fun q h => by rw [← hAe]; exact Or.inr h
  have hS : va_S A s.heap s.heap [] := va_S.rf
  have hl := lv_entry ([.ref h0, .int p1]) (n := 4) (Nat.le_of_ble_eq_true rfl)
  rw [lg_entry_eq]
  generalize (lg_sl ([.ref h0, .int p1]) ++ List.replicate (4 - (lg_sl ([.ref h0, .int p1])).length) Slot.unset).toArray = ls at hl ⊢
  have hl : lv_has ls 4 [(0, .ref h0), (1, .int p1)] := hl
  refine lv_aload_n hx hb dX2_addVoltageToLast_0 rfl (lv_at hl 0 rfl) ?_
  refine ty_get (E := []) (ws := ws) (D := D) (ci := 2) (C := RX2) (T := TX2) (N := 4) hx hb hts in_X2 hown hK hP hT h_h0 rfl 0 (by decide) (hts _ kl_RX2_22) (fun _ h9 => h9) rfl dX2_addVoltageToLast_1 (fun _ hv_1 hf_2 => ?_)
  obtain ⟨x_3, rfl⟩ := hv_1
  refine lv_iconst (v := 1) hx hb dX2_addVoltageToLast_4 (by decide) ?_
  refine lv_isub hx hb dX2_addVoltageToLast_5 ?_
  refine lv_topi (fun x_4 _ => ?_)
  refine lv_istore_n (lv' := [(2, .int x_4), (0, .ref h0), (1, .int p1)]) hx hb dX2_addVoltageToLast_6 rfl hl (by decide) rfl (fun ls hl => ?_)
  refine lv_aload_n hx hb dX2_addVoltageToLast_7 rfl (lv_at hl 1 rfl) ?_
  refine ty_get (E := []) (ws := ws) (D := D) (ci := 2) (C := RX2) (T := TX2) (N := 4) hx hb hts in_X2 hown hK hP hT h_h0 rfl 2 (by decide) (hts _ kl_RX2_15) (fun _ h9 => h9) rfl dX2_addVoltageToLast_8 (fun _ hv_5 hf_6 => ?_)
  obtain ⟨a_7, n_8, rfl, ha_9⟩ := hv_5
  refine lv_iload_n hx hb dX2_addVoltageToLast_11 rfl (lv_at hl 0 rfl) ?_
  refine ty_ki (wr := []) (wc := ([] ++ ws)) (va_runSN (As := [.ref a_7, .int x_4]) (rest := []) ⟨hx, hb, hml, hown, hts⟩ (t_X10_at l D ct S ws ph xx a_7 n_8 x_4 _ hT ha_9 hph hy1) (cm_SN 2 hts kc_X10_at ki_RX10 kl_RX2_30 ks_X10_at kd_X10_at ⟨Nat.le_of_ble_eq_true rfl, Nat.le_of_ble_eq_true rfl⟩) (ty_preS (wr := []) (wc := ([] ++ ws)) hP hK hD hS hA hX) rfl rfl hl.1 rfl (lv_room (Nat.le_of_ble_eq_true rfl)) dX2_addVoltageToLast_12 ⟨Nat.le_of_ble_eq_true rfl, Nat.le_of_ble_eq_true rfl⟩) hP hD hS hA (fun r_10 u H locs hw_11 hP hD hS => ?_)
  obtain ⟨ws_12, rfl⟩ : ∃ z, z = u := ⟨_, rfl⟩
  have hT := hw_11
  have hP : va_P D vwCl ([] ++ ws_12) H := hP
  have hD : va_D A ([] ++ ws_12) := hD
  refine lv_istore_n (lv' := [(3, .int r_10), (2, .int x_4), (0, .ref h0), (1, .int p1)]) hx hb dX2_addVoltageToLast_15 rfl hl (by decide) rfl (fun ls hl => ?_)
  refine lv_aload_n hx hb dX2_addVoltageToLast_16 rfl (lv_at hl 2 rfl) ?_
  refine ty_get (E := []) (ws := ws_12) (D := D) (ci := 2) (C := RX2) (T := TX2) (N := 4) hx hb hts in_X2 hown hK hP hT h_h0 rfl 3 (by decide) (hts _ kl_RX2_19) (fun _ h9 => h9) rfl dX2_addVoltageToLast_17 (fun _ hv_13 hf_14 => ?_)
  obtain ⟨a_15, n_16, rfl, ha_17⟩ := hv_13
  refine lv_iload_n hx hb dX2_addVoltageToLast_20 rfl (lv_at hl 1 rfl) ?_
  refine lv_bipush (v := 11) hx hb dX2_addVoltageToLast_21 (by decide) ?_
  refine lv_imul hx hb dX2_addVoltageToLast_23 ?_
  refine lv_topi (fun x_18 _ => ?_)
  refine lv_iload_n hx hb dX2_addVoltageToLast_24 rfl (lv_at hl 0 rfl) ?_
  refine lv_iadd hx hb dX2_addVoltageToLast_25 ?_
  refine lv_topi (fun x_19 _ => ?_)
  refine lv_iload_n hx hb dX2_addVoltageToLast_26 rfl (lv_at hl 3 rfl) ?_
  refine ty_kv (wr := []) (wc := ([] ++ ws_12)) (va_runSN (As := [.ref a_15, .int x_19, .int p1]) (rest := []) ⟨hx, hb, hml, hown, hts⟩ (t_X10_put l D ct S ws_12 ph xx a_15 n_16 x_19 p1 _ hT ha_17 hph hy1) (cm_SN 3 hts kc_X10_put ki_RX10 kl_RX2_26 ks_X10_put kd_X10_put ⟨Nat.le_of_ble_eq_true rfl, Nat.le_of_ble_eq_true rfl⟩) (ty_preS (wr := []) (wc := ([] ++ ws_12)) hP hK hD hS hA hX) rfl rfl hl.1 rfl (lv_room (Nat.le_of_ble_eq_true rfl)) dX2_addVoltageToLast_27 ⟨Nat.le_of_ble_eq_true rfl, Nat.le_of_ble_eq_true rfl⟩) hP hD hS hA (fun u H locs hw_21 hP hD hS => ?_)
  obtain ⟨ws_22, rfl⟩ : ∃ z, z = u := ⟨_, rfl⟩
  obtain ⟨hT, hp_23⟩ := hw_21
  have hp_23 : ty_fdle ws_12 ws_22 := hp_23
  have hP : va_P D vwCl ([] ++ ws_22) H := hP
  have hD : va_D A ([] ++ ws_22) := hD
  refine lv_aload_n hx hb dX2_addVoltageToLast_30 rfl (lv_at hl 2 rfl) ?_
  refine ty_get (E := []) (ws := ws_22) (D := D) (ci := 2) (C := RX2) (T := TX2) (N := 4) hx hb hts in_X2 hown hK hP hT h_h0 rfl 2 (by decide) (hts _ kl_RX2_15) (fun _ h9 => h9) rfl dX2_addVoltageToLast_31 (fun _ hv_24 hf_25 => ?_)
  obtain ⟨a_26, n_27, rfl, ha_28⟩ := hv_24
  refine lv_iload_n hx hb dX2_addVoltageToLast_34 rfl (lv_at hl 1 rfl) ?_
  refine lv_iload_n hx hb dX2_addVoltageToLast_35 rfl (lv_at hl 0 rfl) ?_
  refine lv_iconst (v := 1) hx hb dX2_addVoltageToLast_36 (by decide) ?_
  refine lv_iadd hx hb dX2_addVoltageToLast_37 ?_
  refine lv_topi (fun x_29 _ => ?_)
  refine ty_kv (wr := []) (wc := ([] ++ ws_22)) (va_runSN (As := [.ref a_26, .int x_4, .int x_29]) (rest := []) ⟨hx, hb, hml, hown, hts⟩ (t_X10_put l D ct S ws_22 ph xx a_26 n_27 x_4 x_29 _ hT ha_28 hph hy1) (cm_SN 3 hts kc_X10_put ki_RX10 kl_RX2_26 ks_X10_put kd_X10_put ⟨Nat.le_of_ble_eq_true rfl, Nat.le_of_ble_eq_true rfl⟩) (ty_preS (wr := []) (wc := ([] ++ ws_22)) hP hK hD hS hA hX) rfl rfl hl.1 rfl (lv_room (Nat.le_of_ble_eq_true rfl)) dX2_addVoltageToLast_38 ⟨Nat.le_of_ble_eq_true rfl, Nat.le_of_ble_eq_true rfl⟩) hP hD hS hA (fun u H locs hw_31 hP hD hS => ?_)
  obtain ⟨ws_32, rfl⟩ : ∃ z, z = u := ⟨_, rfl⟩
  obtain ⟨hT, hp_33⟩ := hw_31
  have hp_33 : ty_fdle ws_22 ws_32 := hp_33
  have hP : va_P D vwCl ([] ++ ws_32) H := hP
  have hD : va_D A ([] ++ ws_32) := hD
  exact W.vret hx hb hr (fun t ht hW => ⟨⟨ws_32, rfl, hT, by rw [ht]; exact hP, by rw [hAe]; exact hD⟩, hS.F ht⟩) hS.2.2 dX2_addVoltageToLast_41
theorem dX2_voltageOf_0 : decode cX2_voltageOf 0 = .ok (.aload_n 0, 1) := by decide +kernel
theorem dX2_voltageOf_1 : decode cX2_voltageOf 1 = .ok (.getfield 19, 3) := by decide +kernel
theorem dX2_voltageOf_4 : decode cX2_voltageOf 4 = .ok (.iload_n 1, 1) := by decide +kernel
theorem dX2_voltageOf_5 : decode cX2_voltageOf 5 = .ok (.bipush 11, 2) := by decide +kernel
theorem dX2_voltageOf_7 : decode cX2_voltageOf 7 = .ok (.imul, 1) := by decide +kernel
theorem dX2_voltageOf_8 : decode cX2_voltageOf 8 = .ok (.iload_n 2, 1) := by decide +kernel
theorem dX2_voltageOf_9 : decode cX2_voltageOf 9 = .ok (.iadd, 1) := by decide +kernel
theorem dX2_voltageOf_10 : decode cX2_voltageOf 10 = .ok (.invokestatic 30, 3) := by decide +kernel
theorem dX2_voltageOf_13 : decode cX2_voltageOf 13 = .ok (.ireturn, 1) := by decide +kernel
set_option maxRecDepth 100000 in
set_option maxHeartbeats 4000000 in
theorem t_X2_voltageOf (l : Launch) (D : va_G) (ct : Nat → ClassId) (S : ty_S) (ws : va_W) (ph : va_W → Prop) (xx : Nat → Nat → Nat → Prop) (h0 : Nat) (p1 : Int32) (p2 : Int32) (sz : Nat) (hT : ty_V ct S ph ws) (h_h0 : S h0 = some (.inl 2)) (hph : ty_C ph xx) (hy1 : ty_y1 xx) : Met l yX2_voltageOf (ws_ yX2_voltageOf cX2_voltageOf 3 (some .int)) ({ frames := 1, cells := 0, slots := 0, locals := 21 } : Room) (va_Pc [.ref h0, .int p1, .int p2] (cmP D ct sz ([] ++ ws))) (va_Qi (fun (r : Int32) (u9 : va_W) => ty_V ct S ph u9) (cmB D ([] ++ ws) sz (fun (u9 : va_W) => ([] ++ u9))) (va_A ([] ++ ws) sz)) 0 0 (va_A ([] ++ ws) sz) := by
  refine Met.ofW (cc := cX2_voltageOf) (maxL := 3) (ret := (some .int)) (by decide) rfl ?_
  intro p e s m args below meth c s₁ B hml hv
  obtain ⟨rfl, hsz, hP, hK, hD0, hX⟩ := hv
  have hx := B.exec
  have hb := B.bytes
  have hr := B.returns
  have hts := ws_all (atoms_spec (ws := ws_ yX2_voltageOf cX2_voltageOf 3 (some .int)) B.pre)
  have hown : s.vm.findClass RX2 = some m.cls := findClass_of_methodNamed B.named
  have hlocks := B.notSynchronized
  subst hsz
  have hD := hD0.self (sz := s.heap.size)
  generalize hAe : va_A ([] ++ ws) s.heap.size = A at hD hX ⊢
  have hA : ∀ q : Nat, s.heap.size ≤ q → A q := fun q h => by rw [← hAe]; exact Or.inr h
  have hS : va_S A s.heap s.heap [] := va_S.rf
  have hl := lv_entry ([.ref h0, .int p1, .int p2]) (n := 3) (Nat.le_of_ble_eq_true rfl)
  rw [lg_entry_eq]
  generalize (lg_sl ([.ref h0, .int p1, .int p2]) ++ List.replicate (3 - (lg_sl ([.ref h0, .int p1, .int p2])).length) Slot.unset).toArray = ls at hl ⊢
  have hl : lv_has ls 3 [(0, .ref h0), (1, .int p1), (2, .int p2)] := hl
  refine lv_aload_n hx hb dX2_voltageOf_0 rfl (lv_at hl 0 rfl) ?_
  refine ty_get (E := []) (ws := ws) (D := D) (ci := 2) (C := RX2) (T := TX2) (N := 4) hx hb hts in_X2 hown hK hP hT h_h0 rfl 3 (by decide) (hts _ kl_RX2_19) (fun _ h9 => h9) rfl dX2_voltageOf_1 (fun _ hv_1 hf_2 => ?_)
  obtain ⟨a_3, n_4, rfl, ha_5⟩ := hv_1
  refine lv_iload_n hx hb dX2_voltageOf_4 rfl (lv_at hl 1 rfl) ?_
  refine lv_bipush (v := 11) hx hb dX2_voltageOf_5 (by decide) ?_
  refine lv_imul hx hb dX2_voltageOf_7 ?_
  refine lv_topi (fun x_6 _ => ?_)
  refine lv_iload_n hx hb dX2_voltageOf_8 rfl (lv_at hl 2 rfl) ?_
  refine lv_iadd hx hb dX2_voltageOf_9 ?_
  refine lv_topi (fun x_7 _ => ?_)
  refine ty_ki (wr := []) (wc := ([] ++ ws)) (va_runSN (As := [.ref a_3, .int x_7]) (rest := []) ⟨hx, hb, hml, hown, hts⟩ (t_X10_at l D ct S ws ph xx a_3 n_4 x_7 _ hT ha_5 hph hy1) (cm_SN 2 hts kc_X10_at ki_RX10 kl_RX2_30 ks_X10_at kd_X10_at ⟨Nat.le_of_ble_eq_true rfl, Nat.le_of_ble_eq_true rfl⟩) (ty_preS (wr := []) (wc := ([] ++ ws)) hP hK hD hS hA hX) rfl rfl hl.1 rfl (lv_room (Nat.le_of_ble_eq_true rfl)) dX2_voltageOf_10 ⟨Nat.le_of_ble_eq_true rfl, Nat.le_of_ble_eq_true rfl⟩) hP hD hS hA (fun r_8 u H locs hw_9 hP hD hS => ?_)
  obtain ⟨ws_10, rfl⟩ : ∃ z, z = u := ⟨_, rfl⟩
  have hT := hw_9
  have hP : va_P D vwCl ([] ++ ws_10) H := hP
  have hD : va_D A ([] ++ ws_10) := hD
  exact W.iret (v := r_8) hx hb hr (fun t ht hW => ⟨⟨r_8, ws_10, rfl, hT, by rw [ht]; exact hP, by rw [hAe]; exact hD⟩, hS.F ht⟩) hS.2.2 dX2_voltageOf_13
theorem dX2_copyFrom_0 : decode cX2_copyFrom 0 = .ok (.aload_n 0, 1) := by decide +kernel
theorem dX2_copyFrom_1 : decode cX2_copyFrom 1 = .ok (.aload_n 1, 1) := by decide +kernel
theorem dX2_copyFrom_2 : decode cX2_copyFrom 2 = .ok (.getfield 22, 3) := by decide +kernel
theorem dX2_copyFrom_5 : decode cX2_copyFrom 5 = .ok (.putfield 22, 3) := by decide +kernel
theorem dX2_copyFrom_8 : decode cX2_copyFrom 8 = .ok (.aload_n 1, 1) := by decide +kernel
theorem dX2_copyFrom_9 : decode cX2_copyFrom 9 = .ok (.getfield 9, 3) := by decide +kernel
theorem dX2_copyFrom_12 : decode cX2_copyFrom 12 = .ok (.iconst 0, 1) := by decide +kernel
theorem dX2_copyFrom_13 : decode cX2_copyFrom 13 = .ok (.aload_n 0, 1) := by decide +kernel
theorem dX2_copyFrom_14 : decode cX2_copyFrom 14 = .ok (.getfield 9, 3) := by decide +kernel
theorem dX2_copyFrom_17 : decode cX2_copyFrom 17 = .ok (.iconst 0, 1) := by decide +kernel
theorem dX2_copyFrom_18 : decode cX2_copyFrom 18 = .ok (.aload_n 1, 1) := by decide +kernel
theorem dX2_copyFrom_19 : decode cX2_copyFrom 19 = .ok (.getfield 9, 3) := by decide +kernel
theorem dX2_copyFrom_22 : decode cX2_copyFrom 22 = .ok (.arraylength, 1) := by decide +kernel
theorem dX2_copyFrom_23 : decode cX2_copyFrom 23 = .ok (.aload_n 0, 1) := by decide +kernel
theorem dX2_copyFrom_24 : decode cX2_copyFrom 24 = .ok (.getfield 9, 3) := by decide +kernel
theorem dX2_copyFrom_27 : decode cX2_copyFrom 27 = .ok (.arraylength, 1) := by decide +kernel
theorem dX2_copyFrom_28 : decode cX2_copyFrom 28 = .ok (.invokestatic 34, 3) := by decide +kernel
theorem dX2_copyFrom_31 : decode cX2_copyFrom 31 = .ok (.invokestatic 40, 3) := by decide +kernel
theorem dX2_copyFrom_34 : decode cX2_copyFrom 34 = .ok (.aload_n 1, 1) := by decide +kernel
theorem dX2_copyFrom_35 : decode cX2_copyFrom 35 = .ok (.getfield 15, 3) := by decide +kernel
theorem dX2_copyFrom_38 : decode cX2_copyFrom 38 = .ok (.aload_n 0, 1) := by decide +kernel
theorem dX2_copyFrom_39 : decode cX2_copyFrom 39 = .ok (.getfield 15, 3) := by decide +kernel
theorem dX2_copyFrom_42 : decode cX2_copyFrom 42 = .ok (.invokestatic 46, 3) := by decide +kernel
theorem dX2_copyFrom_45 : decode cX2_copyFrom 45 = .ok (.aload_n 1, 1) := by decide +kernel
theorem dX2_copyFrom_46 : decode cX2_copyFrom 46 = .ok (.getfield 19, 3) := by decide +kernel
theorem dX2_copyFrom_49 : decode cX2_copyFrom 49 = .ok (.aload_n 0, 1) := by decide +kernel
theorem dX2_copyFrom_50 : decode cX2_copyFrom 50 = .ok (.getfield 19, 3) := by decide +kernel
theorem dX2_copyFrom_53 : decode cX2_copyFrom 53 = .ok (.invokestatic 46, 3) := by decide +kernel
theorem dX2_copyFrom_56 : decode cX2_copyFrom 56 = .ok (.return_, 1) := by decide +kernel
set_option maxRecDepth 100000 in
set_option maxHeartbeats 4000000 in
theorem t_X2_copyFrom (l : Launch) (D : va_G) (ct : Nat → ClassId) (S : ty_S) (ws : va_W) (ph : va_W → Prop) (xx : Nat → Nat → Nat → Prop) (h0 : Nat) (p1 : Nat) (sz : Nat) (hT : ty_V ct S ph ws) (h_h0 : S h0 = some (.inl 2)) (h_p1 : S p1 = some (.inl 2)) (hph : ty_C ph xx) (hy1 : ty_y1 xx) (hy2 : ty_y0 xx 2) (hy11 : ty_y0 xx 11) : Met l yX2_copyFrom (ws_ yX2_copyFrom cX2_copyFrom 2 none) ({ frames := 2, cells := 0, slots := 0, locals := 101 } : Room) (va_Pc [.ref h0, .ref p1] (cmP D ct sz ([] ++ ws))) (va_Qv (fun (u9 : va_W) => ty_V ct S ph u9) (cmB D ([] ++ ws) sz (fun (u9 : va_W) => ([] ++ u9))) (va_A ([] ++ ws) sz)) 0 0 (va_A ([] ++ ws) sz) := by
  refine Met.ofW (cc := cX2_copyFrom) (maxL := 2) (ret := none) (by decide) rfl ?_
  intro p e s m args below meth c s₁ B hml hv
  obtain ⟨rfl, hsz, hP, hK, hD0, hX⟩ := hv
  have hx := B.exec
  have hb := B.bytes
  have hr := B.returns
  have hts := ws_all (atoms_spec (ws := ws_ yX2_copyFrom cX2_copyFrom 2 none) B.pre)
  have hown : s.vm.findClass RX2 = some m.cls := findClass_of_methodNamed B.named
  have hlocks := B.notSynchronized
  subst hsz
  have hD := hD0.self (sz := s.heap.size)
  generalize hAe : va_A ([] ++ ws) s.heap.size = A at hD hX ⊢
  have hA : ∀ q : Nat, s.heap.size ≤ q → A q := fun q h => by rw [← hAe]; exact Or.inr h
  have hS : va_S A s.heap s.heap [] := va_S.rf
  have hl := lv_entry ([.ref h0, .ref p1]) (n := 2) (Nat.le_of_ble_eq_true rfl)
  rw [lg_entry_eq]
  generalize (lg_sl ([.ref h0, .ref p1]) ++ List.replicate (2 - (lg_sl ([.ref h0, .ref p1])).length) Slot.unset).toArray = ls at hl ⊢
  have hl : lv_has ls 2 [(0, .ref h0), (1, .ref p1)] := hl
  refine lv_aload_n hx hb dX2_copyFrom_0 rfl (lv_at hl 0 rfl) ?_
  refine lv_aload_n hx hb dX2_copyFrom_1 rfl (lv_at hl 1 rfl) ?_
  refine ty_get (E := []) (ws := ws) (D := D) (ci := 2) (C := RX2) (T := TX2) (N := 4) hx hb hts in_X2 hown hK hP hT h_p1 rfl 0 (by decide) (hts _ kl_RX2_22) (fun _ h9 => h9) rfl dX2_copyFrom_2 (fun _ hv_1 hf_2 => ?_)
  obtain ⟨x_3, rfl⟩ := hv_1
  refine ty_put (v := .int x_3) (ty := .int) (E := []) (ws := ws) (D := D) (ci := 2) (C := RX2) (T := TX2) (N := 4) hx hb hts in_X2 tyX2 tyX2_ok nmX2 hown hK hP hD hS hT h_h0 rfl 0 (by decide) (hts _ kl_RX2_22) (fun _ h9 => h9) rfl (by decide +kernel) rfl rfl rfl ⟨_, rfl⟩ dX2_copyFrom_5 hph (hy2 h0) (fun ws_4 H locs hT hP hD hS => ?_)
  refine lv_aload_n hx hb dX2_copyFrom_8 rfl (lv_at hl 1 rfl) ?_
  refine ty_get (E := []) (ws := ws_4) (D := D) (ci := 2) (C := RX2) (T := TX2) (N := 4) hx hb hts in_X2 hown hK hP hT h_p1 rfl 1 (by decide) (hts _ kl_RX2_9) (fun _ h9 => h9) rfl dX2_copyFrom_9 (fun _ hv_5 hf_6 => ?_)
  obtain ⟨a_7, n_8, rfl, ha_9⟩ := hv_5
  refine lv_iconst (v := 0) hx hb dX2_copyFrom_12 (by decide) ?_
  refine lv_aload_n hx hb dX2_copyFrom_13 rfl (lv_at hl 0 rfl) ?_
  refine ty_get (E := []) (ws := ws_4) (D := D) (ci := 2) (C := RX2) (T := TX2) (N := 4) hx hb hts in_X2 hown hK hP hT h_h0 rfl 1 (by decide) (hts _ kl_RX2_9) (fun _ h9 => h9) rfl dX2_copyFrom_14 (fun _ hv_10 hf_11 => ?_)
  obtain ⟨a_12, n_13, rfl, ha_14⟩ := hv_10
  refine lv_iconst (v := 0) hx hb dX2_copyFrom_17 (by decide) ?_
  refine lv_aload_n hx hb dX2_copyFrom_18 rfl (lv_at hl 1 rfl) ?_
  refine ty_getD (v := .ref a_7) (E := []) (ws := ws_4) (D := D) (ci := 2) (C := RX2) (T := TX2) (N := 4) hx hb hts in_X2 hown hK hP hD hT h_p1 rfl 1 (by decide) (hts _ kl_RX2_9) (fun _ h9 => h9) hf_6 dX2_copyFrom_19 ?_
  refine ty_alen1 (E := []) (ws := ws_4) hx hb hK hP hT ha_9 dX2_copyFrom_22 ?_
  refine lv_aload_n hx hb dX2_copyFrom_23 rfl (lv_at hl 0 rfl) ?_
  refine ty_getD (v := .ref a_12) (E := []) (ws := ws_4) (D := D) (ci := 2) (C := RX2) (T := TX2) (N := 4) hx hb hts in_X2 hown hK hP hD hT h_h0 rfl 1 (by decide) (hts _ kl_RX2_9) (fun _ h9 => h9) hf_11 dX2_copyFrom_24 ?_
  refine ty_alen1 (E := []) (ws := ws_4) hx hb hK hP hT ha_14 dX2_copyFrom_27 ?_
  refine va_mmin hx hb (hml.trans hl.1.symm) hown (hts _ kl_RX2_34) (hts _ jm_min_s) (hts _ ki_RJ9) (hts _ jm_min_c) (Nat.le_of_ble_eq_true rfl) (Nat.le_of_ble_eq_true rfl) (Nat.le_of_ble_eq_true rfl) (Nat.le_of_ble_eq_true rfl) dX2_copyFrom_28 ?_
  refine ty_copyl (E := []) (ws := ws_4) hx hb (hml.trans hl.1.symm) hown (hts _ kl_RX2_40) (hts _ kna_java_lang_System_arraycopy) (hts _ ks_java_lang_System_arraycopy) (hts _ ki_RJ10) hK hP hD hS hT ha_9 ha_14 (Nat.le_of_ble_eq_true rfl) (Nat.le_of_ble_eq_true rfl) dX2_copyFrom_31 hph (hy11 a_12) (fun ws_15 H locs hT hP hD hS => ?_)
  refine lv_aload_n hx hb dX2_copyFrom_34 rfl (lv_at hl 1 rfl) ?_
  refine ty_get (E := []) (ws := ws_15) (D := D) (ci := 2) (C := RX2) (T := TX2) (N := 4) hx hb hts in_X2 hown hK hP hT h_p1 rfl 2 (by decide) (hts _ kl_RX2_15) (fun _ h9 => h9) rfl dX2_copyFrom_35 (fun _ hv_16 hf_17 => ?_)
  obtain ⟨a_18, n_19, rfl, ha_20⟩ := hv_16
  refine lv_aload_n hx hb dX2_copyFrom_38 rfl (lv_at hl 0 rfl) ?_
  refine ty_get (E := []) (ws := ws_15) (D := D) (ci := 2) (C := RX2) (T := TX2) (N := 4) hx hb hts in_X2 hown hK hP hT h_h0 rfl 2 (by decide) (hts _ kl_RX2_15) (fun _ h9 => h9) rfl dX2_copyFrom_39 (fun _ hv_21 hf_22 => ?_)
  obtain ⟨a_23, n_24, rfl, ha_25⟩ := hv_21
  refine ty_kv (wr := []) (wc := ([] ++ ws_15)) (va_runSN (As := [.ref a_18, .ref a_23]) (rest := []) ⟨hx, hb, hml, hown, hts⟩ (t_X10_copyRow l D ct S ws_15 ph xx a_18 n_19 a_23 n_24 _ hT ha_20 ha_25 hph hy1) (cm_SN 2 hts kc_X10_copyRow ki_RX10 kl_RX2_46 ks_X10_copyRow kd_X10_copyRow ⟨Nat.le_of_ble_eq_true rfl, Nat.le_of_ble_eq_true rfl⟩) (ty_preS (wr := []) (wc := ([] ++ ws_15)) hP hK hD hS hA hX) rfl rfl hl.1 rfl (lv_room (Nat.le_of_ble_eq_true rfl)) dX2_copyFrom_42 ⟨Nat.le_of_ble_eq_true rfl, Nat.le_of_ble_eq_true rfl⟩) hP hD hS hA (fun u H locs hw_27 hP hD hS => ?_)
  obtain ⟨ws_28, rfl⟩ : ∃ z, z = u := ⟨_, rfl⟩
  have hT := hw_27
  have hP : va_P D vwCl ([] ++ ws_28) H := hP
  have hD : va_D A ([] ++ ws_28) := hD
  refine lv_aload_n hx hb dX2_copyFrom_45 rfl (lv_at hl 1 rfl) ?_
  refine ty_get (E := []) (ws := ws_28) (D := D) (ci := 2) (C := RX2) (T := TX2) (N := 4) hx hb hts in_X2 hown hK hP hT h_p1 rfl 3 (by decide) (hts _ kl_RX2_19) (fun _ h9 => h9) rfl dX2_copyFrom_46 (fun _ hv_29 hf_30 => ?_)
  obtain ⟨a_31, n_32, rfl, ha_33⟩ := hv_29
  refine lv_aload_n hx hb dX2_copyFrom_49 rfl (lv_at hl 0 rfl) ?_
  refine ty_get (E := []) (ws := ws_28) (D := D) (ci := 2) (C := RX2) (T := TX2) (N := 4) hx hb hts in_X2 hown hK hP hT h_h0 rfl 3 (by decide) (hts _ kl_RX2_19) (fun _ h9 => h9) rfl dX2_copyFrom_50 (fun _ hv_34 hf_35 => ?_)
  obtain ⟨a_36, n_37, rfl, ha_38⟩ := hv_34
  refine ty_kv (wr := []) (wc := ([] ++ ws_28)) (va_runSN (As := [.ref a_31, .ref a_36]) (rest := []) ⟨hx, hb, hml, hown, hts⟩ (t_X10_copyRow l D ct S ws_28 ph xx a_31 n_32 a_36 n_37 _ hT ha_33 ha_38 hph hy1) (cm_SN 2 hts kc_X10_copyRow ki_RX10 kl_RX2_46 ks_X10_copyRow kd_X10_copyRow ⟨Nat.le_of_ble_eq_true rfl, Nat.le_of_ble_eq_true rfl⟩) (ty_preS (wr := []) (wc := ([] ++ ws_28)) hP hK hD hS hA hX) rfl rfl hl.1 rfl (lv_room (Nat.le_of_ble_eq_true rfl)) dX2_copyFrom_53 ⟨Nat.le_of_ble_eq_true rfl, Nat.le_of_ble_eq_true rfl⟩) hP hD hS hA (fun u H locs hw_40 hP hD hS => ?_)
  obtain ⟨ws_41, rfl⟩ : ∃ z, z = u := ⟨_, rfl⟩
  have hT := hw_40
  have hP : va_P D vwCl ([] ++ ws_41) H := hP
  have hD : va_D A ([] ++ ws_41) := hD
  exact W.vret hx hb hr (fun t ht hW => ⟨⟨ws_41, rfl, hT, by rw [ht]; exact hP, by rw [hAe]; exact hD⟩, hS.F ht⟩) hS.2.2 dX2_copyFrom_56
theorem dX4_clear_0 : decode cX4_clear 0 = .ok (.aload_n 0, 1) := by decide +kernel
theorem dX4_clear_1 : decode cX4_clear 1 = .ok (.iconst (-1), 1) := by decide +kernel
theorem dX4_clear_2 : decode cX4_clear 2 = .ok (.putfield 15, 3) := by decide +kernel
theorem dX4_clear_5 : decode cX4_clear 5 = .ok (.aload_n 0, 1) := by decide +kernel
theorem dX4_clear_6 : decode cX4_clear 6 = .ok (.iconst (-1), 1) := by decide +kernel
theorem dX4_clear_7 : decode cX4_clear 7 = .ok (.putfield 19, 3) := by decide +kernel
theorem dX4_clear_10 : decode cX4_clear 10 = .ok (.aload_n 0, 1) := by decide +kernel
theorem dX4_clear_11 : decode cX4_clear 11 = .ok (.iconst (-1), 1) := by decide +kernel
theorem dX4_clear_12 : decode cX4_clear 12 = .ok (.putfield 22, 3) := by decide +kernel
theorem dX4_clear_15 : decode cX4_clear 15 = .ok (.aload_n 0, 1) := by decide +kernel
theorem dX4_clear_16 : decode cX4_clear 16 = .ok (.iconst 0, 1) := by decide +kernel
theorem dX4_clear_17 : decode cX4_clear 17 = .ok (.putfield 25, 3) := by decide +kernel
theorem dX4_clear_20 : decode cX4_clear 20 = .ok (.aload_n 0, 1) := by decide +kernel
theorem dX4_clear_21 : decode cX4_clear 21 = .ok (.iconst 0, 1) := by decide +kernel
theorem dX4_clear_22 : decode cX4_clear 22 = .ok (.putfield 28, 3) := by decide +kernel
